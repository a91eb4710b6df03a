section
-- ===== PART A: goes FIRST, ahead of the names: the tables' words, and 'selects' of the private methods out of them =====
/-- a private method of a class that the tables say can be made, by its rows of tables_1 -/
def lw_okq (q : MethodName × Nat) : Prop := (q.1.cls ≠ "java/lang/invoke/MethodHandle" ∧ q.1.cls ≠ "java/lang/invoke/VarHandle") ∧ Cond.instantiable q.1.cls q.2 ∈ tables_1 ∧ Cond.privateMethod q.1 ∈ tables_1 ∧ Cond.instanceMethod q.1 ∈ tables_1
theorem lw_p0 : lw_okq (⟨"BoxPool", "giveBoxes", "(LBoxPool$Booking;II)I"⟩, 11) := ⟨⟨by decide +kernel, by decide +kernel⟩, List.mem_of_getElem? (i := 18) (by decide +kernel), List.mem_of_getElem? (i := 114) (by decide +kernel), List.mem_of_getElem? (i := 115) (by decide +kernel)⟩
theorem lw_p1 : lw_okq (⟨"BoxPool", "canServe", "(LBoxPool$Box;)Z"⟩, 11) := ⟨⟨by decide +kernel, by decide +kernel⟩, List.mem_of_getElem? (i := 18) (by decide +kernel), List.mem_of_getElem? (i := 122) (by decide +kernel), List.mem_of_getElem? (i := 123) (by decide +kernel)⟩
theorem lw_p2 : lw_okq (⟨"java/lang/Throwable", "fillInStackTrace", "(I)Ljava/lang/Throwable;"⟩, 6) := ⟨⟨by decide +kernel, by decide +kernel⟩, List.mem_of_getElem? (i := 191) (by decide +kernel), List.mem_of_getElem? (i := 189) (by decide +kernel), List.mem_of_getElem? (i := 190) (by decide +kernel)⟩
theorem lw_p3 : lw_okq (⟨"BoxPool", "boxAt", "(I)LBoxPool$Box;"⟩, 11) := ⟨⟨by decide +kernel, by decide +kernel⟩, List.mem_of_getElem? (i := 18) (by decide +kernel), List.mem_of_getElem? (i := 386) (by decide +kernel), List.mem_of_getElem? (i := 387) (by decide +kernel)⟩
theorem lw_p4 : lw_okq (⟨"BoxPool$Life", "liveAgain", "()V"⟩, 6) := ⟨⟨by decide +kernel, by decide +kernel⟩, List.mem_of_getElem? (i := 280) (by decide +kernel), List.mem_of_getElem? (i := 416) (by decide +kernel), List.mem_of_getElem? (i := 417) (by decide +kernel)⟩
theorem lw_p5 : lw_okq (⟨"BoxPool", "quotaLeft", "(II)I"⟩, 11) := ⟨⟨by decide +kernel, by decide +kernel⟩, List.mem_of_getElem? (i := 18) (by decide +kernel), List.mem_of_getElem? (i := 504) (by decide +kernel), List.mem_of_getElem? (i := 505) (by decide +kernel)⟩
theorem lw_p6 : lw_okq (⟨"BoxPool", "bookingAt", "(I)LBoxPool$Booking;"⟩, 11) := ⟨⟨by decide +kernel, by decide +kernel⟩, List.mem_of_getElem? (i := 18) (by decide +kernel), List.mem_of_getElem? (i := 604) (by decide +kernel), List.mem_of_getElem? (i := 605) (by decide +kernel)⟩
theorem lw_p7 : lw_okq (⟨"BoxPool", "makePlan", "(I)V"⟩, 11) := ⟨⟨by decide +kernel, by decide +kernel⟩, List.mem_of_getElem? (i := 18) (by decide +kernel), List.mem_of_getElem? (i := 617) (by decide +kernel), List.mem_of_getElem? (i := 618) (by decide +kernel)⟩
theorem lw_p8 : lw_okq (⟨"BoxPool", "lackingAt", "(II)I"⟩, 11) := ⟨⟨by decide +kernel, by decide +kernel⟩, List.mem_of_getElem? (i := 18) (by decide +kernel), List.mem_of_getElem? (i := 625) (by decide +kernel), List.mem_of_getElem? (i := 626) (by decide +kernel)⟩
theorem lw_p9 : lw_okq (⟨"BoxPool$Plan", "findLeastFrom", "([[I)V"⟩, 11) := ⟨⟨by decide +kernel, by decide +kernel⟩, List.mem_of_getElem? (i := 32) (by decide +kernel), List.mem_of_getElem? (i := 643) (by decide +kernel), List.mem_of_getElem? (i := 644) (by decide +kernel)⟩
theorem lw_p10 : lw_okq (⟨"BoxPool$Plan", "cheapest", "([[II)I"⟩, 11) := ⟨⟨by decide +kernel, by decide +kernel⟩, List.mem_of_getElem? (i := 32) (by decide +kernel), List.mem_of_getElem? (i := 647) (by decide +kernel), List.mem_of_getElem? (i := 648) (by decide +kernel)⟩
theorem lw_p11 : lw_okq (⟨"BoxPoolModel", "holds", "(I)Z"⟩, 38) := ⟨⟨by decide +kernel, by decide +kernel⟩, List.mem_of_getElem? (i := 700) (by decide +kernel), List.mem_of_getElem? (i := 838) (by decide +kernel), List.mem_of_getElem? (i := 839) (by decide +kernel)⟩
theorem lw_p12 : lw_okq (⟨"BoxPoolModel", "isBox", "(I)Z"⟩, 38) := ⟨⟨by decide +kernel, by decide +kernel⟩, List.mem_of_getElem? (i := 700) (by decide +kernel), List.mem_of_getElem? (i := 853) (by decide +kernel), List.mem_of_getElem? (i := 854) (by decide +kernel)⟩
theorem lw_p13 : lw_okq (⟨"BoxPoolModel", "isGone", "(I)Z"⟩, 38) := ⟨⟨by decide +kernel, by decide +kernel⟩, List.mem_of_getElem? (i := 700) (by decide +kernel), List.mem_of_getElem? (i := 857) (by decide +kernel), List.mem_of_getElem? (i := 858) (by decide +kernel)⟩
theorem lw_p14 : lw_okq (⟨"BoxPoolModel", "reports", "(IIII)I"⟩, 38) := ⟨⟨by decide +kernel, by decide +kernel⟩, List.mem_of_getElem? (i := 700) (by decide +kernel), List.mem_of_getElem? (i := 865) (by decide +kernel), List.mem_of_getElem? (i := 866) (by decide +kernel)⟩
theorem lw_p15 : lw_okq (⟨"BoxPoolModel", "wasTold", "(IIII)Z"⟩, 38) := ⟨⟨by decide +kernel, by decide +kernel⟩, List.mem_of_getElem? (i := 700) (by decide +kernel), List.mem_of_getElem? (i := 869) (by decide +kernel), List.mem_of_getElem? (i := 870) (by decide +kernel)⟩
def lw_privs_1 : List (MethodName × Nat) := [(⟨"BoxPool", "giveBoxes", "(LBoxPool$Booking;II)I"⟩, 11), (⟨"BoxPool", "canServe", "(LBoxPool$Box;)Z"⟩, 11), (⟨"java/lang/Throwable", "fillInStackTrace", "(I)Ljava/lang/Throwable;"⟩, 6), (⟨"BoxPool", "boxAt", "(I)LBoxPool$Box;"⟩, 11), (⟨"BoxPool$Life", "liveAgain", "()V"⟩, 6), (⟨"BoxPool", "quotaLeft", "(II)I"⟩, 11), (⟨"BoxPool", "bookingAt", "(I)LBoxPool$Booking;"⟩, 11), (⟨"BoxPool", "makePlan", "(I)V"⟩, 11), (⟨"BoxPool", "lackingAt", "(II)I"⟩, 11), (⟨"BoxPool$Plan", "findLeastFrom", "([[I)V"⟩, 11), (⟨"BoxPool$Plan", "cheapest", "([[II)I"⟩, 11), (⟨"BoxPoolModel", "holds", "(I)Z"⟩, 38), (⟨"BoxPoolModel", "isBox", "(I)Z"⟩, 38), (⟨"BoxPoolModel", "isGone", "(I)Z"⟩, 38), (⟨"BoxPoolModel", "reports", "(IIII)I"⟩, 38), (⟨"BoxPoolModel", "wasTold", "(IIII)Z"⟩, 38)]
theorem lw_r1 : ∀ q ∈ lw_privs_1, lw_okq q := List.forall_mem_cons.mpr ⟨lw_p0, List.forall_mem_cons.mpr ⟨lw_p1, List.forall_mem_cons.mpr ⟨lw_p2, List.forall_mem_cons.mpr ⟨lw_p3, List.forall_mem_cons.mpr ⟨lw_p4, List.forall_mem_cons.mpr ⟨lw_p5, List.forall_mem_cons.mpr ⟨lw_p6, List.forall_mem_cons.mpr ⟨lw_p7, List.forall_mem_cons.mpr ⟨lw_p8, List.forall_mem_cons.mpr ⟨lw_p9, List.forall_mem_cons.mpr ⟨lw_p10, List.forall_mem_cons.mpr ⟨lw_p11, List.forall_mem_cons.mpr ⟨lw_p12, List.forall_mem_cons.mpr ⟨lw_p13, List.forall_mem_cons.mpr ⟨lw_p14, List.forall_mem_cons.mpr ⟨lw_p15, fun _ h => absurd h List.not_mem_nil⟩⟩⟩⟩⟩⟩⟩⟩⟩⟩⟩⟩⟩⟩⟩⟩
theorem lw_p16 : lw_okq (⟨"BoxPoolModel", "doubtful", "(I)I"⟩, 38) := ⟨⟨by decide +kernel, by decide +kernel⟩, List.mem_of_getElem? (i := 700) (by decide +kernel), List.mem_of_getElem? (i := 873) (by decide +kernel), List.mem_of_getElem? (i := 874) (by decide +kernel)⟩
theorem lw_p17 : lw_okq (⟨"BoxPoolModel", "placeOn", "(II)I"⟩, 38) := ⟨⟨by decide +kernel, by decide +kernel⟩, List.mem_of_getElem? (i := 700) (by decide +kernel), List.mem_of_getElem? (i := 887) (by decide +kernel), List.mem_of_getElem? (i := 888) (by decide +kernel)⟩
theorem lw_p18 : lw_okq (⟨"BoxPoolModel", "pays", "(II)I"⟩, 38) := ⟨⟨by decide +kernel, by decide +kernel⟩, List.mem_of_getElem? (i := 700) (by decide +kernel), List.mem_of_getElem? (i := 911) (by decide +kernel), List.mem_of_getElem? (i := 912) (by decide +kernel)⟩
theorem lw_p19 : lw_okq (⟨"BoxPoolModel", "isCustomers", "(II)Z"⟩, 38) := ⟨⟨by decide +kernel, by decide +kernel⟩, List.mem_of_getElem? (i := 700) (by decide +kernel), List.mem_of_getElem? (i := 915) (by decide +kernel), List.mem_of_getElem? (i := 916) (by decide +kernel)⟩
theorem lw_p20 : lw_okq (⟨"BoxPoolModel", "isLeased", "(II)Z"⟩, 38) := ⟨⟨by decide +kernel, by decide +kernel⟩, List.mem_of_getElem? (i := 700) (by decide +kernel), List.mem_of_getElem? (i := 919) (by decide +kernel), List.mem_of_getElem? (i := 920) (by decide +kernel)⟩
theorem lw_p21 : lw_okq (⟨"BoxPoolModel", "canHand", "(I)Z"⟩, 38) := ⟨⟨by decide +kernel, by decide +kernel⟩, List.mem_of_getElem? (i := 700) (by decide +kernel), List.mem_of_getElem? (i := 931) (by decide +kernel), List.mem_of_getElem? (i := 932) (by decide +kernel)⟩
theorem lw_p22 : lw_okq (⟨"BoxPoolModel", "more", "(I)I"⟩, 38) := ⟨⟨by decide +kernel, by decide +kernel⟩, List.mem_of_getElem? (i := 700) (by decide +kernel), List.mem_of_getElem? (i := 935) (by decide +kernel), List.mem_of_getElem? (i := 936) (by decide +kernel)⟩
theorem lw_p23 : lw_okq (⟨"BoxPoolModel", "hands", "(I)I"⟩, 38) := ⟨⟨by decide +kernel, by decide +kernel⟩, List.mem_of_getElem? (i := 700) (by decide +kernel), List.mem_of_getElem? (i := 939) (by decide +kernel), List.mem_of_getElem? (i := 940) (by decide +kernel)⟩
theorem lw_p24 : lw_okq (⟨"BoxPoolModel", "mending", "(I)I"⟩, 38) := ⟨⟨by decide +kernel, by decide +kernel⟩, List.mem_of_getElem? (i := 700) (by decide +kernel), List.mem_of_getElem? (i := 950) (by decide +kernel), List.mem_of_getElem? (i := 951) (by decide +kernel)⟩
theorem lw_p25 : lw_okq (⟨"BoxPoolModel", "serves", "(I)I"⟩, 38) := ⟨⟨by decide +kernel, by decide +kernel⟩, List.mem_of_getElem? (i := 700) (by decide +kernel), List.mem_of_getElem? (i := 974) (by decide +kernel), List.mem_of_getElem? (i := 975) (by decide +kernel)⟩
theorem lw_p26 : lw_okq (⟨"BoxPoolModel", "lacking", "(I)I"⟩, 38) := ⟨⟨by decide +kernel, by decide +kernel⟩, List.mem_of_getElem? (i := 700) (by decide +kernel), List.mem_of_getElem? (i := 978) (by decide +kernel), List.mem_of_getElem? (i := 979) (by decide +kernel)⟩
theorem lw_p27 : lw_okq (⟨"BoxPoolModel", "given", "(I)I"⟩, 38) := ⟨⟨by decide +kernel, by decide +kernel⟩, List.mem_of_getElem? (i := 700) (by decide +kernel), List.mem_of_getElem? (i := 982) (by decide +kernel), List.mem_of_getElem? (i := 983) (by decide +kernel)⟩
theorem lw_p28 : lw_okq (⟨"BoxPoolModel", "canServe", "(I)Z"⟩, 38) := ⟨⟨by decide +kernel, by decide +kernel⟩, List.mem_of_getElem? (i := 700) (by decide +kernel), List.mem_of_getElem? (i := 986) (by decide +kernel), List.mem_of_getElem? (i := 987) (by decide +kernel)⟩
theorem lw_p29 : lw_okq (⟨"BoxPoolModel", "isBooking", "(I)Z"⟩, 38) := ⟨⟨by decide +kernel, by decide +kernel⟩, List.mem_of_getElem? (i := 700) (by decide +kernel), List.mem_of_getElem? (i := 994) (by decide +kernel), List.mem_of_getElem? (i := 995) (by decide +kernel)⟩
theorem lw_p30 : lw_okq (⟨"BoxPoolModel", "lacksOf", "(I)I"⟩, 38) := ⟨⟨by decide +kernel, by decide +kernel⟩, List.mem_of_getElem? (i := 700) (by decide +kernel), List.mem_of_getElem? (i := 1002) (by decide +kernel), List.mem_of_getElem? (i := 1003) (by decide +kernel)⟩
theorem lw_p31 : lw_okq (⟨"BoxPoolModel", "lacksAt", "(II)I"⟩, 38) := ⟨⟨by decide +kernel, by decide +kernel⟩, List.mem_of_getElem? (i := 700) (by decide +kernel), List.mem_of_getElem? (i := 1006) (by decide +kernel), List.mem_of_getElem? (i := 1007) (by decide +kernel)⟩
def lw_privs_2 : List (MethodName × Nat) := [(⟨"BoxPoolModel", "doubtful", "(I)I"⟩, 38), (⟨"BoxPoolModel", "placeOn", "(II)I"⟩, 38), (⟨"BoxPoolModel", "pays", "(II)I"⟩, 38), (⟨"BoxPoolModel", "isCustomers", "(II)Z"⟩, 38), (⟨"BoxPoolModel", "isLeased", "(II)Z"⟩, 38), (⟨"BoxPoolModel", "canHand", "(I)Z"⟩, 38), (⟨"BoxPoolModel", "more", "(I)I"⟩, 38), (⟨"BoxPoolModel", "hands", "(I)I"⟩, 38), (⟨"BoxPoolModel", "mending", "(I)I"⟩, 38), (⟨"BoxPoolModel", "serves", "(I)I"⟩, 38), (⟨"BoxPoolModel", "lacking", "(I)I"⟩, 38), (⟨"BoxPoolModel", "given", "(I)I"⟩, 38), (⟨"BoxPoolModel", "canServe", "(I)Z"⟩, 38), (⟨"BoxPoolModel", "isBooking", "(I)Z"⟩, 38), (⟨"BoxPoolModel", "lacksOf", "(I)I"⟩, 38), (⟨"BoxPoolModel", "lacksAt", "(II)I"⟩, 38)]
theorem lw_r2 : ∀ q ∈ lw_privs_2, lw_okq q := List.forall_mem_cons.mpr ⟨lw_p16, List.forall_mem_cons.mpr ⟨lw_p17, List.forall_mem_cons.mpr ⟨lw_p18, List.forall_mem_cons.mpr ⟨lw_p19, List.forall_mem_cons.mpr ⟨lw_p20, List.forall_mem_cons.mpr ⟨lw_p21, List.forall_mem_cons.mpr ⟨lw_p22, List.forall_mem_cons.mpr ⟨lw_p23, List.forall_mem_cons.mpr ⟨lw_p24, List.forall_mem_cons.mpr ⟨lw_p25, List.forall_mem_cons.mpr ⟨lw_p26, List.forall_mem_cons.mpr ⟨lw_p27, List.forall_mem_cons.mpr ⟨lw_p28, List.forall_mem_cons.mpr ⟨lw_p29, List.forall_mem_cons.mpr ⟨lw_p30, List.forall_mem_cons.mpr ⟨lw_p31, fun _ h => absurd h List.not_mem_nil⟩⟩⟩⟩⟩⟩⟩⟩⟩⟩⟩⟩⟩⟩⟩⟩
theorem lw_p32 : lw_okq (⟨"BoxPoolModel", "plans", "(I)I"⟩, 38) := ⟨⟨by decide +kernel, by decide +kernel⟩, List.mem_of_getElem? (i := 700) (by decide +kernel), List.mem_of_getElem? (i := 1010) (by decide +kernel), List.mem_of_getElem? (i := 1011) (by decide +kernel)⟩
theorem lw_p33 : lw_okq (⟨"BoxPoolModel", "laysOut", "(I)V"⟩, 38) := ⟨⟨by decide +kernel, by decide +kernel⟩, List.mem_of_getElem? (i := 700) (by decide +kernel), List.mem_of_getElem? (i := 1014) (by decide +kernel), List.mem_of_getElem? (i := 1015) (by decide +kernel)⟩
theorem lw_p34 : lw_okq (⟨"BoxPoolModel", "leastFrom", "(I)I"⟩, 38) := ⟨⟨by decide +kernel, by decide +kernel⟩, List.mem_of_getElem? (i := 700) (by decide +kernel), List.mem_of_getElem? (i := 1018) (by decide +kernel), List.mem_of_getElem? (i := 1019) (by decide +kernel)⟩
theorem lw_p35 : lw_okq (⟨"BoxPoolModel", "bringing", "(II)I"⟩, 38) := ⟨⟨by decide +kernel, by decide +kernel⟩, List.mem_of_getElem? (i := 700) (by decide +kernel), List.mem_of_getElem? (i := 1022) (by decide +kernel), List.mem_of_getElem? (i := 1023) (by decide +kernel)⟩
theorem lw_p36 : lw_okq (⟨"BoxPoolModel", "isChosen", "(II)Z"⟩, 38) := ⟨⟨by decide +kernel, by decide +kernel⟩, List.mem_of_getElem? (i := 700) (by decide +kernel), List.mem_of_getElem? (i := 1027) (by decide +kernel), List.mem_of_getElem? (i := 1028) (by decide +kernel)⟩
theorem lw_p37 : lw_okq (⟨"BoxPoolModel", "broughtFor", "(II)I"⟩, 38) := ⟨⟨by decide +kernel, by decide +kernel⟩, List.mem_of_getElem? (i := 700) (by decide +kernel), List.mem_of_getElem? (i := 1038) (by decide +kernel), List.mem_of_getElem? (i := 1039) (by decide +kernel)⟩
theorem lw_p38 : lw_okq (⟨"BoxPoolModel", "told", "(II)I"⟩, 38) := ⟨⟨by decide +kernel, by decide +kernel⟩, List.mem_of_getElem? (i := 700) (by decide +kernel), List.mem_of_getElem? (i := 1046) (by decide +kernel), List.mem_of_getElem? (i := 1047) (by decide +kernel)⟩
def lw_privs_3 : List (MethodName × Nat) := [(⟨"BoxPoolModel", "plans", "(I)I"⟩, 38), (⟨"BoxPoolModel", "laysOut", "(I)V"⟩, 38), (⟨"BoxPoolModel", "leastFrom", "(I)I"⟩, 38), (⟨"BoxPoolModel", "bringing", "(II)I"⟩, 38), (⟨"BoxPoolModel", "isChosen", "(II)Z"⟩, 38), (⟨"BoxPoolModel", "broughtFor", "(II)I"⟩, 38), (⟨"BoxPoolModel", "told", "(II)I"⟩, 38)]
theorem lw_r3 : ∀ q ∈ lw_privs_3, lw_okq q := List.forall_mem_cons.mpr ⟨lw_p32, List.forall_mem_cons.mpr ⟨lw_p33, List.forall_mem_cons.mpr ⟨lw_p34, List.forall_mem_cons.mpr ⟨lw_p35, List.forall_mem_cons.mpr ⟨lw_p36, List.forall_mem_cons.mpr ⟨lw_p37, List.forall_mem_cons.mpr ⟨lw_p38, fun _ h => absurd h List.not_mem_nil⟩⟩⟩⟩⟩⟩⟩
def lw_privs : List (MethodName × Nat) := lw_privs_1 ++ (lw_privs_2 ++ (lw_privs_3))
def lw_tbl : List Cond := k2_sels lw_privs ++ tables_1
theorem lw_privs_ok : ∀ q ∈ lw_privs, lw_okq q := by
  show ∀ q ∈ lw_privs_1 ++ (lw_privs_2 ++ (lw_privs_3)), lw_okq q
  exact List.forall_mem_append.mpr ⟨lw_r1, List.forall_mem_append.mpr ⟨lw_r2, lw_r3⟩⟩
-- ===== end of PART A; then your names; then what follows =====
end
section
/-! ===== BEGIN words of one list among another's, by their places ===== -/
theorem goodIn_r {big : List Cond} (ws : List Cond) (ps : List Nat) (hp : ws = ps.filterMap (fun i => big[i]?)) (h : ws.all goodWord = true) : GoodIn big ws := by
  intro w hw
  have h1 := List.all_eq_true.mp h w hw
  rw [hp] at hw
  obtain ⟨i, -, hi⟩ := List.mem_filterMap.mp hw
  have hm : w ∈ big := by first | exact List.mem_of_getElem? hi | exact List.getElem?_mem hi
  exact ⟨hm, good_of_word h1⟩
theorem goodIn_app {big a b : List Cond} (ha : GoodIn big a) (hb : GoodIn big b) : GoodIn big (a ++ b) := fun w h => (List.mem_append.mp h).elim (ha w) (hb w)
theorem goodIn_ca {big a b : List Cond} {c : Cond} (ha : GoodIn big (c :: a)) (hb : GoodIn big b) : GoodIn big (c :: (a ++ b)) := fun w h => (List.mem_cons.mp h).elim (fun e => ha w (List.mem_cons.mpr (Or.inl e))) (fun h => (List.mem_append.mp h).elim (fun h => ha w (List.mem_cons.mpr (Or.inr h))) (hb w))
theorem goodIn_sub {big ws : List Cond} (hm : ∀ w ∈ ws, w ∈ big) (h : ws.all goodWord = true) : GoodIn big ws := fun w hw => ⟨hm w hw, good_of_word (List.all_eq_true.mp h w hw)⟩
/-! ===== END ===== -/


/-! ===== BEGIN exceptions that leave a method, and their catching by the caller (launches without stack traces) ===== -/
section VXA
/-! The laws vx_back, vx_callV, vx_callS, vx_callSW, vx_throw0, vx_throwS follow proofs of the library, with one case more: JvmDerived/Free/Laws.lean (Back.of_free), Shelf42/LK1.lean (callV, callS), Shelf/KitTraced.lean (throwNew0V, throwNewS). -/
/-- where a method has thrown q: the class by its name, the cell, what was written, the world -/
def vx_T (XC : String → State → State → Prop) (st : State) (q : Addr) (t : State) (mc ms : Nat) (free : Addr → Prop) : Prop :=
  ∃ (E : String) (ce : Cell) (L : List Loc), XC E st t ∧ t.heap[q]? = some ce ∧ ce.vm = .none ∧ st.vm.findClass E = some ce.cls ∧ st.WarmedH t.vm ∧ st.sameButNew ({ t with vm := st.vm } : State) L mc ms ∧ ∀ z ∈ L, free z.base
def vx_Q (Qc : Array Value → State → Outcome → State → Prop) (XC : String → State → State → Prop) (mc ms : Nat) (free : Addr → Prop) : Array Value → State → Outcome → State → Prop := fun a st o t =>
  (Qc a st o t ∧ ∃ L, FrameEnd st o t L mc ms ∧ ∀ q ∈ L, free q.base) ∨ ∃ q, o = .threw q ∧ vx_T XC st q t mc ms free
/-- a callee that returns or throws -/
def vx_Met (l : Launch) (y : MethodName) (ws : List Cond) (rm : Room) (Pc : Array Value → State → Prop) (Qc : Array Value → State → Outcome → State → Prop) (XC : String → State → State → Prop) (mc ms : Nat) (free : Addr → Prop) : Prop :=
  MetFree l y (headSpec ws rm) Pc (fun _ _ _ _ _ => True) (vx_Q Qc XC mc ms free)
def vx_Post (XC : String → State → State → Prop) (mc ms : Nat) (free : Addr → Prop) : Pt → Array Value → Addr → Pt → Prop := fun A a q B =>
  ∃ (g : JFrame) (mk : MethodId) (t : State) (L : List Loc) (E : String) (ce : Cell), B.U.heap = t.heap ∧ B.U.vm = t.vm ∧ XC E (A.U.calling g mk a) t ∧ t.heap[q]? = some ce ∧ ce.vm = .none ∧ A.U.vm.findClass E = some ce.cls ∧ B.locs = A.locs ++ L ∧ (∀ z ∈ L, free z.base) ∧ B.cells = A.cells + mc ∧ B.slots = A.slots + ms
def vx_Back (l : Launch) (R : Room) (p : Program) (e : Env) (below : List Frame) (s : State) (sargs : Array Value) (y : MethodName) (len W9 : Nat)
    (Pre : Pt → Array Value → Prop) (Post : Pt → Array Value → Option Value → Pt → Prop) (PostX : Pt → Array Value → Addr → Pt → Prop) : Prop :=
  ∀ (m : MethodId) (meth : Method) (c : Code) (A : Pt) (g : JFrame) (ig : Instr) (mk : MethodId) (a : Array Value),
    Stand p l e R s m sargs below meth c A.U A.locs A.cells A.slots → g.method = m → g.locals.size = c.maxLocals → decode c.code g.pc = .ok (ig, len) →
    2 * g.monitorRoom + (g.stack.map fun v => v.category).sum ≤ W9 → A.U.methodNamed? y = some mk → Pre A a →
    (∃ (v : Option Value) (B : Pt), Stand p l e R s m sargs below meth c B.U B.locs B.cells B.slots ∧ Post A a v B ∧
      Steps p.tables e below (doInvoke e (A.U.setTop g) [] mk a).1 (B.U.setTop { g with pc := g.pc + len, stack := v.toList ++ g.stack })) ∨
    (∃ (q : Addr) (B : Pt), Stand p l e R s m sargs below meth c B.U B.locs B.cells B.slots ∧ PostX A a q B ∧
      Steps p.tables e below (doInvoke e (A.U.setTop g) [] mk a).1 ((B.U.setTop g).pushFrame (.throwing q)))
section Payer
variable {l : Launch} {R : Room} {p : Program} {e : Env} {below : List Frame} {s : State} {sargs : Array Value} {y : MethodName} {len W9 : Nat}
theorem vx_back {ws : List Cond} {rm : Room} {Pc : Array Value → State → Prop} {Qc : Array Value → State → Outcome → State → Prop} {XC : String → State → State → Prop} {mc ms : Nat} {free : Addr → Prop} {bytes : ByteArray} {maxL : Nat} {ret : Option FieldType}
    (hM : vx_Met l y ws rm Pc Qc XC mc ms free) (hblind : FrameBlind Pc) (hrc : rm.cells = mc) (hrs : rm.slots = ms)
    (hframes : rm.frames + 1 ≤ R.frames) (hlocals : W9 + (maxL + 11) + rm.locals ≤ R.locals)
    (hws : ∀ w ∈ ws, ∀ a' U, s.WarmedH U.vm → w.before a' U = true) (hcode : Cond.code y bytes maxL ret ∈ ws) (hinit : ∀ a' U, s.WarmedH U.vm → (Cond.initialized y.cls).before a' U = true) :
    vx_Back l R p e below s sargs y len W9 (PreOf R mc ms Pc) (PostOf Qc mc ms free) (vx_Post XC mc ms free) := by
  intro m meth c A g ig mk a X hg hsize hdg hW hn hp
  have h1 : (headSpec ws rm).pre.before a A.U = true := atoms_intro fun w hw => hws w hw _ _ X.warmed
  have h2 : (Cond.code y bytes maxL ret).before a A.U = true := hws _ hcode _ _ X.warmed
  have h3 : (Cond.initialized y.cls).before a A.U = true := hinit _ _ X.warmed
  have h4 : A.cells + (headSpec ws rm).room.cells ≤ R.cells := by rw [show (headSpec ws rm).room.cells = mc from hrc]; exact hp.1
  have h5 : A.slots + (headSpec ws rm).room.slots ≤ R.slots := by rw [show (headSpec ws rm).room.slots = ms from hrs]; exact hp.2.1
  have hPc : Pc a (A.U.calling g mk a) := hblind _ _ _ _ hp.2.2
  obtain ⟨U, Ls, c0, s0⟩ := A
  dsimp only [Pt.U, Pt.locs, Pt.cells, Pt.slots] at h1 h2 h3 h4 h5 X hn hPc ⊢
  obtain ⟨methY, cY, hmY, hcY, -, hlY, -, -, -, -⟩ := Cond.code_spec hn h2
  obtain ⟨kY, hkY, -⟩ := className_of_methodNamed hn
  have hinitY : kY.init = .initialized := Cond.initialized_spec (findClass_of_methodNamed hn) hkY h3
  have h : At U g.method c below := by rw [hg]; exact X.here
  have hlocals9 : W9 + (maxL + 11) + (headSpec ws rm).room.locals ≤ R.locals := hlocals
  have happ : (headSpec ws rm).appliesLoose y e.platform (U.calling g mk a) = true :=
    Spec.appliesLoose_calling (g := g) h hdg hn hkY hinitY
      (X.room_calling (g := g) (R' := (headSpec ws rm).room) hsize hmY hcY hframes (by rw [hlY]; omega) h4 h5) h1
  obtain ⟨mid, hmid⟩ := h.above
  have hfr : (U.setTop g).frames = (.java g :: mid) ++ below := by rw [State.frames_setTop' g h.top, hmid]; rfl
  obtain ⟨o, s₂, hsteps, -, hend, hq⟩ := Steps.callFree hM p X.admits X.cas X.clock (acts := []) hfr happ hPc trivial
  have hq' : vx_Q Qc XC mc ms free a (U.calling g mk a) o s₂ := hq
  rw [State.frames_setTop' g h.top] at hend
  obtain ⟨g₀, hg0⟩ := Option.isSome_iff_exists.mp h.top
  obtain ⟨r, hr⟩ := State.topJava?_eq_some.mp hg0
  have hr' : (({ U with heap := s₂.heap, slotsUsed := s₂.slotsUsed } : State).setVm s₂.vm).frames = .java g₀ :: r := hr
  rcases hq' with ⟨hqc, L, hfe, hL⟩ | ⟨q, rfl, E, ce, L, hx, hce, hcv, hcl, hW₂, hsm, hL⟩
  · obtain ⟨⟨v, rfl⟩, hW₂, e2, q2, q3, q4, q5, q6⟩ := id hfe
    have e3 : s₂ = ({ (U.calling g mk a).setFrames s₂.frames with heap := s₂.heap, slotsUsed := s₂.slotsUsed } : State).setVm s₂.vm := by
      have : s₂ = ({ s₂ with vm := (U.calling g mk a).vm } : State).setVm s₂.vm := rfl
      rw [e2] at this
      exact this
    obtain ⟨c₂, i₂, len₂, hc₂, hd₂, hf₂⟩ := hend
    have hW' : U.WarmedH s₂.vm := hW₂
    have hcc : c₂ = c := by
      have h1 : s₂.code? g.method = U.code? g.method := by
        rw [State.code?_eq, State.code?_eq, hW'.alike.method?]
      exact Option.some.inj (hc₂.symm.trans (h1.trans h.code))
    subst hcc
    have hlen : len₂ = len := by rw [hdg] at hd₂; cases hd₂; rfl
    subst hlen
    have hs₂ : s₂ = (({ U with heap := s₂.heap, slotsUsed := s₂.slotsUsed } : State).setVm s₂.vm).setTop { g with pc := g.pc + len₂, stack := v.toList ++ g.stack } := by
      refine e3.trans ?_
      rw [hf₂, State.calling_eq h.top, State.setFrames_setFrames, State.setTop_of_frames _ hr', hr]
      rfl
    have hsame : U.sameButNew ({ U with heap := s₂.heap, slotsUsed := s₂.slotsUsed } : State) L mc ms := by
      refine ⟨?_, q2, q3, q4, q5, q6⟩
      obtain ⟨t, ht, -⟩ := State.frames_cons hr
      show ({ U with heap := s₂.heap, slotsUsed := s₂.slotsUsed } : State) = { U.setFrames U.frames with heap := s₂.heap, slotsUsed := s₂.slotsUsed }
      rw [State.setFrames_self ht]
    subst hg
    refine Or.inl ⟨v, ⟨(({ U with heap := s₂.heap, slotsUsed := s₂.slotsUsed } : State).setVm s₂.vm), Ls ++ L, c0 + mc, s0 + ms⟩,
      ⟨X.admits, X.cas, X.clock, X.frames, X.room, X.hears, X.method, X.code, (X.here.setHeapUsed s₂.heap s₂.slotsUsed).setVm hW'.alike, X.tail, State.WarmedH.trans X.warmed hW', X.limits, X.bytes, X.same.trans (hsame.setVm s.vm)⟩,
      ⟨g, mk, s₂, L, rfl, rfl, hqc, rfl, hL, rfl, rfl⟩, ?_⟩
    show Steps p.tables e below _ ((({ U with heap := s₂.heap, slotsUsed := s₂.slotsUsed } : State).setVm s₂.vm).setTop { g with pc := g.pc + len₂, stack := v.toList ++ g.stack })
    rw [← hs₂]
    exact hsteps
  · obtain ⟨e2, q2, q3, q4, q5, q6⟩ := id hsm
    have e3 : s₂ = ({ (U.calling g mk a).setFrames s₂.frames with heap := s₂.heap, slotsUsed := s₂.slotsUsed } : State).setVm s₂.vm := by
      have : s₂ = ({ s₂ with vm := (U.calling g mk a).vm } : State).setVm s₂.vm := rfl
      rw [e2] at this
      exact this
    have hf₂ : s₂.frames = .throwing q :: .java g :: U.frames.tail := hend
    have hW' : U.WarmedH s₂.vm := hW₂
    have hs₂ : s₂ = ((({ U with heap := s₂.heap, slotsUsed := s₂.slotsUsed } : State).setVm s₂.vm).setTop g).pushFrame (.throwing q) := by
      refine e3.trans ?_
      rw [hf₂, State.calling_eq h.top, State.setFrames_setFrames, State.pushFrame, State.frames_setTop _ hr', State.setTop_of_frames _ hr', State.setFrames_setFrames, hr]
      rfl
    have hsame : U.sameButNew ({ U with heap := s₂.heap, slotsUsed := s₂.slotsUsed } : State) L mc ms := by
      refine ⟨?_, q2, q3, q4, q5, q6⟩
      obtain ⟨t, ht, -⟩ := State.frames_cons hr
      show ({ U with heap := s₂.heap, slotsUsed := s₂.slotsUsed } : State) = { U.setFrames U.frames with heap := s₂.heap, slotsUsed := s₂.slotsUsed }
      rw [State.setFrames_self ht]
    subst hg
    refine Or.inr ⟨q, ⟨(({ U with heap := s₂.heap, slotsUsed := s₂.slotsUsed } : State).setVm s₂.vm), Ls ++ L, c0 + mc, s0 + ms⟩,
      ⟨X.admits, X.cas, X.clock, X.frames, X.room, X.hears, X.method, X.code, (X.here.setHeapUsed s₂.heap s₂.slotsUsed).setVm hW'.alike, X.tail, State.WarmedH.trans X.warmed hW', X.limits, X.bytes, X.same.trans (hsame.setVm s.vm)⟩,
      ⟨g, mk, s₂, L, E, ce, rfl, rfl, hx, hce, hcv, hcl, rfl, hL, rfl, rfl⟩, ?_⟩
    show Steps p.tables e below _ (((({ U with heap := s₂.heap, slotsUsed := s₂.slotsUsed } : State).setVm s₂.vm).setTop g).pushFrame (.throwing q))
    rw [← hs₂]
    exact hsteps
end Payer
section Calls
variable {p : Program} {l : Launch} {e : Env} {R : Room} {s : State} {m : MethodId} {args : Array Value} {below : List Frame} {meth : Method} {c : Code} {T : State} {locs : List Loc} {cells slots : Nat}
theorem vx_callV (X : Stand p l e R s m args below meth c T locs cells slots) (hexec : p.tables.exec = Jvm.exec) {own C : String} {index : Nat} {y : MethodName} {bytes : ByteArray} {maxL : Nat} {ret : Option FieldType}
    (hown : s.vm.findClass own = some m.cls) (hlink : (Cond.methodLink own index y).before args s = true) (hinst : (Cond.instanceMethod y).before args s = true) (hsel : (Cond.selects C y y).before args s = true)
    (hcode : (Cond.code y bytes maxL ret).before args s = true) (hy : y.cls ≠ "java/lang/invoke/MethodHandle" ∧ y.cls ≠ "java/lang/invoke/VarHandle")
    {W9 : Nat} {Pre : Pt → Array Value → Prop} {Post : Pt → Array Value → Option Value → Pt → Prop} {PostX : Pt → Array Value → Addr → Pt → Prop} (hK : vx_Back l R p e below s args y 3 W9 Pre Post PostX)
    {b : Addr} {cellB : Cell} (hcell : T.heap[b]? = some cellB) (hobj : cellB.vm.isStatics = false) (hcls : s.vm.findClass C = some cellB.cls)
    {g : JFrame} (hg : g.method = m) (hsize : g.locals.size = c.maxLocals) {argsL rest : List Value} (hlen : ∀ sig, parseMethodDescriptor y.desc = some sig → argsL.length = sig.parameters.length)
    (hstack : g.stack = argsL.reverse ++ .ref b :: rest) (hW : 2 * g.monitorRoom + (rest.map fun v => v.category).sum ≤ W9) (hdg : decode c.code g.pc = .ok (.invokevirtual index, 3))
    (hpre : ∀ vm₁, s.WarmedH vm₁ → Pre ⟨T.setVm vm₁, locs, cells, slots⟩ (Value.ref b :: argsL).toArray) :
    (∃ (v : Option Value) (vm₁ : Vm) (B : Pt), s.WarmedH vm₁ ∧ Stand p l e R s m args below meth c B.U B.locs B.cells B.slots ∧ Post ⟨T.setVm vm₁, locs, cells, slots⟩ (Value.ref b :: argsL).toArray v B ∧
      ∀ target, Steps p.tables e below (B.U.setTop { g with pc := g.pc + 3, stack := v.toList ++ rest }) target → Steps p.tables e below (T.setTop g) target) ∨
    (∃ (q : Addr) (vm₁ : Vm) (B : Pt), s.WarmedH vm₁ ∧ Stand p l e R s m args below meth c B.U B.locs B.cells B.slots ∧ PostX ⟨T.setVm vm₁, locs, cells, slots⟩ (Value.ref b :: argsL).toArray q B ∧
      Steps p.tables e below (T.setTop g) ((B.U.setTop { g with stack := rest }).pushFrame (.throwing q))) := by
  obtain ⟨mk, methM, hnamed, hmethM, hstM, habM⟩ := Cond.instanceMethod_spec hinst
  obtain ⟨methM', cM, hmethM', -, -, -, -, -, -, hsigM⟩ := Cond.code_spec hnamed hcode
  cases hmethM.symm.trans hmethM'
  obtain ⟨c2, r2, m2, q1, q2, q3, q4, kP, hkP, hkPi⟩ := Cond.selects_spec hsel
  cases hcls.symm.trans q1
  cases (State.methodFound?_of_named hnamed hy).symm.trans q2
  cases hnamed.symm.trans q3
  have hselP : selectMethod e.platform s.vm cellB.cls mk = .method mk := by rw [Launch.admits_selectMethod X.admits]; exact q4
  obtain ⟨vm₁, X₁, hstep₁⟩ := X.invokevirtual hexec hown hlink hnamed hmethM hstM hkP hkPi hy (a := b) (cell := cellB) hcell
    (fun z h => by rw [h] at hobj; cases hobj) hselP hmethM habM hkP hkPi (g := g) hg (argsL := argsL) (rest := rest) (hlen _ hsigM) hstack hdg
  rcases hK m meth c ⟨T.setVm vm₁, locs, cells, slots⟩ { g with stack := rest } (.invokevirtual index) mk (Value.ref b :: argsL).toArray X₁ hg hsize hdg hW (X₁.named hnamed) (hpre vm₁ X₁.warmed) with ⟨v, B, X', hpost, hsteps⟩ | ⟨q, B, X', hpost, hsteps⟩
  · exact Or.inl ⟨v, vm₁, B, X₁.warmed, X', hpost, fun target h => hstep₁ _ fun acts => by rw [doInvoke_state]; exact hsteps.trans h⟩
  · exact Or.inr ⟨q, vm₁, B, X₁.warmed, X', hpost, hstep₁ _ fun acts => by rw [doInvoke_state]; exact hsteps⟩
theorem vx_callS (X : Stand p l e R s m args below meth c T locs cells slots) (hexec : p.tables.exec = Jvm.exec) {own : String} {index : Nat} {y : MethodName} {bytes : ByteArray} {maxL : Nat} {ret : Option FieldType}
    (hown : s.vm.findClass own = some m.cls) (hlink : (Cond.methodLink own index y).before args s = true) (hstat : (Cond.static y).before args s = true) (hinit : (Cond.initialized y.cls).before args s = true)
    (hcode : (Cond.code y bytes maxL ret).before args s = true) (hy : y.cls ≠ "java/lang/invoke/MethodHandle" ∧ y.cls ≠ "java/lang/invoke/VarHandle")
    {W9 : Nat} {Pre : Pt → Array Value → Prop} {Post : Pt → Array Value → Option Value → Pt → Prop} {PostX : Pt → Array Value → Addr → Pt → Prop} (hK : vx_Back l R p e below s args y 3 W9 Pre Post PostX)
    {g : JFrame} (hg : g.method = m) (hsize : g.locals.size = c.maxLocals) {argsL rest : List Value} (hlen : ∀ sig, parseMethodDescriptor y.desc = some sig → argsL.length = sig.parameters.length)
    (hstack : g.stack = argsL.reverse ++ rest) (hW : 2 * g.monitorRoom + (rest.map fun v => v.category).sum ≤ W9) (hdg : decode c.code g.pc = .ok (.invokestatic index, 3))
    (hpre : ∀ vm₁, s.WarmedH vm₁ → Pre ⟨T.setVm vm₁, locs, cells, slots⟩ argsL.toArray) :
    (∃ (v : Option Value) (vm₁ : Vm) (B : Pt), s.WarmedH vm₁ ∧ Stand p l e R s m args below meth c B.U B.locs B.cells B.slots ∧ Post ⟨T.setVm vm₁, locs, cells, slots⟩ argsL.toArray v B ∧
      ∀ target, Steps p.tables e below (B.U.setTop { g with pc := g.pc + 3, stack := v.toList ++ rest }) target → Steps p.tables e below (T.setTop g) target) ∨
    (∃ (q : Addr) (vm₁ : Vm) (B : Pt), s.WarmedH vm₁ ∧ Stand p l e R s m args below meth c B.U B.locs B.cells B.slots ∧ PostX ⟨T.setVm vm₁, locs, cells, slots⟩ argsL.toArray q B ∧
      Steps p.tables e below (T.setTop g) ((B.U.setTop { g with stack := rest }).pushFrame (.throwing q))) := by
  obtain ⟨mk, hnamed⟩ := Cond.code_named hcode
  obtain ⟨methM, cM, hmethM, -, -, -, -, -, -, hsigM⟩ := Cond.code_spec hnamed hcode
  have hstatic : methM.isStatic = true := Cond.static_spec hnamed hmethM hstat
  obtain ⟨kP, hkP, -⟩ := className_of_methodNamed hnamed
  have hinitP : kP.init = .initialized := Cond.initialized_spec (findClass_of_methodNamed hnamed) hkP hinit
  obtain ⟨vm₁, X₁, hstep₁⟩ := X.invokestatic hexec hown hlink hnamed hmethM hstatic hkP hinitP hy (g := g) hg (argsL := argsL) (rest := rest) (hlen _ hsigM) hstack hdg
  rcases hK m meth c ⟨T.setVm vm₁, locs, cells, slots⟩ { g with stack := rest } (.invokestatic index) mk argsL.toArray X₁ hg hsize hdg hW (X₁.named hnamed) (hpre vm₁ X₁.warmed) with ⟨v, B, X', hpost, hsteps⟩ | ⟨q, B, X', hpost, hsteps⟩
  · exact Or.inl ⟨v, vm₁, B, X₁.warmed, X', hpost, fun target h => hstep₁ _ fun acts => by rw [doInvoke_state]; exact hsteps.trans h⟩
  · exact Or.inr ⟨q, vm₁, B, X₁.warmed, X', hpost, hstep₁ _ fun acts => by rw [doInvoke_state]; exact hsteps⟩
end Calls
theorem vx_cls {s : State} {T : State} {vm₁ : Vm} {E : String} {k : ClassId} (hW : s.WarmedH vm₁) (h : (T.setVm vm₁).vm.findClass E = some k) : s.vm.findClass E = some k := by
  have h1 : vm₁.findClass E = some k := h
  rw [hW.alike.findClass] at h1
  exact h1
/-- the method's frame g, with q thrown over it -/
def vx_W (p : Program) (l : Launch) (e : Env) (R : Room) (s : State) (m : MethodId) (args : Array Value) (below : List Frame) (meth : Method) (c : Code) (H : Heap) (locs : List Loc) (cells slots : Nat) (Q : State → Prop) (g : JFrame) (q : Addr) : Prop :=
  ∀ T : State, T.heap = H → Stand p l e R s m args below meth c T locs cells slots → ∃ t, Steps p.tables e below ((T.setTop g).pushFrame (.throwing q)) t ∧ Q t
def vx_Run (p : Program) (l : Launch) (e : Env) (R : Room) (s : State) (m : MethodId) (args : Array Value) (below : List Frame) (meth : Method) (c : Code) (H : Heap) (locs : List Loc) (cells slots mc ms : Nat) (g : JFrame) (rest : List Value) (Qa : State → Outcome → State → Prop) (XC : String → State → State → Prop) (free : Addr → Prop) : Prop :=
  ∀ T : State, T.heap = H → Stand p l e R s m args below meth c T locs cells slots →
    (∃ (v : Option Value) (st₀ t T' : State) (L : List Loc), st₀.heap = H ∧ Stand p l e R s m args below meth c T' (locs ++ L) (cells + mc) (slots + ms) ∧ (∀ q ∈ L, free q.base) ∧ T'.heap = t.heap ∧ T'.vm = t.vm ∧ Qa st₀ (.returned v) t ∧
      Goes p e below T g T' { g with pc := g.pc + 3, stack := v.toList ++ rest }) ∨
    (∃ (q : Addr) (st₀ t T' : State) (L : List Loc) (E : String) (ce : Cell), st₀.heap = H ∧ Stand p l e R s m args below meth c T' (locs ++ L) (cells + mc) (slots + ms) ∧ (∀ z ∈ L, free z.base) ∧ T'.heap = t.heap ∧ T'.vm = t.vm ∧ XC E st₀ t ∧ t.heap[q]? = some ce ∧ ce.vm = .none ∧ s.vm.findClass E = some ce.cls ∧
      Steps p.tables e below (T.setTop g) ((T'.setTop { g with stack := rest }).pushFrame (.throwing q)))
def vx_X {S : Type} (px : S → Prop) (B : String → S → State → Prop) (A : Nat → Prop) : String → State → State → Prop := fun E st t => ∃ u : S, px u ∧ B E u t ∧ va_F A st t
section Runs
variable {p : Program} {l : Launch} {e : Env} {R : Room} {s : State} {m : MethodId} {args : Array Value} {below : List Frame} {meth : Method} {c : Code} {H : Heap} {locs : List Loc} {cells slots : Nat}
variable {y : MethodName} {bytes cc : ByteArray} {maxL nL mc ms n index : Nat} {ret : Option FieldType} {ws : List Cond} {rm : Room} {Pc : Array Value → State → Prop} {Qc : Array Value → State → Outcome → State → Prop} {XC : String → State → State → Prop} {free : Addr → Prop} {Ts : List Cond} {own C : String} {b : Addr} {As rest : List Value} {g : JFrame}
theorem vx_callBack (cb : CallB R s args own index y bytes maxL ret ws rm mc ms n) (hM : vx_Met l y ws rm Pc Qc XC mc ms free) (hbl : FrameBlind Pc) : vx_Back l R p e below s args y 3 8 (PreOf R mc ms Pc) (PostOf Qc mc ms free) (vx_Post XC mc ms free) := by
  obtain ⟨hrc, hrs, hfr, hlo, hws, hcw, -, hini, -⟩ := cb
  exact vx_back (bytes := bytes) (maxL := maxL) (ret := ret) hM hbl hrc hrs hfr hlo hws hcw (fun a' U hW => word_at hW (Or.inl (by first | rfl | simp [Cond.onTables, Cond.keeps, Cond.steady])) hini)
theorem vx_runV (S : CallFix p m c cc nL s args Ts own) (hM : vx_Met l y ws rm Pc Qc XC mc ms free) (cw : CallW R s args own C index y bytes maxL ret ws rm mc ms n) (hp : PreV s H C b Pc As)
    (hg : g.method = m) (hn : As.length = n) (hsize : g.locals.size = nL) (hstack : g.stack = As.reverse ++ .ref b :: rest) (hW : 2 * g.monitorRoom + (rest.map fun v => v.category).sum ≤ 8) (hdg : decode cc g.pc = .ok (.invokevirtual index, 3)) (hf : cells + mc ≤ R.cells ∧ slots + ms ≤ R.slots) :
    vx_Run p l e R s m args below meth c H locs cells slots mc ms g rest (Qc (Value.ref b :: As).toArray) XC free := by
  have hK : vx_Back l R p e below s args y 3 8 (PreOf R mc ms Pc) (PostOf Qc mc ms free) (vx_Post XC mc ms free) := vx_callBack cw.1 hM hp.1
  obtain ⟨⟨-, -, -, -, -, -, hcode, -, hy, hlen, hl⟩, hin, hse⟩ := cw
  obtain ⟨hx, hb, hml, ho, -⟩ := S
  obtain ⟨-, ⟨cellB, hcB, hoB, hclB⟩, hPc⟩ := hp
  intro T hT X
  rcases vx_callV X hx (C := C) (bytes := bytes) (maxL := maxL) (ret := ret) ho hl hin hse hcode hy hK (by rw [hT]; exact hcB) hoB hclB hg (hsize.trans hml.symm) (argsL := As) (rest := rest) (fun sig h => hn.trans (hlen sig h)) hstack hW (by rw [hb]; exact hdg)
    (fun vm₁ hW₁ => ⟨hf.1, hf.2, hPc (T.setVm vm₁) hT hW₁⟩) with ⟨v, vm₁, ⟨U', l2, c2, s2⟩, hW₁, X', ⟨g', mk, t, L, e1, e2, hq, h1, hL, h2, h3⟩, st⟩ | ⟨q, vm₁, ⟨U', l2, c2, s2⟩, hW₁, X', ⟨g', mk, t, L, E, ce, e1, e2, hq, hce, hcv, hcl, h1, hL, h2, h3⟩, st⟩
  · dsimp only [Pt.U, Pt.locs, Pt.cells, Pt.slots] at X' e1 e2 h1 h2 h3 st
    subst h1; subst h2; subst h3
    exact Or.inl ⟨v, (T.setVm vm₁).calling g' mk (Value.ref b :: As).toArray, t, U', L, hT, X', hL, e1, e2, hq, st⟩
  · dsimp only [Pt.U, Pt.locs, Pt.cells, Pt.slots] at X' e1 e2 h1 h2 h3 st hcl
    subst h1; subst h2; subst h3
    exact Or.inr ⟨q, (T.setVm vm₁).calling g' mk (Value.ref b :: As).toArray, t, U', L, E, ce, hT, X', hL, e1, e2, hq, hce, hcv, vx_cls hW₁ hcl, st⟩
theorem vx_runS (S : CallFix p m c cc nL s args Ts own) (hM : vx_Met l y ws rm Pc Qc XC mc ms free) (cw : CallB R s args own index y bytes maxL ret ws rm mc ms n ∧ (Cond.static y).before args s = true) (hp : PreS s H Pc As)
    (hg : g.method = m) (hn : As.length = n) (hsize : g.locals.size = nL) (hstack : g.stack = As.reverse ++ rest) (hW : 2 * g.monitorRoom + (rest.map fun v => v.category).sum ≤ 8) (hdg : decode cc g.pc = .ok (.invokestatic index, 3)) (hf : cells + mc ≤ R.cells ∧ slots + ms ≤ R.slots) :
    vx_Run p l e R s m args below meth c H locs cells slots mc ms g rest (Qc As.toArray) XC free := by
  have hK : vx_Back l R p e below s args y 3 8 (PreOf R mc ms Pc) (PostOf Qc mc ms free) (vx_Post XC mc ms free) := vx_callBack cw.1 hM hp.1
  obtain ⟨⟨-, -, -, -, -, -, hcode, hini, hy, hlen, hl⟩, hstt⟩ := cw
  obtain ⟨hx, hb, hml, ho, -⟩ := S
  intro T hT X
  rcases vx_callS X hx (bytes := bytes) (maxL := maxL) (ret := ret) ho hl hstt hini hcode hy hK hg (hsize.trans hml.symm) (argsL := As) (rest := rest) (fun sig h => hn.trans (hlen sig h)) hstack hW (by rw [hb]; exact hdg)
    (fun vm₁ hW₁ => ⟨hf.1, hf.2, hp.2 (T.setVm vm₁) hT hW₁⟩) with ⟨v, vm₁, ⟨U', l2, c2, s2⟩, hW₁, X', ⟨g', mk, t, L, e1, e2, hq, h1, hL, h2, h3⟩, st⟩ | ⟨q, vm₁, ⟨U', l2, c2, s2⟩, hW₁, X', ⟨g', mk, t, L, E, ce, e1, e2, hq, hce, hcv, hcl, h1, hL, h2, h3⟩, st⟩
  · dsimp only [Pt.U, Pt.locs, Pt.cells, Pt.slots] at X' e1 e2 h1 h2 h3 st
    subst h1; subst h2; subst h3
    exact Or.inl ⟨v, (T.setVm vm₁).calling g' mk As.toArray, t, U', L, hT, X', hL, e1, e2, hq, st⟩
  · dsimp only [Pt.U, Pt.locs, Pt.cells, Pt.slots] at X' e1 e2 h1 h2 h3 st hcl
    subst h1; subst h2; subst h3
    exact Or.inr ⟨q, (T.setVm vm₁).calling g' mk As.toArray, t, U', L, E, ce, hT, X', hL, e1, e2, hq, hce, hcv, vx_cls hW₁ hcl, st⟩
end Runs
section Rows
variable {p : Program} {l : Launch} {e : Env} {R : Room} {s : State} {m : MethodId} {args : Array Value} {below : List Frame} {meth : Method} {c : Code} {H : Heap} {locs : List Loc} {cells slots : Nat} {Q : State → Prop}
variable {mc ms : Nat} {free : Addr → Prop} {A0 A1 : Nat → Prop} {H0 : Heap} {a : Array Value} {pc : Nat} {ls : Array Slot} {st0 rest : List Value}
theorem vx_keep {st₀ t T' : State} {L : List Loc} (h0 : st₀.heap = H) (e1 : T'.heap = t.heap) (hS : va_S A0 H0 H locs) (hA : ∀ q, q < H.size → A1 q → A0 q) (hf : ∀ q, free q → A0 q) (hL : ∀ q ∈ L, free q.base) (hF : va_F A1 st₀ t) :
    H.size ≤ T'.heap.size ∧ (∀ q : Nat, q < H.size → ¬ A1 q → T'.heap[q]? = H[q]?) ∧ va_S A0 H0 T'.heap (locs ++ L) := by
  obtain ⟨hz, hk⟩ := hF
  rw [h0] at hz hk
  exact ⟨by rw [e1]; exact hz, fun q h1 h2 => by rw [e1]; exact hk q h1 h2,
    ⟨Nat.le_trans hS.1 (by rw [e1]; exact hz), fun q h1 h2 => by rw [e1, hk q (Nat.lt_of_lt_of_le h1 hS.1) (fun z => h2 (hA q (Nat.lt_of_lt_of_le h1 hS.1) z))]; exact hS.2.1 q h1 h2, fun q hq => by
      rcases List.mem_append.mp hq with h | h
      · exact hS.2.2 q h
      · exact hf _ (hL q h)⟩⟩
theorem vx_calli {S SX : Type} {post : Int32 → S → Prop} {px : SX → Prop} {B : S → State → Prop} {BX : String → SX → State → Prop} {AX : Nat → Prop} (hr : vx_Run p l e R s m args below meth c H locs cells slots mc ms (F0 m pc ls st0) rest (va_Qi post B A1 a) (vx_X px BX AX) free) (hS : va_S A0 H0 H locs) (hA : ∀ q, q < H.size → A1 q → A0 q) (hf : ∀ q, free q → A0 q) (hAX : ∀ q, q < H.size → AX q → A0 q)
    (kx : ∀ (E : String) (ce : Cell) (q9 : Addr) (u : SX) (t : State) (H1 : Heap) (locs1 : List Loc), t.heap = H1 → s.vm.Alike t.vm → px u → BX E u t → H.size ≤ H1.size → (∀ q : Nat, q < H.size → ¬ AX q → H1[q]? = H[q]?) → va_S A0 H0 H1 locs1 → H1[q9]? = some ce → ce.vm = .none → s.vm.findClass E = some ce.cls → vx_W p l e R s m args below meth c H1 locs1 (cells + mc) (slots + ms) Q (F0 m pc ls rest) q9)
    (kk : ∀ (r : Int32) (u : S) (t : State) (H1 : Heap) (locs1 : List Loc), t.heap = H1 → s.vm.Alike t.vm → post r u → B u t → H.size ≤ H1.size → (∀ q : Nat, q < H.size → ¬ A1 q → H1[q]? = H[q]?) → va_S A0 H0 H1 locs1 → W p l e R s m args below meth c H1 locs1 (cells + mc) (slots + ms) Q (F0 m (pc + 3) ls (.int r :: rest))) : W p l e R s m args below meth c H locs cells slots Q (F0 m pc ls st0) := by
  intro T hT X
  rcases hr T hT X with ⟨v, st₀, t, T', L, h0, X', hL, e1, e2, ⟨⟨r, u, hv, hp, hb⟩, hF⟩, st⟩ | ⟨q, st₀, t, T', L, E, ce, h0, X', hL, e1, e2, ⟨u, hp, hb, hF⟩, hce, hcv, hcl, st⟩
  · cases hv
    obtain ⟨k1, k2, k3⟩ := vx_keep h0 e1 hS hA hf hL hF
    obtain ⟨t2, a1, b1⟩ := kk r u t T'.heap (locs ++ L) e1.symm (by rw [← e2]; exact X'.warmed.alike) hp hb k1 k2 k3 T' rfl X'
    exact ⟨t2, st t2 a1, b1⟩
  · obtain ⟨k1, k2, k3⟩ := vx_keep h0 e1 hS hAX hf hL hF
    obtain ⟨t2, a1, b1⟩ := kx E ce q u t T'.heap (locs ++ L) e1.symm (by rw [← e2]; exact X'.warmed.alike) hp hb k1 k2 k3 (by rw [e1]; exact hce) hcv hcl T' rfl X'
    exact ⟨t2, st.trans a1, b1⟩
theorem vx_calll {S SX : Type} {post : Int64 → S → Prop} {px : SX → Prop} {B : S → State → Prop} {BX : String → SX → State → Prop} {AX : Nat → Prop} (hr : vx_Run p l e R s m args below meth c H locs cells slots mc ms (F0 m pc ls st0) rest (va_Ql post B A1 a) (vx_X px BX AX) free) (hS : va_S A0 H0 H locs) (hA : ∀ q, q < H.size → A1 q → A0 q) (hf : ∀ q, free q → A0 q) (hAX : ∀ q, q < H.size → AX q → A0 q)
    (kx : ∀ (E : String) (ce : Cell) (q9 : Addr) (u : SX) (t : State) (H1 : Heap) (locs1 : List Loc), t.heap = H1 → s.vm.Alike t.vm → px u → BX E u t → H.size ≤ H1.size → (∀ q : Nat, q < H.size → ¬ AX q → H1[q]? = H[q]?) → va_S A0 H0 H1 locs1 → H1[q9]? = some ce → ce.vm = .none → s.vm.findClass E = some ce.cls → vx_W p l e R s m args below meth c H1 locs1 (cells + mc) (slots + ms) Q (F0 m pc ls rest) q9)
    (kk : ∀ (r : Int64) (u : S) (t : State) (H1 : Heap) (locs1 : List Loc), t.heap = H1 → s.vm.Alike t.vm → post r u → B u t → H.size ≤ H1.size → (∀ q : Nat, q < H.size → ¬ A1 q → H1[q]? = H[q]?) → va_S A0 H0 H1 locs1 → W p l e R s m args below meth c H1 locs1 (cells + mc) (slots + ms) Q (F0 m (pc + 3) ls (.long r :: rest))) : W p l e R s m args below meth c H locs cells slots Q (F0 m pc ls st0) := by
  intro T hT X
  rcases hr T hT X with ⟨v, st₀, t, T', L, h0, X', hL, e1, e2, ⟨⟨r, u, hv, hp, hb⟩, hF⟩, st⟩ | ⟨q, st₀, t, T', L, E, ce, h0, X', hL, e1, e2, ⟨u, hp, hb, hF⟩, hce, hcv, hcl, st⟩
  · cases hv
    obtain ⟨k1, k2, k3⟩ := vx_keep h0 e1 hS hA hf hL hF
    obtain ⟨t2, a1, b1⟩ := kk r u t T'.heap (locs ++ L) e1.symm (by rw [← e2]; exact X'.warmed.alike) hp hb k1 k2 k3 T' rfl X'
    exact ⟨t2, st t2 a1, b1⟩
  · obtain ⟨k1, k2, k3⟩ := vx_keep h0 e1 hS hAX hf hL hF
    obtain ⟨t2, a1, b1⟩ := kx E ce q u t T'.heap (locs ++ L) e1.symm (by rw [← e2]; exact X'.warmed.alike) hp hb k1 k2 k3 (by rw [e1]; exact hce) hcv hcl T' rfl X'
    exact ⟨t2, st.trans a1, b1⟩
theorem vx_callf {S SX : Type} {post : UInt32 → S → Prop} {px : SX → Prop} {B : S → State → Prop} {BX : String → SX → State → Prop} {AX : Nat → Prop} (hr : vx_Run p l e R s m args below meth c H locs cells slots mc ms (F0 m pc ls st0) rest (va_Qf post B A1 a) (vx_X px BX AX) free) (hS : va_S A0 H0 H locs) (hA : ∀ q, q < H.size → A1 q → A0 q) (hf : ∀ q, free q → A0 q) (hAX : ∀ q, q < H.size → AX q → A0 q)
    (kx : ∀ (E : String) (ce : Cell) (q9 : Addr) (u : SX) (t : State) (H1 : Heap) (locs1 : List Loc), t.heap = H1 → s.vm.Alike t.vm → px u → BX E u t → H.size ≤ H1.size → (∀ q : Nat, q < H.size → ¬ AX q → H1[q]? = H[q]?) → va_S A0 H0 H1 locs1 → H1[q9]? = some ce → ce.vm = .none → s.vm.findClass E = some ce.cls → vx_W p l e R s m args below meth c H1 locs1 (cells + mc) (slots + ms) Q (F0 m pc ls rest) q9)
    (kk : ∀ (r : UInt32) (u : S) (t : State) (H1 : Heap) (locs1 : List Loc), t.heap = H1 → s.vm.Alike t.vm → post r u → B u t → H.size ≤ H1.size → (∀ q : Nat, q < H.size → ¬ A1 q → H1[q]? = H[q]?) → va_S A0 H0 H1 locs1 → W p l e R s m args below meth c H1 locs1 (cells + mc) (slots + ms) Q (F0 m (pc + 3) ls (.float r :: rest))) : W p l e R s m args below meth c H locs cells slots Q (F0 m pc ls st0) := by
  intro T hT X
  rcases hr T hT X with ⟨v, st₀, t, T', L, h0, X', hL, e1, e2, ⟨⟨r, u, hv, hp, hb⟩, hF⟩, st⟩ | ⟨q, st₀, t, T', L, E, ce, h0, X', hL, e1, e2, ⟨u, hp, hb, hF⟩, hce, hcv, hcl, st⟩
  · cases hv
    obtain ⟨k1, k2, k3⟩ := vx_keep h0 e1 hS hA hf hL hF
    obtain ⟨t2, a1, b1⟩ := kk r u t T'.heap (locs ++ L) e1.symm (by rw [← e2]; exact X'.warmed.alike) hp hb k1 k2 k3 T' rfl X'
    exact ⟨t2, st t2 a1, b1⟩
  · obtain ⟨k1, k2, k3⟩ := vx_keep h0 e1 hS hAX hf hL hF
    obtain ⟨t2, a1, b1⟩ := kx E ce q u t T'.heap (locs ++ L) e1.symm (by rw [← e2]; exact X'.warmed.alike) hp hb k1 k2 k3 (by rw [e1]; exact hce) hcv hcl T' rfl X'
    exact ⟨t2, st.trans a1, b1⟩
theorem vx_calld {S SX : Type} {post : UInt64 → S → Prop} {px : SX → Prop} {B : S → State → Prop} {BX : String → SX → State → Prop} {AX : Nat → Prop} (hr : vx_Run p l e R s m args below meth c H locs cells slots mc ms (F0 m pc ls st0) rest (va_Qd post B A1 a) (vx_X px BX AX) free) (hS : va_S A0 H0 H locs) (hA : ∀ q, q < H.size → A1 q → A0 q) (hf : ∀ q, free q → A0 q) (hAX : ∀ q, q < H.size → AX q → A0 q)
    (kx : ∀ (E : String) (ce : Cell) (q9 : Addr) (u : SX) (t : State) (H1 : Heap) (locs1 : List Loc), t.heap = H1 → s.vm.Alike t.vm → px u → BX E u t → H.size ≤ H1.size → (∀ q : Nat, q < H.size → ¬ AX q → H1[q]? = H[q]?) → va_S A0 H0 H1 locs1 → H1[q9]? = some ce → ce.vm = .none → s.vm.findClass E = some ce.cls → vx_W p l e R s m args below meth c H1 locs1 (cells + mc) (slots + ms) Q (F0 m pc ls rest) q9)
    (kk : ∀ (r : UInt64) (u : S) (t : State) (H1 : Heap) (locs1 : List Loc), t.heap = H1 → s.vm.Alike t.vm → post r u → B u t → H.size ≤ H1.size → (∀ q : Nat, q < H.size → ¬ A1 q → H1[q]? = H[q]?) → va_S A0 H0 H1 locs1 → W p l e R s m args below meth c H1 locs1 (cells + mc) (slots + ms) Q (F0 m (pc + 3) ls (.double r :: rest))) : W p l e R s m args below meth c H locs cells slots Q (F0 m pc ls st0) := by
  intro T hT X
  rcases hr T hT X with ⟨v, st₀, t, T', L, h0, X', hL, e1, e2, ⟨⟨r, u, hv, hp, hb⟩, hF⟩, st⟩ | ⟨q, st₀, t, T', L, E, ce, h0, X', hL, e1, e2, ⟨u, hp, hb, hF⟩, hce, hcv, hcl, st⟩
  · cases hv
    obtain ⟨k1, k2, k3⟩ := vx_keep h0 e1 hS hA hf hL hF
    obtain ⟨t2, a1, b1⟩ := kk r u t T'.heap (locs ++ L) e1.symm (by rw [← e2]; exact X'.warmed.alike) hp hb k1 k2 k3 T' rfl X'
    exact ⟨t2, st t2 a1, b1⟩
  · obtain ⟨k1, k2, k3⟩ := vx_keep h0 e1 hS hAX hf hL hF
    obtain ⟨t2, a1, b1⟩ := kx E ce q u t T'.heap (locs ++ L) e1.symm (by rw [← e2]; exact X'.warmed.alike) hp hb k1 k2 k3 (by rw [e1]; exact hce) hcv hcl T' rfl X'
    exact ⟨t2, st.trans a1, b1⟩
theorem vx_callv {S SX : Type} {post : S → Prop} {px : SX → Prop} {B : S → State → Prop} {BX : String → SX → State → Prop} {AX : Nat → Prop} (hr : vx_Run p l e R s m args below meth c H locs cells slots mc ms (F0 m pc ls st0) rest (va_Qv post B A1 a) (vx_X px BX AX) free) (hS : va_S A0 H0 H locs) (hA : ∀ q, q < H.size → A1 q → A0 q) (hf : ∀ q, free q → A0 q) (hAX : ∀ q, q < H.size → AX q → A0 q)
    (kx : ∀ (E : String) (ce : Cell) (q9 : Addr) (u : SX) (t : State) (H1 : Heap) (locs1 : List Loc), t.heap = H1 → s.vm.Alike t.vm → px u → BX E u t → H.size ≤ H1.size → (∀ q : Nat, q < H.size → ¬ AX q → H1[q]? = H[q]?) → va_S A0 H0 H1 locs1 → H1[q9]? = some ce → ce.vm = .none → s.vm.findClass E = some ce.cls → vx_W p l e R s m args below meth c H1 locs1 (cells + mc) (slots + ms) Q (F0 m pc ls rest) q9)
    (kk : ∀ (u : S) (t : State) (H1 : Heap) (locs1 : List Loc), t.heap = H1 → s.vm.Alike t.vm → post u → B u t → H.size ≤ H1.size → (∀ q : Nat, q < H.size → ¬ A1 q → H1[q]? = H[q]?) → va_S A0 H0 H1 locs1 → W p l e R s m args below meth c H1 locs1 (cells + mc) (slots + ms) Q (F0 m (pc + 3) ls (rest))) : W p l e R s m args below meth c H locs cells slots Q (F0 m pc ls st0) := by
  intro T hT X
  rcases hr T hT X with ⟨v, st₀, t, T', L, h0, X', hL, e1, e2, ⟨⟨u, hv, hp, hb⟩, hF⟩, st⟩ | ⟨q, st₀, t, T', L, E, ce, h0, X', hL, e1, e2, ⟨u, hp, hb, hF⟩, hce, hcv, hcl, st⟩
  · cases hv
    obtain ⟨k1, k2, k3⟩ := vx_keep h0 e1 hS hA hf hL hF
    obtain ⟨t2, a1, b1⟩ := kk u t T'.heap (locs ++ L) e1.symm (by rw [← e2]; exact X'.warmed.alike) hp hb k1 k2 k3 T' rfl X'
    exact ⟨t2, st t2 a1, b1⟩
  · obtain ⟨k1, k2, k3⟩ := vx_keep h0 e1 hS hAX hf hL hF
    obtain ⟨t2, a1, b1⟩ := kx E ce q u t T'.heap (locs ++ L) e1.symm (by rw [← e2]; exact X'.warmed.alike) hp hb k1 k2 k3 (by rw [e1]; exact hce) hcv hcl T' rfl X'
    exact ⟨t2, st.trans a1, b1⟩
/-- caught by the row x of this method's table; the rows ahead don't take it -/
theorem vx_catch {own name : String} {E : String} {ce : Cell} {q : Addr} (hown : s.vm.findClass own = some m.cls) (pre : List ExceptionTableEntry) (x : ExceptionTableEntry) (suf : List ExceptionTableEntry) (hsplit : c.exceptionTable.toList = pre ++ x :: suf)
    (hpass : ∀ z ∈ pre, covers z pc = false ∨ (z.catchType ≠ 0 ∧ ∃ nm : String, (Cond.classLink own z.catchType nm).before args s = true ∧ va_Nc E nm s)) (hx : covers x pc = true) (h0 : x.catchType ≠ 0)
    (hlink : (Cond.classLink own x.catchType name).before args s = true) (hcast : (Cond.castable E name).before args s = true) (hcell : H[q]? = some ce) (hv : ce.vm = .none) (hcl : s.vm.findClass E = some ce.cls)
    (kk : W p l e R s m args below meth c H locs cells slots Q (F0 m x.handlerPc ls [.ref q])) : vx_W p l e R s m args below meth c H locs cells slots Q (F0 m pc ls rest) q := by
  intro T hT X
  have hpl : e.platform.magicAccessors = ({} : Platform).magicAccessors := by rw [X.admits.platform]
  obtain ⟨c3, c4, hc3, hc4, hasg⟩ := Cond.castable_spec hcast
  cases Option.some.inj (hc3.symm.trans hcl)
  obtain ⟨c5, hc5, hcl5⟩ := Cond.classLink_spec hown hlink e.platform hpl
  cases Option.some.inj (hc4.symm.trans hc5)
  obtain ⟨vm', X', st⟩ := X.thenCaughtThrough q (g := F0 m pc ls rest) rfl (Steps.refl _) (by rw [hT]; exact hcell) (by rw [hv]; rfl) (by obtain ⟨k9, h9, -⟩ := Vm.findClass_spec hcl; exact ⟨k9, h9⟩) pre x suf hsplit
    (fun z hz => by
      rcases hpass z hz with h | ⟨hz0, nm, hl1, hn1⟩
      · exact Or.inl h
      · obtain ⟨c6, hc6, hcl6⟩ := Cond.classLink_spec hown hl1 e.platform hpl
        obtain ⟨a8, b8, h1, h2, h3⟩ := hn1
        cases Option.some.inj (h1.symm.trans hcl)
        cases Option.some.inj (h2.symm.trans hc6)
        exact Or.inr ⟨hz0, _, hcl6, h3⟩) hx (Or.inr ⟨h0, c4, hcl5, hasg⟩)
  obtain ⟨t, a1, b1⟩ := kk (T.setVm vm') hT X'
  exact ⟨t, st.trans a1, b1⟩
end Rows
section Ends
variable {p : Program} {l : Launch} {e : Env} {R : Room} {s : State} {m : MethodId} {args : Array Value} {below : List Frame} {meth : Method} {c : Code} {H : Heap} {locs : List Loc} {cells slots : Nat} {Q : State → Prop}
variable {mc ms : Nat} {free : Addr → Prop} {A0 A1 : Nat → Prop} {H0 : Heap} {a : Array Value} {ls : Array Slot} {st0 rest : List Value}
variable {Qc : Array Value → State → Outcome → State → Prop} {XC : String → State → State → Prop}
/-- what a body that may throw owes at its end -/
def vx_MQ (below : List Frame) (Qc : Array Value → State → Outcome → State → Prop) (XC : String → State → State → Prop) (a : Array Value) (s : State) (mc ms : Nat) (free : Addr → Prop) : State → Prop := fun t =>
  ∃ o, t.status = .running ∧ Ended t below o ∧ vx_Q Qc XC mc ms free a s o t
theorem vx_ret {g : JFrame} {mc ms : Nat} (k : W p l e R s m args below meth c H locs cells slots (MQ below Qc args s mc ms free) g) : W p l e R s m args below meth c H locs cells slots (vx_MQ below Qc XC args s mc ms free) g := by
  intro T hT X
  obtain ⟨t, a1, o, b1, b2, b3, b4⟩ := k T hT X
  exact ⟨t, a1, o, b1, b2, Or.inl ⟨b3, b4⟩⟩
/-- not caught here: it goes on to the caller -/
theorem vx_widen {g : JFrame} {q : Addr} {k n : Nat} (h1 : cells ≤ k) (h2 : slots ≤ n) (kk : vx_W p l e R s m args below meth c H locs k n Q g q) : vx_W p l e R s m args below meth c H locs cells slots Q g q := fun T hT X => kk T hT (stand_widen X h1 h2)
theorem vx_out {pc : Nat} {E : String} {ce : Cell} {q : Addr} {mc ms : Nat} (hout : ∀ x ∈ c.exceptionTable.toList, covers x pc = false) (hlocks : meth.locks = false) (hcell : H[q]? = some ce) (hv : ce.vm = .none) (hcl : s.vm.findClass E = some ce.cls)
    (hx : ∀ t : State, t.heap = H → s.vm.Alike t.vm → XC E s t) (hf : ∀ z ∈ locs, free z.base) (hc : cells ≤ mc) (hs : slots ≤ ms) :
    vx_W p l e R s m args below meth c H locs cells slots (vx_MQ below Qc XC args s mc ms free) (F0 m pc ls rest) q := by
  intro T hT X
  obtain ⟨st1, hrun, hend, hW, hsm⟩ := X.leaveThrown q (g := F0 m pc ls rest) rfl rfl rfl hout hlocks
  have hcell9 : (T.setFrames (.throwing q :: below)).heap[q]? = some ce := by
    show T.heap[q]? = some ce
    rw [hT]; exact hcell
  exact ⟨_, st1, .threw q, hrun, hend, Or.inr ⟨q, rfl, E, ce, locs, hx _ hT hW.alike, hcell9, hv, hcl, hW, hsm.mono hc hs, hf⟩⟩
theorem vx_frame {U : State} {k n : Nat} (h : s.sameButNew ({ U with vm := s.vm } : State) locs k n) : s.heap.size ≤ U.heap.size ∧ ∀ q : Nat, q < s.heap.size → (∀ z ∈ locs, z.base ≠ q) → U.heap[q]? = s.heap[q]? := by
  obtain ⟨-, h2, -, -, -, h6⟩ := h
  refine ⟨h2, fun q hq hz => ?_⟩
  obtain ⟨c9, e1, e2, e3, e4⟩ := h6 q _ (Array.getElem?_eq_getElem hq)
  have hs : c9.slots = (s.heap[q]).slots := Array.ext_getElem? fun i => e4 i fun hm => hz _ hm rfl
  have h9 : c9 = s.heap[q] := by
    rw [hs] at e2
    exact e2
  have e5 : U.heap[q]? = some c9 := e1
  rw [e5, h9, Array.getElem?_eq_getElem hq]
/-- the words of a throw but the four that speak of the heap -/
def vx_no (w : Cond) : Bool := decide (w ≠ .isRef (.static Bundle.tN "UNASSIGNED_STACK" Bundle.steD)) && decide (w ≠ .isRef (.static Bundle.tN "SUPPRESSED_SENTINEL" Bundle.listD)) && decide (w ≠ .laysStatic Bundle.tN "UNASSIGNED_STACK" Bundle.steD) && decide (w ≠ .laysStatic Bundle.tN "SUPPRESSED_SENTINEL" Bundle.listD)
def vx_at0 (own : String) (ic : Nat) (X : String) (names : List String) : List Cond := (Bundle.ownAtoms0 own ic X names).filter vx_no
def vx_atS (own : String) (ic : Nat) (X : String) (names : List String) : List Cond := (Bundle.ownAtoms own ic X names).filter vx_no
/-- a word that the tables alone decide, or a good one -/
def vx_ot (w : Cond) : Bool := w.onTables || goodWord w
theorem vx_ot_at {args a' : Array Value} {s U : State} {w : Cond} (hW : s.WarmedH U.vm) (hvm : s.vm = U.vm) (hg : vx_ot w = true) (h : w.before args s = true) : w.before a' U = true := by
  simp only [vx_ot, Bool.or_eq_true] at hg
  rcases hg with hg | hg
  · exact va_tabs hg hvm h
  · exact word_at hW (good_of_word hg) h
/-- a list's words: the good ones out of the method's own list, the others by premises of their own -/
theorem vx_hat {args : Array Value} {s : State} {L B : List Cond} (h1 : ∀ w ∈ L.filter goodWord, w.before args s = true) (h2 : ∀ w ∈ L.filter (fun w => !goodWord w), w ∈ B) (h3 : ∀ w ∈ B, w.before args s = true) : ∀ w ∈ L, w.before args s = true := by
  intro w hw
  by_cases g : goodWord w = true
  · exact h1 w (List.mem_filter.mpr ⟨hw, g⟩)
  · refine h3 w (h2 w (List.mem_filter.mpr ⟨hw, ?_⟩))
    show (!goodWord w) = true
    cases hgw : goodWord w
    · rfl
    · exact absurd hgw g
theorem vx_c {args : Array Value} {s : State} {w : Cond} {B : List Cond} (h : w.before args s = true) (t : ∀ w ∈ B, w.before args s = true) : ∀ w' ∈ w :: B, w'.before args s = true := fun w' h' => (List.mem_cons.mp h').elim (fun e => by rw [e]; exact h) (t w')
theorem vx_n {args : Array Value} {s : State} : ∀ w ∈ ([] : List Cond), w.before args s = true := fun _ h => nomatch h
theorem vx_own {args : Array Value} {s : State} {L : List Cond} (h1 : ∀ w ∈ L.filter vx_no, w.before args s = true)
    (hU : (Cond.isRef (.static Bundle.tN "UNASSIGNED_STACK" Bundle.steD)).before args s = true) (hN : (Cond.isRef (.static Bundle.tN "SUPPRESSED_SENTINEL" Bundle.listD)).before args s = true)
    (lU : (Cond.laysStatic Bundle.tN "UNASSIGNED_STACK" Bundle.steD).before args s = true) (lN : (Cond.laysStatic Bundle.tN "SUPPRESSED_SENTINEL" Bundle.listD).before args s = true) : ∀ w ∈ L, w.before args s = true := by
  intro w hw
  by_cases e1 : w = .isRef (.static Bundle.tN "UNASSIGNED_STACK" Bundle.steD)
  · rw [e1]; exact hU
  · by_cases e2 : w = .isRef (.static Bundle.tN "SUPPRESSED_SENTINEL" Bundle.listD)
    · rw [e2]; exact hN
    · by_cases e3 : w = .laysStatic Bundle.tN "UNASSIGNED_STACK" Bundle.steD
      · rw [e3]; exact lU
      · by_cases e4 : w = .laysStatic Bundle.tN "SUPPRESSED_SENTINEL" Bundle.listD
        · rw [e4]; exact lN
        · exact h1 w (List.mem_filter.mpr ⟨hw, by unfold vx_no; rw [decide_eq_true e1, decide_eq_true e2, decide_eq_true e3, decide_eq_true e4]; rfl⟩)
/-- where a static field lies, its class's statics cell in H -/
def vx_L (C n d : String) (A : Nat → Prop) (U : State) (H : Heap) : Prop := ∃ (c : ClassId) (k : Class) (i : Nat) (f : Field) (a : Nat) (cell : Cell), U.vm.findClass C = some c ∧ U.fieldFound? C n d = some (c, k, i, f) ∧ f.isStatic = true ∧ k.statics = some a ∧ H[a]? = some cell ∧ cell.vm.isStatics = true ∧ cell.cls = c ∧ f.slot < cell.slots.size ∧ k.staticTypes[f.slot]? = some f.type ∧ ¬ A a
theorem vx_L.moved {C n d : String} {A : Nat → Prop} {u U : State} {H : Heap} (hvm : u.vm.Alike U.vm) (h : vx_L C n d A u H) : vx_L C n d A U H := by
  obtain ⟨c, k, i, f, a, cell, h1, h2, h3, h4, h5, h6, h7, h8, h9, h10⟩ := h
  obtain ⟨k', hi', he⟩ := State.fieldFound?_setVm hvm h2
  exact ⟨c, k', i, f, a, cell, by rw [hvm.findClass]; exact h1, hi', h3, by rw [he]; exact h4, h5, h6, h7, h8, by rw [he]; exact h9, h10⟩
theorem vx_L.kept {C n d : String} {A : Nat → Prop} {U : State} {H H1 : Heap} (h : vx_L C n d A U H) (hq : ∀ a : Nat, a < H.size → ¬ A a → H1[a]? = H[a]?) : vx_L C n d A U H1 := by
  obtain ⟨c, k, i, f, a, cell, h1, h2, h3, h4, h5, h6, h7, h8, h9, h10⟩ := h
  exact ⟨c, k, i, f, a, cell, h1, h2, h3, h4, by rw [hq a (Array.getElem?_eq_some_iff.mp h5).1 h10]; exact h5, h6, h7, h8, h9, h10⟩
theorem vx_L.narrow {C n d : String} {A B : Nat → Prop} {U : State} {H : Heap} (h : vx_L C n d A U H) (hAB : ∀ q, B q → A q) : vx_L C n d B U H := by
  obtain ⟨c, k, i, f, a, cell, h1, h2, h3, h4, h5, h6, h7, h8, h9, h10⟩ := h
  exact ⟨c, k, i, f, a, cell, h1, h2, h3, h4, h5, h6, h7, h8, h9, fun z => h10 (hAB _ z)⟩
theorem vx_L.word {C n d : String} {A : Nat → Prop} {s : State} {args : Array Value} (h : vx_L C n d A s s.heap) : (Cond.laysStatic C n d).before args s = true := by
  obtain ⟨c, k, i, f, a, cell, h1, h2, h3, h4, h5, h6, h7, h8, h9, -⟩ := h
  show (Cond.laysStatic C n d).holds args s none s [] = true
  exact Cond.laysStatic_of h1 h2 h3 h4 h5 h6 h7 h8 h9
/-- .. and what it holds: null or some reference -/
def vx_Zq (C n d : String) (A : Nat → Prop) (U : State) (H : Heap) : Prop := va_Zq C n d A U H ∧ vx_L C n d A U H
theorem vx_Zq.moved {C n d : String} {A : Nat → Prop} {u U : State} {H : Heap} (hvm : u.vm.Alike U.vm) (h : vx_Zq C n d A u H) : vx_Zq C n d A U H := ⟨va_Zq.moved hvm h.1, vx_L.moved hvm h.2⟩
theorem vx_Zq.kept {C n d : String} {A : Nat → Prop} {U : State} {H H1 : Heap} (h : vx_Zq C n d A U H) (hq : ∀ a : Nat, a < H.size → ¬ A a → H1[a]? = H[a]?) : vx_Zq C n d A U H1 := ⟨va_Zq.kept h.1 hq, vx_L.kept h.2 hq⟩
theorem vx_Zq.narrow {C n d : String} {A B : Nat → Prop} {U : State} {H : Heap} (h : vx_Zq C n d A U H) (hAB : ∀ q, B q → A q) : vx_Zq C n d B U H := ⟨va_Zq.narrow h.1 hAB, vx_L.narrow h.2 hAB⟩
theorem vx_Zqof {args : Array Value} {s : State} {C n d : String} {A : Nat → Prop} (hl : (Cond.laysStatic C n d).before args s = true) (hini : (Cond.initialized C).before args s = true) (h : (Cond.isRef (.static C n d)).before args s = true) (hA : ∀ a : Nat, a < s.heap.size → ¬ A a) : vx_Zq C n d A s s.heap := by
  refine ⟨va_Zqof hl hini h hA, ?_⟩
  obtain ⟨c, k, i, f, a, cell, h1, h2, h3, h4, h5, h6, h7, h8, h9⟩ := Cond.laysStatic_spec hl
  exact ⟨c, k, i, f, a, cell, h1, h2, h3, h4, h5, h6, h7, h8, h9, hA a (Array.getElem?_eq_some_iff.mp h5).1⟩
theorem vx_isRef {C n d : String} {v : Value} {A : Nat → Prop} {s : State} {args : Array Value} (h : va_Z C n d v A s s.heap) (hv : v.isRef = true) : (Cond.isRef (.static C n d)).before args s = true := by
  obtain ⟨cf, kf, fi, f, a, cell, h1, h2, h3, h4, h5, h6, h7, -⟩ := h
  have he : (Term.static C n d).eval args s none [] s = some v := by
    simp [Term.eval, State.fieldNamed?, h1, h2, h4, h5, h6, h7]
  simp only [Cond.before, Cond.holds, Cond.value, he]
  cases v <;> simp_all [Value.isRef]
theorem vx_isRefq {C n d : String} {A : Nat → Prop} {s : State} {args : Array Value} (h : va_Zq C n d A s s.heap) : (Cond.isRef (.static C n d)).before args s = true := by
  rcases h with h | ⟨t, h⟩
  · exact vx_isRef h rfl
  · exact vx_isRef h rfl
/-- the same frame, seen from here: as if the method were called anew in this heap -/
theorem vx_rebase {T : State} (X : Stand p l e R s m args below meth c T locs cells slots) {R' : Room} (hf : R'.frames ≤ R.frames) (hl : R'.locals ≤ R.locals) (hc : cells + R'.cells ≤ R.cells) (hs : slots + R'.slots ≤ R.slots) :
    Stand p l e R' ((T.setVm s.vm).setFrames (.invoking m args :: below)) m args below meth c T [] 0 0 := by
  have htop : (T.setVm s.vm).topJava?.isSome := X.here.top
  have hF : ((T.setVm s.vm).setFrames (.invoking m args :: below)).frames = .invoking m args :: below := State.frames_setFrames _ (State.cur_lt_of_top htop)
  obtain ⟨g₀, hg0⟩ := Option.isSome_iff_exists.mp htop
  obtain ⟨r, hr⟩ := State.topJava?_eq_some.mp hg0
  have hl9 : e.platform.stackLimits (T.setVm s.vm).me = e.platform.stackLimits s.me := X.limits
  have hb9 : (T.setVm s.vm).me.stackBytes = s.me.stackBytes := X.bytes
  refine ⟨X.admits, X.cas, X.clock, hF, ?_, X.hears, X.method, X.code, X.here, X.tail, X.warmed, ?_, ?_, ?_⟩
  · have h := X.room
    have hU : ((T.setVm s.vm).setFrames (.invoking m args :: below)).localsInUse = s.localsInUse := by
      rw [State.localsInUse_invoking hF (meth := meth) (c := c) X.method X.code, State.localsInUse_invoking X.frames X.method X.code]
    simp only [State.hasRoom, Bool.and_eq_true, decide_eq_true_eq] at h ⊢
    obtain ⟨⟨⟨⟨h1, h2, h3, h4, h5, h6⟩, h7⟩, h8⟩, h9⟩ := h
    rw [X.frames, List.length_cons] at h2 h3
    have q1 := X.heapSize
    have q2 := X.used
    simp only [hF, hU, List.length_cons, State.stackLimits_setFrames, State.stackBytes_setFrames, hl9, hb9]
    refine ⟨⟨⟨⟨by omega, by omega, by omega, by omega, by omega, h6⟩, ?_⟩, ?_⟩, X.book⟩
    · show T.heap.size + R'.cells ≤ e.platform.maxCells
      omega
    · show T.slotsUsed + R'.slots ≤ e.platform.maxSlots
      omega
  · rw [State.stackLimits_setFrames]; rfl
  · rw [State.stackBytes_setFrames]; rfl
  · refine ⟨?_, Nat.le_refl _, Nat.le_refl _, ?_, ?_, fun a c9 h9 => ⟨c9, h9, rfl, rfl, fun _ _ => rfl⟩⟩
    · obtain ⟨t, ht, -⟩ := State.frames_cons hr
      show T.setVm s.vm = { ((T.setVm s.vm).setFrames (.invoking m args :: below)).setFrames (T.setVm s.vm).frames with heap := T.heap, slotsUsed := T.slotsUsed }
      rw [State.setFrames_setFrames, State.setFrames_self ht]
      rfl
    · show T.slotsUsed = T.slotsUsed + ((T.heap.toList.drop T.heap.size).map (·.slots.size)).sum
      rw [List.drop_eq_nil_of_le (Nat.le_of_eq Array.length_toList)]
      rfl
    · show ((T.heap.toList.drop T.heap.size).map (·.slots.size)).sum ≤ 0
      rw [List.drop_eq_nil_of_le (Nat.le_of_eq Array.length_toList)]
      exact Nat.le_refl _
/-- 'throw new E()': new; dup; invokespecial; athrow -/
theorem vx_throw0 {cc : ByteArray} {pc : Nat} (hexec : p.tables.exec = Jvm.exec) (hb : c.code = cc) (hl : l.stackTraces = false) {own cls : String} {names : List String} {ik ic mc ms : Nat} {A : Nat → Prop}
    (hown : s.vm.findClass own = some m.cls) (hcls : Bundle.fit cls = true) (hnames : ∀ n ∈ names, Bundle.fit n = true)
    (hk : (Cond.classLink own ik cls).before args s = true) (hini : (Cond.initialized cls).before args s = true) (hat : ∀ w ∈ vx_at0 own ic cls names, w.before args s = true)
    (hgood : ∀ w ∈ Cond.classLink own ik cls :: Cond.initialized cls :: vx_at0 own ic cls names, vx_ot w = true)
    (hU : vx_Zq Bundle.tN "UNASSIGNED_STACK" Bundle.steD A s s.heap) (hN : vx_Zq Bundle.tN "SUPPRESSED_SENTINEL" Bundle.listD A s s.heap) (hS : va_S A s.heap H locs) (hsize : ls.size = c.maxLocals)
    (d0 : decode cc pc = .ok (.new ik, 3)) (d3 : decode cc (pc + 3) = .ok (.dup, 1)) (d4 : decode cc (pc + 4) = .ok (.invokespecial ic, 3)) (d7 : decode cc (pc + 7) = .ok (.athrow, 1))
    (hout : ∀ x ∈ c.exceptionTable.toList, covers x (pc + 7) = false)
    (hRframes : names.length + 3 < R.frames) (hRlocals : (rest.map fun v => v.category).sum + (13 * (names.length + 1) + 42) ≤ R.locals) (hRcells : cells + 1 ≤ R.cells) (hRslots : slots + 6 ≤ R.slots) (hlocks : meth.locks = false)
    (hx : ∀ t : State, s.vm.Alike t.vm → H.size ≤ t.heap.size → (∀ q : Nat, q < H.size → t.heap[q]? = H[q]?) → XC cls s t)
    (hf : ∀ z ∈ locs, free z.base) (hc : cells + 1 ≤ mc) (hs : slots + 6 ≤ ms) :
    W p l e R s m args below meth c H locs cells slots (vx_MQ below Qc XC args s mc ms free) (F0 m pc ls rest) := by
  intro T hT X
  have htr : e.platform.stackTraces = false := (show e.platform.stackTraces = l.stackTraces by rw [X.admits.platform]).trans hl
  have Y := vx_rebase X (R' := { frames := R.frames, locals := R.locals, cells := 1, slots := 6 }) (Nat.le_refl _) (Nat.le_refl _) hRcells hRslots
  obtain ⟨s', hA⟩ : ∃ z, z = (T.setVm s.vm).setFrames (.invoking m args :: below) := ⟨_, rfl⟩
  rw [← hA] at Y
  have hvm : s'.vm = s.vm := by rw [hA]; rfl
  have hhp : s'.heap = H := by rw [hA]; exact hT
  have hW0 : s.WarmedH s'.vm := by rw [hvm]; exact State.WarmedH.refl s
  have hat' : ∀ w ∈ vx_at0 own ic cls names, w.before args s' = true := fun w hw => vx_ot_at hW0 hvm.symm (hgood w (List.mem_cons_of_mem _ (List.mem_cons_of_mem _ hw))) (hat w hw)
  have hk' : (Cond.classLink own ik cls).before args s' = true := vx_ot_at hW0 hvm.symm (hgood _ List.mem_cons_self) hk
  have hini' : (Cond.initialized cls).before args s' = true := vx_ot_at hW0 hvm.symm (hgood _ (List.mem_cons_of_mem _ List.mem_cons_self)) hini
  have hU' : vx_Zq Bundle.tN "UNASSIGNED_STACK" Bundle.steD A s' s'.heap := by rw [hhp]; exact vx_Zq.moved hW0.alike (hU.kept hS.2.1)
  have hN' : vx_Zq Bundle.tN "SUPPRESSED_SENTINEL" Bundle.listD A s' s'.heap := by rw [hhp]; exact vx_Zq.moved hW0.alike (hN.kept hS.2.1)
  have h : ∀ w ∈ Bundle.ownAtoms0 own ic cls names, w.before args s' = true := vx_own hat' (vx_isRefq hU'.1) (vx_isRefq hN'.1) hU'.2.word hN'.2.word
  have hown' : s'.vm.findClass own = some m.cls := by rw [hvm]; exact hown
  have hins : (Cond.instantiable cls 6).before args s' = true := h _ (by simp [Bundle.ownAtoms0])
  obtain ⟨vm₁, cX, kX, hfX, hkX, -, -, X₁, st1⟩ := Y.newCold hexec (own := own) (C := cls) (index := ik) (n := 6) hown' hk' hins hini'
    (g := F0 m pc ls rest) rfl (by rw [hb]; exact d0) (Nat.le_refl _) (Nat.le_refl _)
  generalize hT1 : (T.setVm vm₁).pushCell { cls := cX, slots := kX.instanceTypes.map defaultValue, vm := .none } = T1 at X₁ st1
  have hcat : (Value.ref T.heap.size).category = 1 := rfl
  have hcellA : T1.heap[T.heap.size]? = some (freshCell cX kX) := by rw [← hT1]; exact State.heap_pushCell_size _ _
  have d3' : decode c.code (pc + 3) = .ok (.dup, 1) := by rw [hb]; exact d3
  obtain ⟨U, hsteps, hrun, hend, hW, hsame, ce, hce, hO⟩ := X₁.ctorThrow0 hexec htr (own := own) (cls := cls) (names := names) (ic := ic) hown' hcls hnames h (fun x hx => nomatch hx) hfX hkX hcellA (by rw [hhp, hT]; exact Nat.le_refl _)
    (g := { method := m, pc := pc + 4, locals := ls, stack := .ref T.heap.size :: .ref T.heap.size :: rest, locked := none }) rfl hsize rfl rfl (rest := rest) rfl
    (by rw [hb]; exact d4) (by rw [hb]; exact d7) hout hRframes (by simp only [List.map_cons, List.sum_cons, hcat]; omega) hlocks
  obtain ⟨f1, f2⟩ := vx_frame hsame
  rw [hhp] at f1 f2
  have hWs : s.WarmedH U.vm := State.WarmedH.trans hW0 hW
  have hcl : s.vm.findClass cls = some ce.cls := by
    have h9 := hO.cls
    rw [hvm] at h9
    exact h9
  have hall : s.sameButNew ({ U with vm := s.vm } : State) locs mc ms := by
    subst hA
    obtain ⟨e1, e2⟩ := hsame
    rw [State.setFrames_setFrames] at e1
    have h2 : (T.setVm s.vm).sameButNew ({ U with vm := s.vm } : State) [] (0 + 1) (0 + 6) := ⟨e1, e2⟩
    have h3 := X.same.trans h2
    rw [List.append_nil] at h3
    exact h3.mono hc hs
  refine ⟨U, ?_, .threw T.heap.size, hrun, hend, Or.inr ⟨T.heap.size, rfl, cls, ce, locs, hx U hWs.alike f1 (fun q hq => f2 q hq (fun z hz => nomatch hz)), hce, hO.vm, hcl, hWs, hall, hf⟩⟩
  refine st1 _ ?_
  show Steps p.tables e below (T1.setTop { method := m, pc := pc + 3, locals := ls, stack := .ref T.heap.size :: rest, locked := none }) _
  jvm_step X₁.here [X₁.here.top, hexec, d3', Value.category]
  exact hsteps
/-- 'throw new E("text")': new; dup; ldc; invokespecial; athrow -/
theorem vx_throwS {cc : ByteArray} {pc : Nat} (hexec : p.tables.exec = Jvm.exec) (hb : c.code = cc) (hl : l.stackTraces = false) {own cls text : String} {names : List String} {ik is ic mc ms sa : Nat} {A : Nat → Prop}
    (hown : s.vm.findClass own = some m.cls) (hcls : Bundle.fit cls = true) (hnames : ∀ n ∈ names, Bundle.fit n = true)
    (hk : (Cond.classLink own ik cls).before args s = true) (hini : (Cond.initialized cls).before args s = true) (hstr : vk_R own is text sa s) (hat : ∀ w ∈ vx_atS own ic cls names, w.before args s = true)
    (hgood : ∀ w ∈ Cond.classLink own ik cls :: Cond.initialized cls :: vx_atS own ic cls names, vx_ot w = true)
    (hU : vx_Zq Bundle.tN "UNASSIGNED_STACK" Bundle.steD A s s.heap) (hN : vx_Zq Bundle.tN "SUPPRESSED_SENTINEL" Bundle.listD A s s.heap) (hS : va_S A s.heap H locs) (hsize : ls.size = c.maxLocals)
    (d0 : decode cc pc = .ok (.new ik, 3)) (d3 : decode cc (pc + 3) = .ok (.dup, 1)) (d4 : decode cc (pc + 4) = .ok (.ldc is, 2)) (d6 : decode cc (pc + 6) = .ok (.invokespecial ic, 3)) (d9 : decode cc (pc + 9) = .ok (.athrow, 1))
    (hout : ∀ x ∈ c.exceptionTable.toList, covers x (pc + 9) = false)
    (hRframes : names.length + 3 < R.frames) (hRlocals : (rest.map fun v => v.category).sum + (13 * (names.length + 1) + 43) ≤ R.locals) (hRcells : cells + 1 ≤ R.cells) (hRslots : slots + 6 ≤ R.slots) (hlocks : meth.locks = false)
    (hx : ∀ t : State, s.vm.Alike t.vm → H.size ≤ t.heap.size → (∀ q : Nat, q < H.size → t.heap[q]? = H[q]?) → XC cls s t)
    (hf : ∀ z ∈ locs, free z.base) (hc : cells + 1 ≤ mc) (hs : slots + 6 ≤ ms) :
    W p l e R s m args below meth c H locs cells slots (vx_MQ below Qc XC args s mc ms free) (F0 m pc ls rest) := by
  intro T hT X
  have htr : e.platform.stackTraces = false := (show e.platform.stackTraces = l.stackTraces by rw [X.admits.platform]).trans hl
  have Y := vx_rebase X (R' := { frames := R.frames, locals := R.locals, cells := 1, slots := 6 }) (Nat.le_refl _) (Nat.le_refl _) hRcells hRslots
  obtain ⟨s', hA⟩ : ∃ z, z = (T.setVm s.vm).setFrames (.invoking m args :: below) := ⟨_, rfl⟩
  rw [← hA] at Y
  have hvm : s'.vm = s.vm := by rw [hA]; rfl
  have hhp : s'.heap = H := by rw [hA]; exact hT
  have hW0 : s.WarmedH s'.vm := by rw [hvm]; exact State.WarmedH.refl s
  have hat' : ∀ w ∈ vx_atS own ic cls names, w.before args s' = true := fun w hw => vx_ot_at hW0 hvm.symm (hgood w (List.mem_cons_of_mem _ (List.mem_cons_of_mem _ hw))) (hat w hw)
  have hk' : (Cond.classLink own ik cls).before args s' = true := vx_ot_at hW0 hvm.symm (hgood _ List.mem_cons_self) hk
  have hini' : (Cond.initialized cls).before args s' = true := vx_ot_at hW0 hvm.symm (hgood _ (List.mem_cons_of_mem _ List.mem_cons_self)) hini
  have hU' : vx_Zq Bundle.tN "UNASSIGNED_STACK" Bundle.steD A s' s'.heap := by rw [hhp]; exact vx_Zq.moved hW0.alike (hU.kept hS.2.1)
  have hN' : vx_Zq Bundle.tN "SUPPRESSED_SENTINEL" Bundle.listD A s' s'.heap := by rw [hhp]; exact vx_Zq.moved hW0.alike (hN.kept hS.2.1)
  have h : ∀ w ∈ Bundle.ownAtoms own ic cls names, w.before args s' = true := vx_own hat' (vx_isRefq hU'.1) (vx_isRefq hN'.1) hU'.2.word hN'.2.word
  have hown' : s'.vm.findClass own = some m.cls := by rw [hvm]; exact hown
  have hins : (Cond.instantiable cls 6).before args s' = true := h _ (by simp [Bundle.ownAtoms])
  obtain ⟨vm₁, cX, kX, hfX, hkX, -, -, X₁, st1⟩ := Y.newCold hexec (own := own) (C := cls) (index := ik) (n := 6) hown' hk' hins hini'
    (g := F0 m pc ls rest) rfl (by rw [hb]; exact d0) (Nat.le_refl _) (Nat.le_refl _)
  generalize hT1 : (T.setVm vm₁).pushCell { cls := cX, slots := kX.instanceTypes.map defaultValue, vm := .none } = T1 at X₁ st1
  have hcat : (Value.ref T.heap.size).category = 1 := rfl
  have hcellA : T1.heap[T.heap.size]? = some (freshCell cX kX) := by rw [← hT1]; exact State.heap_pushCell_size _ _
  have d3' : decode c.code (pc + 3) = .ok (.dup, 1) := by rw [hb]; exact d3
  have d4' : decode c.code (pc + 4) = .ok (.ldc is, 2) := by rw [hb]; exact d4
  have hstr' : vk_R own is text sa s' := vk_R.warm hW0 hstr
  obtain ⟨U, hsteps, hrun, hend, hW, hsame, ce, hce, hO⟩ := X₁.ctorThrowS hexec htr (own := own) (cls := cls) (names := names) (ic := ic) hown' hcls hnames h (fun x hx => nomatch hx) hfX hkX hcellA (by rw [hhp, hT]; exact Nat.le_refl _) (msg := .ref sa) rfl
    (g := { method := m, pc := pc + 6, locals := ls, stack := .ref sa :: .ref T.heap.size :: .ref T.heap.size :: rest, locked := none }) rfl hsize rfl rfl (rest := rest) rfl
    (by rw [hb]; exact d6) (by rw [hb]; exact d9) hout hRframes (by simp only [List.map_cons, List.sum_cons, hcat]; omega) hlocks
  obtain ⟨f1, f2⟩ := vx_frame hsame
  rw [hhp] at f1 f2
  have hWs : s.WarmedH U.vm := State.WarmedH.trans hW0 hW
  have hcl : s.vm.findClass cls = some ce.cls := by
    have h9 := hO.cls
    rw [hvm] at h9
    exact h9
  have hall : s.sameButNew ({ U with vm := s.vm } : State) locs mc ms := by
    subst hA
    obtain ⟨e1, e2⟩ := hsame
    rw [State.setFrames_setFrames] at e1
    have h2 : (T.setVm s.vm).sameButNew ({ U with vm := s.vm } : State) [] (0 + 1) (0 + 6) := ⟨e1, e2⟩
    have h3 := X.same.trans h2
    rw [List.append_nil] at h3
    exact h3.mono hc hs
  refine ⟨U, ?_, .threw T.heap.size, hrun, hend, Or.inr ⟨T.heap.size, rfl, cls, ce, locs, hx U hWs.alike f1 (fun q hq => f2 q hq (fun z hz => nomatch hz)), hce, hO.vm, hcl, hWs, hall, hf⟩⟩
  refine st1 _ ?_
  show Steps p.tables e below (T1.setTop { method := m, pc := pc + 3, locals := ls, stack := .ref T.heap.size :: rest, locked := none }) _
  jvm_step X₁.here [X₁.here.top, hexec, d3', Value.category]
  exact X₁.ldcString hexec (own := own) (text := text) (index := is) (a := sa) hown' hstr'.1 hstr'.2
    (g := { method := m, pc := pc + 4, locals := ls, stack := .ref T.heap.size :: .ref T.heap.size :: rest, locked := none }) rfl d4' _ hsteps
/-- 'throw new E("text")', the text by a wide index -/
theorem vx_throwSW {cc : ByteArray} {pc : Nat} (hexec : p.tables.exec = Jvm.exec) (hb : c.code = cc) (hl : l.stackTraces = false) {own cls text : String} {names : List String} {ik is ic mc ms sa : Nat} {A : Nat → Prop}
    (hown : s.vm.findClass own = some m.cls) (hcls : Bundle.fit cls = true) (hnames : ∀ n ∈ names, Bundle.fit n = true)
    (hk : (Cond.classLink own ik cls).before args s = true) (hini : (Cond.initialized cls).before args s = true) (hstr : vk_R own is text sa s) (hat : ∀ w ∈ vx_atS own ic cls names, w.before args s = true)
    (hgood : ∀ w ∈ Cond.classLink own ik cls :: Cond.initialized cls :: vx_atS own ic cls names, vx_ot w = true)
    (hU : vx_Zq Bundle.tN "UNASSIGNED_STACK" Bundle.steD A s s.heap) (hN : vx_Zq Bundle.tN "SUPPRESSED_SENTINEL" Bundle.listD A s s.heap) (hS : va_S A s.heap H locs) (hsize : ls.size = c.maxLocals)
    (d0 : decode cc pc = .ok (.new ik, 3)) (d3 : decode cc (pc + 3) = .ok (.dup, 1)) (d4 : decode cc (pc + 4) = .ok (.ldc_w is, 3)) (d7 : decode cc (pc + 7) = .ok (.invokespecial ic, 3)) (d10 : decode cc (pc + 10) = .ok (.athrow, 1))
    (hout : ∀ x ∈ c.exceptionTable.toList, covers x (pc + 10) = false)
    (hRframes : names.length + 3 < R.frames) (hRlocals : (rest.map fun v => v.category).sum + (13 * (names.length + 1) + 43) ≤ R.locals) (hRcells : cells + 1 ≤ R.cells) (hRslots : slots + 6 ≤ R.slots) (hlocks : meth.locks = false)
    (hx : ∀ t : State, s.vm.Alike t.vm → H.size ≤ t.heap.size → (∀ q : Nat, q < H.size → t.heap[q]? = H[q]?) → XC cls s t)
    (hf : ∀ z ∈ locs, free z.base) (hc : cells + 1 ≤ mc) (hs : slots + 6 ≤ ms) :
    W p l e R s m args below meth c H locs cells slots (vx_MQ below Qc XC args s mc ms free) (F0 m pc ls rest) := by
  intro T hT X
  have htr : e.platform.stackTraces = false := (show e.platform.stackTraces = l.stackTraces by rw [X.admits.platform]).trans hl
  have Y := vx_rebase X (R' := { frames := R.frames, locals := R.locals, cells := 1, slots := 6 }) (Nat.le_refl _) (Nat.le_refl _) hRcells hRslots
  obtain ⟨s', hA⟩ : ∃ z, z = (T.setVm s.vm).setFrames (.invoking m args :: below) := ⟨_, rfl⟩
  rw [← hA] at Y
  have hvm : s'.vm = s.vm := by rw [hA]; rfl
  have hhp : s'.heap = H := by rw [hA]; exact hT
  have hW0 : s.WarmedH s'.vm := by rw [hvm]; exact State.WarmedH.refl s
  have hat' : ∀ w ∈ vx_atS own ic cls names, w.before args s' = true := fun w hw => vx_ot_at hW0 hvm.symm (hgood w (List.mem_cons_of_mem _ (List.mem_cons_of_mem _ hw))) (hat w hw)
  have hk' : (Cond.classLink own ik cls).before args s' = true := vx_ot_at hW0 hvm.symm (hgood _ List.mem_cons_self) hk
  have hini' : (Cond.initialized cls).before args s' = true := vx_ot_at hW0 hvm.symm (hgood _ (List.mem_cons_of_mem _ List.mem_cons_self)) hini
  have hU' : vx_Zq Bundle.tN "UNASSIGNED_STACK" Bundle.steD A s' s'.heap := by rw [hhp]; exact vx_Zq.moved hW0.alike (hU.kept hS.2.1)
  have hN' : vx_Zq Bundle.tN "SUPPRESSED_SENTINEL" Bundle.listD A s' s'.heap := by rw [hhp]; exact vx_Zq.moved hW0.alike (hN.kept hS.2.1)
  have h : ∀ w ∈ Bundle.ownAtoms own ic cls names, w.before args s' = true := vx_own hat' (vx_isRefq hU'.1) (vx_isRefq hN'.1) hU'.2.word hN'.2.word
  have hown' : s'.vm.findClass own = some m.cls := by rw [hvm]; exact hown
  have hins : (Cond.instantiable cls 6).before args s' = true := h _ (by simp [Bundle.ownAtoms])
  obtain ⟨vm₁, cX, kX, hfX, hkX, -, -, X₁, st1⟩ := Y.newCold hexec (own := own) (C := cls) (index := ik) (n := 6) hown' hk' hins hini'
    (g := F0 m pc ls rest) rfl (by rw [hb]; exact d0) (Nat.le_refl _) (Nat.le_refl _)
  generalize hT1 : (T.setVm vm₁).pushCell { cls := cX, slots := kX.instanceTypes.map defaultValue, vm := .none } = T1 at X₁ st1
  have hcat : (Value.ref T.heap.size).category = 1 := rfl
  have hcellA : T1.heap[T.heap.size]? = some (freshCell cX kX) := by rw [← hT1]; exact State.heap_pushCell_size _ _
  have d3' : decode c.code (pc + 3) = .ok (.dup, 1) := by rw [hb]; exact d3
  have d4' : decode c.code (pc + 4) = .ok (.ldc_w is, 3) := by rw [hb]; exact d4
  have hstr' : vk_R own is text sa s' := vk_R.warm hW0 hstr
  obtain ⟨U, hsteps, hrun, hend, hW, hsame, ce, hce, hO⟩ := X₁.ctorThrowS hexec htr (own := own) (cls := cls) (names := names) (ic := ic) hown' hcls hnames h (fun x hx => nomatch hx) hfX hkX hcellA (by rw [hhp, hT]; exact Nat.le_refl _) (msg := .ref sa) rfl
    (g := { method := m, pc := pc + 7, locals := ls, stack := .ref sa :: .ref T.heap.size :: .ref T.heap.size :: rest, locked := none }) rfl hsize rfl rfl (rest := rest) rfl
    (by rw [hb]; exact d7) (by rw [hb]; exact d10) hout hRframes (by simp only [List.map_cons, List.sum_cons, hcat]; omega) hlocks
  obtain ⟨f1, f2⟩ := vx_frame hsame
  rw [hhp] at f1 f2
  have hWs : s.WarmedH U.vm := State.WarmedH.trans hW0 hW
  have hcl : s.vm.findClass cls = some ce.cls := by
    have h9 := hO.cls
    rw [hvm] at h9
    exact h9
  have hall : s.sameButNew ({ U with vm := s.vm } : State) locs mc ms := by
    subst hA
    obtain ⟨e1, e2⟩ := hsame
    rw [State.setFrames_setFrames] at e1
    have h2 : (T.setVm s.vm).sameButNew ({ U with vm := s.vm } : State) [] (0 + 1) (0 + 6) := ⟨e1, e2⟩
    have h3 := X.same.trans h2
    rw [List.append_nil] at h3
    exact h3.mono hc hs
  refine ⟨U, ?_, .threw T.heap.size, hrun, hend, Or.inr ⟨T.heap.size, rfl, cls, ce, locs, hx U hWs.alike f1 (fun q hq => f2 q hq (fun z hz => nomatch hz)), hce, hO.vm, hcl, hWs, hall, hf⟩⟩
  refine st1 _ ?_
  show Steps p.tables e below (T1.setTop { method := m, pc := pc + 3, locals := ls, stack := .ref T.heap.size :: rest, locked := none }) _
  jvm_step X₁.here [X₁.here.top, hexec, d3', Value.category]
  exact X₁.ldcStringW hexec (own := own) (text := text) (index := is) (a := sa) hown' hstr'.1 hstr'.2
    (g := { method := m, pc := pc + 4, locals := ls, stack := .ref T.heap.size :: .ref T.heap.size :: rest, locked := none }) rfl d4' _ hsteps
end Ends
section Bodies
variable {l : Launch}
theorem vx_ofW {y : MethodName} {ws ws' : List Cond} {rm : Room} {Pc : Array Value → State → Prop} {Qc : Array Value → State → Outcome → State → Prop} {XC : String → State → State → Prop} {mc ms : Nat} {free : Addr → Prop} {cc : ByteArray} {maxL : Nat} {ret : Option FieldType}
    (hy : plainName y.cls = true) (hw : ws = Cond.code y cc maxL ret :: ws')
    (body : ∀ p e s m args below meth c s₁, BodyLoose p l y (headSpec ws rm) cc maxL ret e s m args below meth c s₁ → c.maxLocals = maxL → (∀ x ∈ c.exceptionTable.toList, False) → Pc args s →
      W p l e (headSpec ws rm).room s m args below meth c s.heap [] 0 0 (vx_MQ below Qc XC args s mc ms free) (entryFrame m args maxL)) : vx_Met l y ws rm Pc Qc XC mc ms free := by
  refine MetFree.of_bodyS (code := cc) (maxLocals := maxL) (ret := ret) hy ?_ ?_
  · intro args s m h hn
    obtain ⟨meth, c, h1, h2, h3, h4, h5, h6, -, -⟩ := Cond.code_spec hn (atoms_spec (ws := ws) h _ (by rw [hw]; exact List.mem_cons_self))
    exact ⟨meth, c, h1, h2, h3, h4, h5, h6⟩
  · intro p e s m args below meth c s₁ B hml hP _
    have hh0 : s₁.heap = s.heap := by rw [B.state]; rfl
    have ht : ∀ x ∈ c.exceptionTable.toList, False := by
      obtain ⟨meth9, c9, h1, h2, -, -, -, -, h7, -⟩ := Cond.code_spec B.named (atoms_spec (ws := ws) B.pre _ (by rw [hw]; exact List.mem_cons_self))
      cases Option.some.inj (h1.symm.trans B.method)
      cases Option.some.inj (h2.symm.trans (Stand.of_body B).code)
      intro x hx
      rw [Array.isEmpty_iff.mp h7] at hx
      cases hx
    obtain ⟨t, a1, o, b1, b2, b3⟩ := body p e s m args below meth c s₁ B hml ht hP s₁ hh0 (Stand.of_body B)
    exact ⟨t, o, a1, b1, b2, b3⟩
/-- the table of a body with handlers -/
theorem vx_table {p : Program} {x y : MethodName} {S : Spec} {cc bytes : ByteArray} {maxL maxL' : Nat} {ret ret' : Option FieldType} {e : Env} {s s₁ : State} {m : MethodId} {args : Array Value} {below : List Frame} {meth : Method} {c : Code} {hh : List (Nat × Nat × Nat × Nat)}
    (B : BodyLoose p l y S cc maxL ret e s m args below meth c s₁) (h : (Cond.codeWith y bytes maxL' ret' hh).before args s = true) : c.exceptionTable.toList = tableOf hh := by
  obtain ⟨m9, meth9, c9, hn9, h1, h2, -, -, h6, -⟩ := Cond.codeWith_spec h
  cases Option.some.inj (hn9.symm.trans B.named)
  cases Option.some.inj (h1.symm.trans B.method)
  cases Option.some.inj (h2.symm.trans (Stand.of_body B).code)
  rw [← h6, table_eq]
end Bodies
end VXA
/-! ===== END ===== -/
/-! ===== BEGIN a static call of a method with an exception table ===== -/
section VXS
variable {p : Program} {l : Launch} {e : Env} {R : Room} {s : State} {m : MethodId} {args : Array Value} {below : List Frame} {meth : Method} {c : Code} {T : State} {H : Heap} {locs : List Loc} {cells slots : Nat}
abbrev vx_CSW (R : Room) (s : State) (args : Array Value) (own : String) (index : Nat) (y : MethodName) (bytes : ByteArray) (maxL : Nat) (ret : Option FieldType) (hh : List (Nat × Nat × Nat × Nat)) (ws : List Cond) (rm : Room) (mc ms n : Nat) : Prop :=
  (rm.cells = mc ∧ rm.slots = ms ∧ rm.frames + 1 ≤ R.frames ∧ 8 + (maxL + 11) + rm.locals ≤ R.locals ∧ (∀ w ∈ ws, ∀ (a' : Array Value) (U : State), s.WarmedH U.vm → w.before a' U = true) ∧ Cond.codeWith y bytes maxL ret hh ∈ ws) ∧
  (Cond.codeWith y bytes maxL ret hh).before args s = true ∧ (Cond.initialized y.cls).before args s = true ∧ (y.cls ≠ "java/lang/invoke/MethodHandle" ∧ y.cls ≠ "java/lang/invoke/VarHandle") ∧
  (∀ sig, parseMethodDescriptor y.desc = some sig → n = sig.parameters.length) ∧ (Cond.methodLink own index y).before args s = true ∧ (Cond.static y).before args s = true
theorem vx_cwSW {own : String} {index maxL mc ms : Nat} {y : MethodName} {bytes : ByteArray} {ret : Option FieldType} {hh : List (Nat × Nat × Nat × Nat)} {Ts ws ws' : List Cond} {rm : Room} (n : Nat) (ht : ∀ w ∈ Ts, w.before args s = true) (hT : GoodIn Ts (va_wsS own index y ws)) (hw : ws = Cond.codeWith y bytes maxL ret hh :: ws') (hrc : rm.cells = mc) (hrs : rm.slots = ms)
    (hd : y.cls ≠ "java/lang/invoke/MethodHandle" ∧ y.cls ≠ "java/lang/invoke/VarHandle" ∧ (parseMethodDescriptor y.desc).map (fun d => d.parameters.length) = some n) (hR : rm.frames + 1 ≤ R.frames ∧ 8 + (maxL + 11) + rm.locals ≤ R.locals) :
    vx_CSW R s args own index y bytes maxL ret hh ws rm mc ms n := by
  have ok : ∀ w ∈ va_wsS own index y ws, w.before args s = true := fun w h => ht w (hT w h).1
  have hG : GoodIn Ts ws := fun w h => hT w (by unfold va_wsS; exact List.mem_append_right _ h)
  have hc : Cond.codeWith y bytes maxL ret hh ∈ ws := by rw [hw]; exact List.mem_cons_self
  refine ⟨⟨hrc, hrs, hR.1, hR.2, pay_in ht hG, hc⟩, ht _ (hG _ hc).1, ok _ (by simp [va_wsS]), ⟨hd.1, hd.2.1⟩, fun sig h => ?_, ok _ (by simp [va_wsS]), ok _ (by simp [va_wsS])⟩
  have h2 := hd.2.2
  rw [h] at h2
  exact (Option.some.inj h2).symm
theorem vx_callSW (X : Stand p l e R s m args below meth c T locs cells slots) (hexec : p.tables.exec = Jvm.exec) {own : String} {index : Nat} {y : MethodName} {bytes : ByteArray} {maxL : Nat} {ret : Option FieldType} {hh : List (Nat × Nat × Nat × Nat)}
    (hown : s.vm.findClass own = some m.cls) (hlink : (Cond.methodLink own index y).before args s = true) (hstat : (Cond.static y).before args s = true) (hinit : (Cond.initialized y.cls).before args s = true)
    (hcode : (Cond.codeWith y bytes maxL ret hh).before args s = true) (hy : y.cls ≠ "java/lang/invoke/MethodHandle" ∧ y.cls ≠ "java/lang/invoke/VarHandle")
    {W9 : Nat} {Pre : Pt → Array Value → Prop} {Post : Pt → Array Value → Option Value → Pt → Prop} (hK : Back l R p e below s args y 3 W9 Pre Post)
    {g : JFrame} (hg : g.method = m) (hsize : g.locals.size = c.maxLocals) {argsL rest : List Value} (hlen : ∀ sig, parseMethodDescriptor y.desc = some sig → argsL.length = sig.parameters.length)
    (hstack : g.stack = argsL.reverse ++ rest) (hW : 2 * g.monitorRoom + (rest.map fun v => v.category).sum ≤ W9) (hdg : decode c.code g.pc = .ok (.invokestatic index, 3))
    (hpre : ∀ vm₁, s.WarmedH vm₁ → Pre ⟨T.setVm vm₁, locs, cells, slots⟩ argsL.toArray) :
    ∃ (v : Option Value) (vm₁ : Vm) (B : Pt), s.WarmedH vm₁ ∧ Stand p l e R s m args below meth c B.U B.locs B.cells B.slots ∧ Post ⟨T.setVm vm₁, locs, cells, slots⟩ argsL.toArray v B ∧
      ∀ target, Steps p.tables e below (B.U.setTop { g with pc := g.pc + 3, stack := v.toList ++ rest }) target → Steps p.tables e below (T.setTop g) target := by
  obtain ⟨mk, methM, cM, hnamed, hmethM, -, -, -, -, -, -, hsigM⟩ := Cond.codeWith_spec hcode
  have hstatic : methM.isStatic = true := Cond.static_spec hnamed hmethM hstat
  obtain ⟨kP, hkP, -⟩ := className_of_methodNamed hnamed
  have hinitP : kP.init = .initialized := Cond.initialized_spec (findClass_of_methodNamed hnamed) hkP hinit
  obtain ⟨vm₁, X₁, hstep₁⟩ := X.invokestatic hexec hown hlink hnamed hmethM hstatic hkP hinitP hy (g := g) hg (argsL := argsL) (rest := rest) (hlen _ hsigM) hstack hdg
  obtain ⟨v, B, X', hpost, hsteps⟩ := hK m meth c ⟨T.setVm vm₁, locs, cells, slots⟩ { g with stack := rest } (.invokestatic index) mk argsL.toArray X₁ hg hsize hdg hW (X₁.named hnamed) (hpre vm₁ X₁.warmed)
  exact ⟨v, vm₁, B, X₁.warmed, X', hpost, fun target h => hstep₁ _ fun acts => by rw [doInvoke_state]; exact hsteps.trans h⟩
theorem vx_runSW {y : MethodName} {bytes cc : ByteArray} {maxL nL mc ms n index : Nat} {ret : Option FieldType} {hh : List (Nat × Nat × Nat × Nat)} {ws : List Cond} {rm : Room} {Pc : Array Value → State → Prop} {Qc : Array Value → State → Outcome → State → Prop} {free : Addr → Prop} {Ts : List Cond} {own : String} {As rest : List Value} {g : JFrame}
    (S : CallFix p m c cc nL s args Ts own) (hM : Met l y ws rm Pc Qc mc ms free) (cw : vx_CSW R s args own index y bytes maxL ret hh ws rm mc ms n) (hp : PreS s H Pc As)
    (hg : g.method = m) (hn : As.length = n) (hsize : g.locals.size = nL) (hstack : g.stack = As.reverse ++ rest) (hW : 2 * g.monitorRoom + (rest.map fun v => v.category).sum ≤ 8) (hdg : decode cc g.pc = .ok (.invokestatic index, 3)) (hf : cells + mc ≤ R.cells ∧ slots + ms ≤ R.slots) :
    va_Run p l e R s m args below meth c H locs cells slots mc ms g rest (Qc As.toArray) (free) := by
  obtain ⟨⟨hrc, hrs, hfr, hlo, hws, hcw⟩, hcode, hini, hy, hlen, hl, hstt⟩ := cw
  have hK : Back l R p e below s args y 3 8 (PreOf R mc ms Pc) (PostOf Qc mc ms free) := va_backW (hh := hh) (bytes := bytes) (maxL := maxL) (ret := ret) hM hp.1 hrc hrs hfr hlo hws hcw (fun a' U hW => word_at hW (Or.inl (by first | rfl | simp [Cond.onTables, Cond.keeps, Cond.steady])) hini)
  obtain ⟨hx, hb, hml, ho, -⟩ := S
  intro T hT X
  obtain ⟨v, vm₁, ⟨U', l2, c2, s2⟩, hW₁, X', ⟨g', mk, t, L, e1, e2, hq, h1, hL, h2, h3⟩, st⟩ := vx_callSW X hx (hh := hh) (bytes := bytes) (maxL := maxL) (ret := ret) ho hl hstt hini hcode hy hK hg (hsize.trans hml.symm) (argsL := As) (rest := rest) (fun sig h => hn.trans (hlen sig h)) hstack hW (by rw [hb]; exact hdg)
    (fun vm₁ hW₁ => ⟨hf.1, hf.2, hp.2 (T.setVm vm₁) hT hW₁⟩)
  dsimp only [Pt.U, Pt.locs, Pt.cells, Pt.slots] at X' e1 e2 h1 h2 h3 st
  subst h1; subst h2; subst h3
  exact ⟨v, (T.setVm vm₁).calling g' mk As.toArray, t, U', L, hT, X', hL, e1, e2, hq, st⟩
/-- not caught here, past rows that name other classes: it goes on to the caller -/
theorem vx_outP {p : Program} {l : Launch} {e : Env} {R : Room} {s : State} {m : MethodId} {args : Array Value} {below : List Frame} {meth : Method} {c : Code} {H : Heap} {locs : List Loc} {cells slots : Nat} {free : Addr → Prop} {ls : Array Slot} {rest : List Value} {Qc : Array Value → State → Outcome → State → Prop} {XC : String → State → State → Prop}
    {pc : Nat} {own E : String} {ce : Cell} {q : Addr} {mc ms : Nat} (hown : s.vm.findClass own = some m.cls) (hlocks : meth.locks = false)
    (hpass : ∀ z ∈ c.exceptionTable.toList, covers z pc = false ∨ (z.catchType ≠ 0 ∧ ∃ nm : String, (Cond.classLink own z.catchType nm).before args s = true ∧ va_Nc E nm s)) (hcell : H[q]? = some ce) (hv : ce.vm = .none) (hcl : s.vm.findClass E = some ce.cls)
    (hx : ∀ t : State, t.heap = H → s.vm.Alike t.vm → XC E s t) (hf : ∀ z ∈ locs, free z.base) (hc : cells ≤ mc) (hs : slots ≤ ms) :
    vx_W p l e R s m args below meth c H locs cells slots (vx_MQ below Qc XC args s mc ms free) (F0 m pc ls rest) q := by
  intro T hT X
  have hpl : e.platform.magicAccessors = ({} : Platform).magicAccessors := by rw [X.admits.platform]
  obtain ⟨vm', hW', X', st⟩ := X.outThrough hlocks q (g := F0 m pc ls rest) rfl rfl rfl (cell := ce) (by rw [hT]; exact hcell) (by rw [hv]; rfl)
    (by obtain ⟨k9, h9, -⟩ := Vm.findClass_spec hcl; exact ⟨k9, h9⟩) (fun z hz => by
      rcases hpass z hz with h | ⟨hz0, nm, hl1, hn1⟩
      · exact Or.inl h
      · obtain ⟨c6, hc6, hcl6⟩ := Cond.classLink_spec hown hl1 e.platform hpl
        obtain ⟨a8, b8, h1, h2, h3⟩ := hn1
        cases Option.some.inj (h1.symm.trans hcl)
        cases Option.some.inj (h2.symm.trans hc6)
        exact Or.inr ⟨hz0, _, hcl6, h3⟩)
  obtain ⟨g₀, hfr⟩ := X'.frames_eq
  have hcell9 : ((T.setVm vm').setFrames (.throwing q :: below)).heap[q]? = some ce := by
    show T.heap[q]? = some ce
    rw [hT]; exact hcell
  have hend : Ended ((T.setVm vm').setFrames (.throwing q :: below)) below (.threw q) := State.frames_setFrames _ (State.cur_lt_of_frames hfr)
  refine ⟨(T.setVm vm').setFrames (.throwing q :: below), ?_, .threw q, X'.here.running, hend, Or.inr ⟨q, rfl, E, ce, locs, hx _ hT (X'.ends _).1.alike, hcell9, hv, hcl, (X'.ends _).1, (X'.ends _).2.mono hc hs, hf⟩⟩
  rw [X.pushThrowing_eq]
  exact st
/-- a thing of a world lies in the heap -/
theorem vx_lt {D : va_G} {cl : List vw_C} {ws : va_W} {H1 : Heap} (h : va_P D cl ws H1) {k : Nat} {q : Nat × va_E} (hk : ws[k]? = some q) : q.1 < H1.size := (h k q hk).lt
end VXS
/-! ===== END ===== -/
/-! ===== BEGIN methods with a table of their own: called by a name, returning or throwing ===== -/
section VXH
/-! vx_backW, vx_callVX, vx_callSX, vx_callVW, vx_runVW, vx_runVX, vx_runSX, vx_ofWH follow the same proofs as their sisters above (Free/Laws.lean, Shelf42/LK1.lean); vx_outP calls Shelf42/NT130.lean (outThrough). -/
section
variable {l : Launch} {R : Room} {p : Program} {e : Env} {below : List Frame} {s : State} {sargs : Array Value} {y : MethodName} {len W9 : Nat}
theorem vx_backW {ws : List Cond} {rm : Room} {Pc : Array Value → State → Prop} {Qc : Array Value → State → Outcome → State → Prop} {XC : String → State → State → Prop} {mc ms : Nat} {free : Addr → Prop} {bytes : ByteArray} {maxL : Nat} {ret : Option FieldType} {hh : List (Nat × Nat × Nat × Nat)}
    (hM : vx_Met l y ws rm Pc Qc XC mc ms free) (hblind : FrameBlind Pc) (hrc : rm.cells = mc) (hrs : rm.slots = ms)
    (hframes : rm.frames + 1 ≤ R.frames) (hlocals : W9 + (maxL + 11) + rm.locals ≤ R.locals)
    (hws : ∀ w ∈ ws, ∀ a' U, s.WarmedH U.vm → w.before a' U = true) (hcode : Cond.codeWith y bytes maxL ret hh ∈ ws) (hinit : ∀ a' U, s.WarmedH U.vm → (Cond.initialized y.cls).before a' U = true) :
    vx_Back l R p e below s sargs y len W9 (PreOf R mc ms Pc) (PostOf Qc mc ms free) (vx_Post XC mc ms free) := by
  intro m meth c A g ig mk a X hg hsize hdg hW hn hp
  have h1 : (headSpec ws rm).pre.before a A.U = true := atoms_intro fun w hw => hws w hw _ _ X.warmed
  have h2 : (Cond.codeWith y bytes maxL ret hh).before a A.U = true := hws _ hcode _ _ X.warmed
  have h3 : (Cond.initialized y.cls).before a A.U = true := hinit _ _ X.warmed
  have h4 : A.cells + (headSpec ws rm).room.cells ≤ R.cells := by rw [show (headSpec ws rm).room.cells = mc from hrc]; exact hp.1
  have h5 : A.slots + (headSpec ws rm).room.slots ≤ R.slots := by rw [show (headSpec ws rm).room.slots = ms from hrs]; exact hp.2.1
  have hPc : Pc a (A.U.calling g mk a) := hblind _ _ _ _ hp.2.2
  obtain ⟨U, Ls, c0, s0⟩ := A
  dsimp only [Pt.U, Pt.locs, Pt.cells, Pt.slots] at h1 h2 h3 h4 h5 X hn hPc ⊢
  obtain ⟨m9, methY, cY, hn9, hmY, hcY, -, hlY, -⟩ := Cond.codeWith_spec h2
  cases Option.some.inj (hn9.symm.trans hn)
  obtain ⟨kY, hkY, -⟩ := className_of_methodNamed hn
  have hinitY : kY.init = .initialized := Cond.initialized_spec (findClass_of_methodNamed hn) hkY h3
  have h : At U g.method c below := by rw [hg]; exact X.here
  have hlocals9 : W9 + (maxL + 11) + (headSpec ws rm).room.locals ≤ R.locals := hlocals
  have happ : (headSpec ws rm).appliesLoose y e.platform (U.calling g mk a) = true :=
    Spec.appliesLoose_calling (g := g) h hdg hn hkY hinitY
      (X.room_calling (g := g) (R' := (headSpec ws rm).room) hsize hmY hcY hframes (by rw [hlY]; omega) h4 h5) h1
  obtain ⟨mid, hmid⟩ := h.above
  have hfr : (U.setTop g).frames = (.java g :: mid) ++ below := by rw [State.frames_setTop' g h.top, hmid]; rfl
  obtain ⟨o, s₂, hsteps, -, hend, hq⟩ := Steps.callFree hM p X.admits X.cas X.clock (acts := []) hfr happ hPc trivial
  have hq' : vx_Q Qc XC mc ms free a (U.calling g mk a) o s₂ := hq
  rw [State.frames_setTop' g h.top] at hend
  obtain ⟨g₀, hg0⟩ := Option.isSome_iff_exists.mp h.top
  obtain ⟨r, hr⟩ := State.topJava?_eq_some.mp hg0
  have hr' : (({ U with heap := s₂.heap, slotsUsed := s₂.slotsUsed } : State).setVm s₂.vm).frames = .java g₀ :: r := hr
  rcases hq' with ⟨hqc, L, hfe, hL⟩ | ⟨q, rfl, E, ce, L, hx, hce, hcv, hcl, hW₂, hsm, hL⟩
  · obtain ⟨⟨v, rfl⟩, hW₂, e2, q2, q3, q4, q5, q6⟩ := id hfe
    have e3 : s₂ = ({ (U.calling g mk a).setFrames s₂.frames with heap := s₂.heap, slotsUsed := s₂.slotsUsed } : State).setVm s₂.vm := by
      have : s₂ = ({ s₂ with vm := (U.calling g mk a).vm } : State).setVm s₂.vm := rfl
      rw [e2] at this
      exact this
    obtain ⟨c₂, i₂, len₂, hc₂, hd₂, hf₂⟩ := hend
    have hW' : U.WarmedH s₂.vm := hW₂
    have hcc : c₂ = c := by
      have h1 : s₂.code? g.method = U.code? g.method := by
        rw [State.code?_eq, State.code?_eq, hW'.alike.method?]
      exact Option.some.inj (hc₂.symm.trans (h1.trans h.code))
    subst hcc
    have hlen : len₂ = len := by rw [hdg] at hd₂; cases hd₂; rfl
    subst hlen
    have hs₂ : s₂ = (({ U with heap := s₂.heap, slotsUsed := s₂.slotsUsed } : State).setVm s₂.vm).setTop { g with pc := g.pc + len₂, stack := v.toList ++ g.stack } := by
      refine e3.trans ?_
      rw [hf₂, State.calling_eq h.top, State.setFrames_setFrames, State.setTop_of_frames _ hr', hr]
      rfl
    have hsame : U.sameButNew ({ U with heap := s₂.heap, slotsUsed := s₂.slotsUsed } : State) L mc ms := by
      refine ⟨?_, q2, q3, q4, q5, q6⟩
      obtain ⟨t, ht, -⟩ := State.frames_cons hr
      show ({ U with heap := s₂.heap, slotsUsed := s₂.slotsUsed } : State) = { U.setFrames U.frames with heap := s₂.heap, slotsUsed := s₂.slotsUsed }
      rw [State.setFrames_self ht]
    subst hg
    refine Or.inl ⟨v, ⟨(({ U with heap := s₂.heap, slotsUsed := s₂.slotsUsed } : State).setVm s₂.vm), Ls ++ L, c0 + mc, s0 + ms⟩,
      ⟨X.admits, X.cas, X.clock, X.frames, X.room, X.hears, X.method, X.code, (X.here.setHeapUsed s₂.heap s₂.slotsUsed).setVm hW'.alike, X.tail, State.WarmedH.trans X.warmed hW', X.limits, X.bytes, X.same.trans (hsame.setVm s.vm)⟩,
      ⟨g, mk, s₂, L, rfl, rfl, hqc, rfl, hL, rfl, rfl⟩, ?_⟩
    show Steps p.tables e below _ ((({ U with heap := s₂.heap, slotsUsed := s₂.slotsUsed } : State).setVm s₂.vm).setTop { g with pc := g.pc + len₂, stack := v.toList ++ g.stack })
    rw [← hs₂]
    exact hsteps
  · obtain ⟨e2, q2, q3, q4, q5, q6⟩ := id hsm
    have e3 : s₂ = ({ (U.calling g mk a).setFrames s₂.frames with heap := s₂.heap, slotsUsed := s₂.slotsUsed } : State).setVm s₂.vm := by
      have : s₂ = ({ s₂ with vm := (U.calling g mk a).vm } : State).setVm s₂.vm := rfl
      rw [e2] at this
      exact this
    have hf₂ : s₂.frames = .throwing q :: .java g :: U.frames.tail := hend
    have hW' : U.WarmedH s₂.vm := hW₂
    have hs₂ : s₂ = ((({ U with heap := s₂.heap, slotsUsed := s₂.slotsUsed } : State).setVm s₂.vm).setTop g).pushFrame (.throwing q) := by
      refine e3.trans ?_
      rw [hf₂, State.calling_eq h.top, State.setFrames_setFrames, State.pushFrame, State.frames_setTop _ hr', State.setTop_of_frames _ hr', State.setFrames_setFrames, hr]
      rfl
    have hsame : U.sameButNew ({ U with heap := s₂.heap, slotsUsed := s₂.slotsUsed } : State) L mc ms := by
      refine ⟨?_, q2, q3, q4, q5, q6⟩
      obtain ⟨t, ht, -⟩ := State.frames_cons hr
      show ({ U with heap := s₂.heap, slotsUsed := s₂.slotsUsed } : State) = { U.setFrames U.frames with heap := s₂.heap, slotsUsed := s₂.slotsUsed }
      rw [State.setFrames_self ht]
    subst hg
    refine Or.inr ⟨q, ⟨(({ U with heap := s₂.heap, slotsUsed := s₂.slotsUsed } : State).setVm s₂.vm), Ls ++ L, c0 + mc, s0 + ms⟩,
      ⟨X.admits, X.cas, X.clock, X.frames, X.room, X.hears, X.method, X.code, (X.here.setHeapUsed s₂.heap s₂.slotsUsed).setVm hW'.alike, X.tail, State.WarmedH.trans X.warmed hW', X.limits, X.bytes, X.same.trans (hsame.setVm s.vm)⟩,
      ⟨g, mk, s₂, L, E, ce, rfl, rfl, hx, hce, hcv, hcl, rfl, hL, rfl, rfl⟩, ?_⟩
    show Steps p.tables e below _ (((({ U with heap := s₂.heap, slotsUsed := s₂.slotsUsed } : State).setVm s₂.vm).setTop g).pushFrame (.throwing q))
    rw [← hs₂]
    exact hsteps
end
variable {p : Program} {l : Launch} {e : Env} {R : Room} {s : State} {m : MethodId} {args : Array Value} {below : List Frame} {meth : Method} {c : Code} {T : State} {H : Heap} {locs : List Loc} {cells slots : Nat}
theorem vx_callVX (X : Stand p l e R s m args below meth c T locs cells slots) (hexec : p.tables.exec = Jvm.exec) {own C : String} {index : Nat} {y : MethodName} {bytes : ByteArray} {maxL : Nat} {ret : Option FieldType} {hh : List (Nat × Nat × Nat × Nat)}
    (hown : s.vm.findClass own = some m.cls) (hlink : (Cond.methodLink own index y).before args s = true) (hinst : (Cond.instanceMethod y).before args s = true) (hsel : (Cond.selects C y y).before args s = true)
    (hcode : (Cond.codeWith y bytes maxL ret hh).before args s = true) (hy : y.cls ≠ "java/lang/invoke/MethodHandle" ∧ y.cls ≠ "java/lang/invoke/VarHandle")
    {W9 : Nat} {Pre : Pt → Array Value → Prop} {Post : Pt → Array Value → Option Value → Pt → Prop} {PostX : Pt → Array Value → Addr → Pt → Prop} (hK : vx_Back l R p e below s args y 3 W9 Pre Post PostX)
    {b : Addr} {cellB : Cell} (hcell : T.heap[b]? = some cellB) (hobj : cellB.vm.isStatics = false) (hcls : s.vm.findClass C = some cellB.cls)
    {g : JFrame} (hg : g.method = m) (hsize : g.locals.size = c.maxLocals) {argsL rest : List Value} (hlen : ∀ sig, parseMethodDescriptor y.desc = some sig → argsL.length = sig.parameters.length)
    (hstack : g.stack = argsL.reverse ++ .ref b :: rest) (hW : 2 * g.monitorRoom + (rest.map fun v => v.category).sum ≤ W9) (hdg : decode c.code g.pc = .ok (.invokevirtual index, 3))
    (hpre : ∀ vm₁, s.WarmedH vm₁ → Pre ⟨T.setVm vm₁, locs, cells, slots⟩ (Value.ref b :: argsL).toArray) :
    (∃ (v : Option Value) (vm₁ : Vm) (B : Pt), s.WarmedH vm₁ ∧ Stand p l e R s m args below meth c B.U B.locs B.cells B.slots ∧ Post ⟨T.setVm vm₁, locs, cells, slots⟩ (Value.ref b :: argsL).toArray v B ∧
      ∀ target, Steps p.tables e below (B.U.setTop { g with pc := g.pc + 3, stack := v.toList ++ rest }) target → Steps p.tables e below (T.setTop g) target) ∨
    (∃ (q : Addr) (vm₁ : Vm) (B : Pt), s.WarmedH vm₁ ∧ Stand p l e R s m args below meth c B.U B.locs B.cells B.slots ∧ PostX ⟨T.setVm vm₁, locs, cells, slots⟩ (Value.ref b :: argsL).toArray q B ∧
      Steps p.tables e below (T.setTop g) ((B.U.setTop { g with stack := rest }).pushFrame (.throwing q))) := by
  obtain ⟨mk, methM, hnamed, hmethM, hstM, habM⟩ := Cond.instanceMethod_spec hinst
  obtain ⟨m8, methM', cM, hn8, hmethM', -, -, -, -, -, -, hsigM⟩ := Cond.codeWith_spec hcode
  cases Option.some.inj (hn8.symm.trans hnamed)
  cases hmethM.symm.trans hmethM'
  obtain ⟨c2, r2, m2, q1, q2, q3, q4, kP, hkP, hkPi⟩ := Cond.selects_spec hsel
  cases hcls.symm.trans q1
  cases (State.methodFound?_of_named hnamed hy).symm.trans q2
  cases hnamed.symm.trans q3
  have hselP : selectMethod e.platform s.vm cellB.cls mk = .method mk := by rw [Launch.admits_selectMethod X.admits]; exact q4
  obtain ⟨vm₁, X₁, hstep₁⟩ := X.invokevirtual hexec hown hlink hnamed hmethM hstM hkP hkPi hy (a := b) (cell := cellB) hcell
    (fun z h => by rw [h] at hobj; cases hobj) hselP hmethM habM hkP hkPi (g := g) hg (argsL := argsL) (rest := rest) (hlen _ hsigM) hstack hdg
  rcases hK m meth c ⟨T.setVm vm₁, locs, cells, slots⟩ { g with stack := rest } (.invokevirtual index) mk (Value.ref b :: argsL).toArray X₁ hg hsize hdg hW (X₁.named hnamed) (hpre vm₁ X₁.warmed) with ⟨v, B, X', hpost, hsteps⟩ | ⟨q, B, X', hpost, hsteps⟩
  · exact Or.inl ⟨v, vm₁, B, X₁.warmed, X', hpost, fun target h => hstep₁ _ fun acts => by rw [doInvoke_state]; exact hsteps.trans h⟩
  · exact Or.inr ⟨q, vm₁, B, X₁.warmed, X', hpost, hstep₁ _ fun acts => by rw [doInvoke_state]; exact hsteps⟩
theorem vx_callSX (X : Stand p l e R s m args below meth c T locs cells slots) (hexec : p.tables.exec = Jvm.exec) {own : String} {index : Nat} {y : MethodName} {bytes : ByteArray} {maxL : Nat} {ret : Option FieldType} {hh : List (Nat × Nat × Nat × Nat)}
    (hown : s.vm.findClass own = some m.cls) (hlink : (Cond.methodLink own index y).before args s = true) (hstat : (Cond.static y).before args s = true) (hinit : (Cond.initialized y.cls).before args s = true)
    (hcode : (Cond.codeWith y bytes maxL ret hh).before args s = true) (hy : y.cls ≠ "java/lang/invoke/MethodHandle" ∧ y.cls ≠ "java/lang/invoke/VarHandle")
    {W9 : Nat} {Pre : Pt → Array Value → Prop} {Post : Pt → Array Value → Option Value → Pt → Prop} {PostX : Pt → Array Value → Addr → Pt → Prop} (hK : vx_Back l R p e below s args y 3 W9 Pre Post PostX)
    {g : JFrame} (hg : g.method = m) (hsize : g.locals.size = c.maxLocals) {argsL rest : List Value} (hlen : ∀ sig, parseMethodDescriptor y.desc = some sig → argsL.length = sig.parameters.length)
    (hstack : g.stack = argsL.reverse ++ rest) (hW : 2 * g.monitorRoom + (rest.map fun v => v.category).sum ≤ W9) (hdg : decode c.code g.pc = .ok (.invokestatic index, 3))
    (hpre : ∀ vm₁, s.WarmedH vm₁ → Pre ⟨T.setVm vm₁, locs, cells, slots⟩ argsL.toArray) :
    (∃ (v : Option Value) (vm₁ : Vm) (B : Pt), s.WarmedH vm₁ ∧ Stand p l e R s m args below meth c B.U B.locs B.cells B.slots ∧ Post ⟨T.setVm vm₁, locs, cells, slots⟩ argsL.toArray v B ∧
      ∀ target, Steps p.tables e below (B.U.setTop { g with pc := g.pc + 3, stack := v.toList ++ rest }) target → Steps p.tables e below (T.setTop g) target) ∨
    (∃ (q : Addr) (vm₁ : Vm) (B : Pt), s.WarmedH vm₁ ∧ Stand p l e R s m args below meth c B.U B.locs B.cells B.slots ∧ PostX ⟨T.setVm vm₁, locs, cells, slots⟩ argsL.toArray q B ∧
      Steps p.tables e below (T.setTop g) ((B.U.setTop { g with stack := rest }).pushFrame (.throwing q))) := by
  obtain ⟨mk, methM, cM, hnamed, hmethM, -, -, -, -, -, -, hsigM⟩ := Cond.codeWith_spec hcode
  have hstatic : methM.isStatic = true := Cond.static_spec hnamed hmethM hstat
  obtain ⟨kP, hkP, -⟩ := className_of_methodNamed hnamed
  have hinitP : kP.init = .initialized := Cond.initialized_spec (findClass_of_methodNamed hnamed) hkP hinit
  obtain ⟨vm₁, X₁, hstep₁⟩ := X.invokestatic hexec hown hlink hnamed hmethM hstatic hkP hinitP hy (g := g) hg (argsL := argsL) (rest := rest) (hlen _ hsigM) hstack hdg
  rcases hK m meth c ⟨T.setVm vm₁, locs, cells, slots⟩ { g with stack := rest } (.invokestatic index) mk argsL.toArray X₁ hg hsize hdg hW (X₁.named hnamed) (hpre vm₁ X₁.warmed) with ⟨v, B, X', hpost, hsteps⟩ | ⟨q, B, X', hpost, hsteps⟩
  · exact Or.inl ⟨v, vm₁, B, X₁.warmed, X', hpost, fun target h => hstep₁ _ fun acts => by rw [doInvoke_state]; exact hsteps.trans h⟩
  · exact Or.inr ⟨q, vm₁, B, X₁.warmed, X', hpost, hstep₁ _ fun acts => by rw [doInvoke_state]; exact hsteps⟩
theorem vx_callVW (X : Stand p l e R s m args below meth c T locs cells slots) (hexec : p.tables.exec = Jvm.exec) {own C : String} {index : Nat} {y : MethodName} {bytes : ByteArray} {maxL : Nat} {ret : Option FieldType} {hh : List (Nat × Nat × Nat × Nat)}
    (hown : s.vm.findClass own = some m.cls) (hlink : (Cond.methodLink own index y).before args s = true) (hinst : (Cond.instanceMethod y).before args s = true) (hsel : (Cond.selects C y y).before args s = true)
    (hcode : (Cond.codeWith y bytes maxL ret hh).before args s = true) (hy : y.cls ≠ "java/lang/invoke/MethodHandle" ∧ y.cls ≠ "java/lang/invoke/VarHandle")
    {W9 : Nat} {Pre : Pt → Array Value → Prop} {Post : Pt → Array Value → Option Value → Pt → Prop} (hK : Back l R p e below s args y 3 W9 Pre Post)
    {b : Addr} {cellB : Cell} (hcell : T.heap[b]? = some cellB) (hobj : cellB.vm.isStatics = false) (hcls : s.vm.findClass C = some cellB.cls)
    {g : JFrame} (hg : g.method = m) (hsize : g.locals.size = c.maxLocals) {argsL rest : List Value} (hlen : ∀ sig, parseMethodDescriptor y.desc = some sig → argsL.length = sig.parameters.length)
    (hstack : g.stack = argsL.reverse ++ .ref b :: rest) (hW : 2 * g.monitorRoom + (rest.map fun v => v.category).sum ≤ W9) (hdg : decode c.code g.pc = .ok (.invokevirtual index, 3))
    (hpre : ∀ vm₁, s.WarmedH vm₁ → Pre ⟨T.setVm vm₁, locs, cells, slots⟩ (Value.ref b :: argsL).toArray) :
    ∃ (v : Option Value) (vm₁ : Vm) (B : Pt), s.WarmedH vm₁ ∧ Stand p l e R s m args below meth c B.U B.locs B.cells B.slots ∧ Post ⟨T.setVm vm₁, locs, cells, slots⟩ (Value.ref b :: argsL).toArray v B ∧
      ∀ target, Steps p.tables e below (B.U.setTop { g with pc := g.pc + 3, stack := v.toList ++ rest }) target → Steps p.tables e below (T.setTop g) target := by
  obtain ⟨mk, methM, hnamed, hmethM, hstM, habM⟩ := Cond.instanceMethod_spec hinst
  obtain ⟨m8, methM', cM, hn8, hmethM', -, -, -, -, -, -, hsigM⟩ := Cond.codeWith_spec hcode
  cases Option.some.inj (hn8.symm.trans hnamed)
  cases hmethM.symm.trans hmethM'
  obtain ⟨c2, r2, m2, q1, q2, q3, q4, kP, hkP, hkPi⟩ := Cond.selects_spec hsel
  cases hcls.symm.trans q1
  cases (State.methodFound?_of_named hnamed hy).symm.trans q2
  cases hnamed.symm.trans q3
  have hselP : selectMethod e.platform s.vm cellB.cls mk = .method mk := by rw [Launch.admits_selectMethod X.admits]; exact q4
  obtain ⟨vm₁, X₁, hstep₁⟩ := X.invokevirtual hexec hown hlink hnamed hmethM hstM hkP hkPi hy (a := b) (cell := cellB) hcell
    (fun z h => by rw [h] at hobj; cases hobj) hselP hmethM habM hkP hkPi (g := g) hg (argsL := argsL) (rest := rest) (hlen _ hsigM) hstack hdg
  obtain ⟨v, B, X', hpost, hsteps⟩ := hK m meth c ⟨T.setVm vm₁, locs, cells, slots⟩ { g with stack := rest } (.invokevirtual index) mk (Value.ref b :: argsL).toArray X₁ hg hsize hdg hW (X₁.named hnamed) (hpre vm₁ X₁.warmed)
  exact ⟨v, vm₁, B, X₁.warmed, X', hpost, fun target h => hstep₁ _ fun acts => by rw [doInvoke_state]; exact hsteps.trans h⟩
abbrev vx_CVW (R : Room) (s : State) (args : Array Value) (own C : String) (index : Nat) (y : MethodName) (bytes : ByteArray) (maxL : Nat) (ret : Option FieldType) (hh : List (Nat × Nat × Nat × Nat)) (ws : List Cond) (rm : Room) (mc ms n : Nat) : Prop :=
  (rm.cells = mc ∧ rm.slots = ms ∧ rm.frames + 1 ≤ R.frames ∧ 8 + (maxL + 11) + rm.locals ≤ R.locals ∧ (∀ w ∈ ws, ∀ (a' : Array Value) (U : State), s.WarmedH U.vm → w.before a' U = true) ∧ Cond.codeWith y bytes maxL ret hh ∈ ws) ∧
  (Cond.codeWith y bytes maxL ret hh).before args s = true ∧ (Cond.initialized y.cls).before args s = true ∧ (y.cls ≠ "java/lang/invoke/MethodHandle" ∧ y.cls ≠ "java/lang/invoke/VarHandle") ∧
  (∀ sig, parseMethodDescriptor y.desc = some sig → n = sig.parameters.length) ∧ (Cond.methodLink own index y).before args s = true ∧ (Cond.instanceMethod y).before args s = true ∧ (Cond.selects C y y).before args s = true
theorem vx_cwVW {own C : String} {index maxL mc ms : Nat} {y : MethodName} {bytes : ByteArray} {ret : Option FieldType} {hh : List (Nat × Nat × Nat × Nat)} {Ts ws ws' : List Cond} {rm : Room} (n : Nat) (ht : ∀ w ∈ Ts, w.before args s = true) (hT : GoodIn Ts (wsV own index C y ws)) (hw : ws = Cond.codeWith y bytes maxL ret hh :: ws') (hrc : rm.cells = mc) (hrs : rm.slots = ms)
    (hd : y.cls = C ∧ y.cls ≠ "java/lang/invoke/MethodHandle" ∧ y.cls ≠ "java/lang/invoke/VarHandle" ∧ (parseMethodDescriptor y.desc).map (fun d => d.parameters.length) = some n) (hR : rm.frames + 1 ≤ R.frames ∧ 8 + (maxL + 11) + rm.locals ≤ R.locals) :
    vx_CVW R s args own C index y bytes maxL ret hh ws rm mc ms n := by
  obtain ⟨hC, hd⟩ := hd
  subst hC
  have ok : ∀ w ∈ wsV own index y.cls y ws, w.before args s = true := fun w h => ht w (hT w h).1
  have hG : GoodIn Ts ws := fun w h => hT w (by unfold wsV; exact List.mem_append_right _ h)
  have hc : Cond.codeWith y bytes maxL ret hh ∈ ws := by rw [hw]; exact List.mem_cons_self
  refine ⟨⟨hrc, hrs, hR.1, hR.2, pay_in ht hG, hc⟩, ht _ (hG _ hc).1, ok _ (by simp [wsV]), ⟨hd.1, hd.2.1⟩, fun sig h => ?_, ok _ (by simp [wsV]), ok _ (by simp [wsV]), ok _ (by simp [wsV])⟩
  have h2 := hd.2.2
  rw [h] at h2
  exact (Option.some.inj h2).symm
theorem vx_runVW {y : MethodName} {bytes cc : ByteArray} {maxL nL mc ms n index : Nat} {ret : Option FieldType} {hh : List (Nat × Nat × Nat × Nat)} {ws : List Cond} {rm : Room} {Pc : Array Value → State → Prop} {Qc : Array Value → State → Outcome → State → Prop} {free : Addr → Prop} {Ts : List Cond} {own C : String} {b : Addr} {As rest : List Value} {g : JFrame}
    (S : CallFix p m c cc nL s args Ts own) (hM : Met l y ws rm Pc Qc mc ms free) (cw : vx_CVW R s args own C index y bytes maxL ret hh ws rm mc ms n) (hp : PreV s H C b Pc As)
    (hg : g.method = m) (hn : As.length = n) (hsize : g.locals.size = nL) (hstack : g.stack = As.reverse ++ .ref b :: rest) (hW : 2 * g.monitorRoom + (rest.map fun v => v.category).sum ≤ 8) (hdg : decode cc g.pc = .ok (.invokevirtual index, 3)) (hf : cells + mc ≤ R.cells ∧ slots + ms ≤ R.slots) :
    va_Run p l e R s m args below meth c H locs cells slots mc ms g rest (Qc (Value.ref b :: As).toArray) free := by
  obtain ⟨⟨hrc, hrs, hfr, hlo, hws, hcw⟩, hcode, hini, hy, hlen, hl, hin, hse⟩ := cw
  have hK : Back l R p e below s args y 3 8 (PreOf R mc ms Pc) (PostOf Qc mc ms free) := va_backW (hh := hh) (bytes := bytes) (maxL := maxL) (ret := ret) hM hp.1 hrc hrs hfr hlo hws hcw (fun a' U hW => word_at hW (Or.inl (by first | rfl | simp [Cond.onTables, Cond.keeps, Cond.steady])) hini)
  obtain ⟨hx, hb, hml, ho, -⟩ := S
  obtain ⟨-, ⟨cellB, hcB, hoB, hclB⟩, hPc⟩ := hp
  intro T hT X
  obtain ⟨v, vm₁, ⟨U', l2, c2, s2⟩, hW₁, X', ⟨g', mk, t, L, e1, e2, hq, h1, hL, h2, h3⟩, st⟩ := vx_callVW X hx (C := C) (hh := hh) (bytes := bytes) (maxL := maxL) (ret := ret) ho hl hin hse hcode hy hK (by rw [hT]; exact hcB) hoB hclB hg (hsize.trans hml.symm) (argsL := As) (rest := rest) (fun sig h => hn.trans (hlen sig h)) hstack hW (by rw [hb]; exact hdg)
    (fun vm₁ hW₁ => ⟨hf.1, hf.2, hPc (T.setVm vm₁) hT hW₁⟩)
  dsimp only [Pt.U, Pt.locs, Pt.cells, Pt.slots] at X' e1 e2 h1 h2 h3 st
  subst h1; subst h2; subst h3
  exact ⟨v, (T.setVm vm₁).calling g' mk (Value.ref b :: As).toArray, t, U', L, hT, X', hL, e1, e2, hq, st⟩
section
variable {y : MethodName} {bytes cc : ByteArray} {maxL nL mc ms n index : Nat} {ret : Option FieldType} {ws : List Cond} {rm : Room} {Pc : Array Value → State → Prop} {Qc : Array Value → State → Outcome → State → Prop} {XC : String → State → State → Prop} {free : Addr → Prop} {Ts : List Cond} {own C : String} {b : Addr} {As rest : List Value} {g : JFrame}
theorem vx_runVX {hh : List (Nat × Nat × Nat × Nat)} (S : CallFix p m c cc nL s args Ts own) (hM : vx_Met l y ws rm Pc Qc XC mc ms free) (cw : vx_CVW R s args own C index y bytes maxL ret hh ws rm mc ms n) (hp : PreV s H C b Pc As)
    (hg : g.method = m) (hn : As.length = n) (hsize : g.locals.size = nL) (hstack : g.stack = As.reverse ++ .ref b :: rest) (hW : 2 * g.monitorRoom + (rest.map fun v => v.category).sum ≤ 8) (hdg : decode cc g.pc = .ok (.invokevirtual index, 3)) (hf : cells + mc ≤ R.cells ∧ slots + ms ≤ R.slots) :
    vx_Run p l e R s m args below meth c H locs cells slots mc ms g rest (Qc (Value.ref b :: As).toArray) XC free := by
  obtain ⟨⟨hrc, hrs, hfr, hlo, hws, hcw⟩, hcode, hini, hy, hlen, hl, hin, hse⟩ := cw
  have hK : vx_Back l R p e below s args y 3 8 (PreOf R mc ms Pc) (PostOf Qc mc ms free) (vx_Post XC mc ms free) := vx_backW (hh := hh) (bytes := bytes) (maxL := maxL) (ret := ret) hM hp.1 hrc hrs hfr hlo hws hcw (fun a' U hW => word_at hW (Or.inl (by first | rfl | simp [Cond.onTables, Cond.keeps, Cond.steady])) hini)
  obtain ⟨hx, hb, hml, ho, -⟩ := S
  obtain ⟨-, ⟨cellB, hcB, hoB, hclB⟩, hPc⟩ := hp
  intro T hT X
  rcases vx_callVX X hx (C := C) (hh := hh) (bytes := bytes) (maxL := maxL) (ret := ret) ho hl hin hse hcode hy hK (by rw [hT]; exact hcB) hoB hclB hg (hsize.trans hml.symm) (argsL := As) (rest := rest) (fun sig h => hn.trans (hlen sig h)) hstack hW (by rw [hb]; exact hdg)
    (fun vm₁ hW₁ => ⟨hf.1, hf.2, hPc (T.setVm vm₁) hT hW₁⟩) with ⟨v, vm₁, ⟨U', l2, c2, s2⟩, hW₁, X', ⟨g', mk, t, L, e1, e2, hq, h1, hL, h2, h3⟩, st⟩ | ⟨q, vm₁, ⟨U', l2, c2, s2⟩, hW₁, X', ⟨g', mk, t, L, E, ce, e1, e2, hq, hce, hcv, hcl, h1, hL, h2, h3⟩, st⟩
  · dsimp only [Pt.U, Pt.locs, Pt.cells, Pt.slots] at X' e1 e2 h1 h2 h3 st
    subst h1; subst h2; subst h3
    exact Or.inl ⟨v, (T.setVm vm₁).calling g' mk (Value.ref b :: As).toArray, t, U', L, hT, X', hL, e1, e2, hq, st⟩
  · dsimp only [Pt.U, Pt.locs, Pt.cells, Pt.slots] at X' e1 e2 h1 h2 h3 st hcl
    subst h1; subst h2; subst h3
    exact Or.inr ⟨q, (T.setVm vm₁).calling g' mk (Value.ref b :: As).toArray, t, U', L, E, ce, hT, X', hL, e1, e2, hq, hce, hcv, vx_cls hW₁ hcl, st⟩
theorem vx_runSX {hh : List (Nat × Nat × Nat × Nat)} (S : CallFix p m c cc nL s args Ts own) (hM : vx_Met l y ws rm Pc Qc XC mc ms free) (cw : vx_CSW R s args own index y bytes maxL ret hh ws rm mc ms n) (hp : PreS s H Pc As)
    (hg : g.method = m) (hn : As.length = n) (hsize : g.locals.size = nL) (hstack : g.stack = As.reverse ++ rest) (hW : 2 * g.monitorRoom + (rest.map fun v => v.category).sum ≤ 8) (hdg : decode cc g.pc = .ok (.invokestatic index, 3)) (hf : cells + mc ≤ R.cells ∧ slots + ms ≤ R.slots) :
    vx_Run p l e R s m args below meth c H locs cells slots mc ms g rest (Qc As.toArray) XC free := by
  obtain ⟨⟨hrc, hrs, hfr, hlo, hws, hcw⟩, hcode, hini, hy, hlen, hl, hstt⟩ := cw
  have hK : vx_Back l R p e below s args y 3 8 (PreOf R mc ms Pc) (PostOf Qc mc ms free) (vx_Post XC mc ms free) := vx_backW (hh := hh) (bytes := bytes) (maxL := maxL) (ret := ret) hM hp.1 hrc hrs hfr hlo hws hcw (fun a' U hW => word_at hW (Or.inl (by first | rfl | simp [Cond.onTables, Cond.keeps, Cond.steady])) hini)
  obtain ⟨hx, hb, hml, ho, -⟩ := S
  intro T hT X
  rcases vx_callSX X hx (hh := hh) (bytes := bytes) (maxL := maxL) (ret := ret) ho hl hstt hini hcode hy hK hg (hsize.trans hml.symm) (argsL := As) (rest := rest) (fun sig h => hn.trans (hlen sig h)) hstack hW (by rw [hb]; exact hdg)
    (fun vm₁ hW₁ => ⟨hf.1, hf.2, hp.2 (T.setVm vm₁) hT hW₁⟩) with ⟨v, vm₁, ⟨U', l2, c2, s2⟩, hW₁, X', ⟨g', mk, t, L, e1, e2, hq, h1, hL, h2, h3⟩, st⟩ | ⟨q, vm₁, ⟨U', l2, c2, s2⟩, hW₁, X', ⟨g', mk, t, L, E, ce, e1, e2, hq, hce, hcv, hcl, h1, hL, h2, h3⟩, st⟩
  · dsimp only [Pt.U, Pt.locs, Pt.cells, Pt.slots] at X' e1 e2 h1 h2 h3 st
    subst h1; subst h2; subst h3
    exact Or.inl ⟨v, (T.setVm vm₁).calling g' mk As.toArray, t, U', L, hT, X', hL, e1, e2, hq, st⟩
  · dsimp only [Pt.U, Pt.locs, Pt.cells, Pt.slots] at X' e1 e2 h1 h2 h3 st hcl
    subst h1; subst h2; subst h3
    exact Or.inr ⟨q, (T.setVm vm₁).calling g' mk As.toArray, t, U', L, E, ce, hT, X', hL, e1, e2, hq, hce, hcv, vx_cls hW₁ hcl, st⟩
end
end VXH
theorem vx_ofWH {l : Launch} {y : MethodName} {ws ws' : List Cond} {rm : Room} {Pc : Array Value → State → Prop} {Qc : Array Value → State → Outcome → State → Prop} {XC : String → State → State → Prop} {mc ms : Nat} {free : Addr → Prop} {cc : ByteArray} {maxL : Nat} {ret : Option FieldType} {hh : List (Nat × Nat × Nat × Nat)}
    (hy : plainName y.cls = true) (hw : ws = Cond.codeWith y cc maxL ret hh :: ws')
    (body : ∀ p e s m args below meth c s₁, BodyLoose p l y (headSpec ws rm) cc maxL ret e s m args below meth c s₁ → c.maxLocals = maxL → Pc args s →
      W p l e (headSpec ws rm).room s m args below meth c s.heap [] 0 0 (vx_MQ below Qc XC args s mc ms free) (entryFrame m args maxL)) : vx_Met l y ws rm Pc Qc XC mc ms free := by
  refine MetFree.of_bodyS (code := cc) (maxLocals := maxL) (ret := ret) hy ?_ ?_
  · intro args s m h hn
    obtain ⟨m9, meth, c, hn9, h1, h2, h3, h4, -, h5, h6, -⟩ := Cond.codeWith_spec (atoms_spec (ws := ws) h _ (by rw [hw]; exact List.mem_cons_self))
    cases hn.symm.trans hn9
    exact ⟨meth, c, h1, h2, h3, h4, h5, h6⟩
  · intro p e s m args below meth c s₁ B hml hP _
    have hh0 : s₁.heap = s.heap := by rw [B.state]; rfl
    obtain ⟨t, a1, o, b1, b2, b3⟩ := body p e s m args below meth c s₁ B hml hP s₁ hh0 (Stand.of_body B)
    exact ⟨t, o, a1, b1, b2, b3⟩
/-! ===== END ===== -/

/-! ===== BEGIN printed: names, fields, word lists, decode rows ===== -/
def RX0 : String := "BoxPool$Booking"
def TX0 : u_T := fun k => match k with
  | 0 => ("BoxPool$Booking", "port", "I", true)
  | 1 => ("BoxPool$Booking", "kind", "I", true)
  | 2 => ("BoxPool$Booking", "wanted", "I", true)
  | 3 => ("BoxPool$Booking", "given", "I", false)
  | _ => ("BoxPool$Booking", "over", "Z", false)
def tyX0 : Nat → FieldType := fun k => match k with
  | 0 => .int
  | 1 => .int
  | 2 => .int
  | 3 => .int
  | _ => .boolean
abbrev wsX00 : List Cond := u_ws RX0 TX0 5
theorem nmX0 : ∀ a, a < 5 → ∀ b, b < 5 → a ≠ b → (TX0 a).2.1 ≠ (TX0 b).2.1 := by decide +kernel
theorem tyX0_ok : ∀ k, k < 5 → parseFieldDescriptor (TX0 k).2.2.1 = some (tyX0 k) := by decide +kernel
abbrev cX0_init : ByteArray := prog_2_method_1_code
def yX0_init : MethodName := ⟨RX0, "<init>", "(III)V"⟩
abbrev cX0_lacking : ByteArray := prog_2_method_2_code
def yX0_lacking : MethodName := ⟨RX0, "lacking", "()I"⟩
def RX1 : String := "BoxPool$Box"
def TX1 : u_T := fun k => match k with
  | 0 => ("BoxPool$Box", "kind", "I", true)
  | 1 => ("BoxPool$Box", "lessor", "I", true)
  | 2 => ("BoxPool$Box", "life", "LBoxPool$Life;", true)
  | 3 => ("BoxPool$Box", "leases", "LBoxPool$Leases;", true)
  | 4 => ("BoxPool$Box", "damages", "LBoxPool$Damages;", true)
  | 5 => ("BoxPool$Box", "certifiedUntil", "I", false)
  | 6 => ("BoxPool$Box", "dirty", "Z", false)
  | 7 => ("BoxPool$Box", "booking", "I", false)
  | 8 => ("BoxPool$Box", "goneDay", "I", false)
  | _ => ("BoxPool$Box", "gonePort", "I", false)
def tyX1 : Nat → FieldType := fun k => match k with
  | 0 => .int
  | 1 => .int
  | 2 => .object "BoxPool$Life"
  | 3 => .object "BoxPool$Leases"
  | 4 => .object "BoxPool$Damages"
  | 5 => .int
  | 6 => .boolean
  | 7 => .int
  | 8 => .int
  | _ => .int
abbrev wsX10 : List Cond := u_ws RX1 TX1 10
theorem nmX1 : ∀ a, a < 10 → ∀ b, b < 10 → a ≠ b → (TX1 a).2.1 ≠ (TX1 b).2.1 := by decide +kernel
theorem tyX1_ok : ∀ k, k < 10 → parseFieldDescriptor (TX1 k).2.2.1 = some (tyX1 k) := by decide +kernel
abbrev cX1_init : ByteArray := prog_3_method_1_code
def yX1_init : MethodName := ⟨RX1, "<init>", "(III)V"⟩
abbrev cX1_isGone : ByteArray := prog_3_method_2_code
def yX1_isGone : MethodName := ⟨RX1, "isGone", "()Z"⟩
def RX2 : String := "BoxPool$Damages"
def TX2 : u_T := fun k => match k with
  | 0 => ("BoxPool$Damages", "codes", "[I", true)
  | 1 => ("BoxPool$Damages", "sizes", "[I", true)
  | _ => ("BoxPool$Damages", "told", "I", false)
def tyX2 : Nat → FieldType := fun k => match k with
  | 0 => .array .int
  | 1 => .array .int
  | _ => .int
abbrev wsX20 : List Cond := u_ws RX2 TX2 3
theorem nmX2 : ∀ a, a < 3 → ∀ b, b < 3 → a ≠ b → (TX2 a).2.1 ≠ (TX2 b).2.1 := by decide +kernel
theorem tyX2_ok : ∀ k, k < 3 → parseFieldDescriptor (TX2 k).2.2.1 = some (tyX2 k) := by decide +kernel
abbrev cX2_init : ByteArray := prog_4_method_1_code
def yX2_init : MethodName := ⟨RX2, "<init>", "()V"⟩
abbrev cX2_isFull : ByteArray := prog_4_method_2_code
def yX2_isFull : MethodName := ⟨RX2, "isFull", "()Z"⟩
abbrev cX2_tell : ByteArray := prog_4_method_3_code
def yX2_tell : MethodName := ⟨RX2, "tell", "(II)V"⟩
abbrev cX2_clear : ByteArray := prog_4_method_4_code
def yX2_clear : MethodName := ⟨RX2, "clear", "()V"⟩
abbrev cX2_mendCost : ByteArray := prog_4_method_5_code
def yX2_mendCost : MethodName := ⟨RX2, "mendCost", "([I)I"⟩
def RX3 : String := "BoxPool$Leases"
def TX3 : u_T := fun k => match k with
  | 0 => ("BoxPool$Leases", "firstDays", "[I", true)
  | 1 => ("BoxPool$Leases", "lastDays", "[I", true)
  | _ => ("BoxPool$Leases", "told", "I", false)
def tyX3 : Nat → FieldType := fun k => match k with
  | 0 => .array .int
  | 1 => .array .int
  | _ => .int
abbrev wsX30 : List Cond := u_ws RX3 TX3 3
theorem nmX3 : ∀ a, a < 3 → ∀ b, b < 3 → a ≠ b → (TX3 a).2.1 ≠ (TX3 b).2.1 := by decide +kernel
theorem tyX3_ok : ∀ k, k < 3 → parseFieldDescriptor (TX3 k).2.2.1 = some (tyX3 k) := by decide +kernel
abbrev cX3_init : ByteArray := prog_5_method_1_code
def yX3_init : MethodName := ⟨RX3, "<init>", "()V"⟩
abbrev cX3_isFull : ByteArray := prog_5_method_2_code
def yX3_isFull : MethodName := ⟨RX3, "isFull", "()Z"⟩
abbrev cX3_tell : ByteArray := prog_5_method_3_code
def yX3_tell : MethodName := ⟨RX3, "tell", "(II)V"⟩
abbrev cX3_holdOn : ByteArray := prog_5_method_4_code
def yX3_holdOn : MethodName := ⟨RX3, "holdOn", "(I)Z"⟩
abbrev cX3_endOn : ByteArray := prog_5_method_5_code
def yX3_endOn : MethodName := ⟨RX3, "endOn", "(I)V"⟩
def RX4 : String := "BoxPool$Life"
def TX4 : u_T := fun k => match k with
  | 0 => ("BoxPool$Life", "reportDays", "[I", true)
  | 1 => ("BoxPool$Life", "events", "[I", true)
  | 2 => ("BoxPool$Life", "ports", "[I", true)
  | 3 => ("BoxPool$Life", "placesBehind", "[I", true)
  | 4 => ("BoxPool$Life", "told", "I", false)
  | _ => ("BoxPool$Life", "doubtful", "I", false)
def tyX4 : Nat → FieldType := fun k => match k with
  | 0 => .array .int
  | 1 => .array .int
  | 2 => .array .int
  | 3 => .array .int
  | 4 => .int
  | _ => .int
abbrev wsX40 : List Cond := u_ws RX4 TX4 6
theorem nmX4 : ∀ a, a < 6 → ∀ b, b < 6 → a ≠ b → (TX4 a).2.1 ≠ (TX4 b).2.1 := by decide +kernel
theorem tyX4_ok : ∀ k, k < 6 → parseFieldDescriptor (TX4 k).2.2.1 = some (tyX4 k) := by decide +kernel
abbrev cX4_init : ByteArray := prog_6_method_1_code
def yX4_init : MethodName := ⟨RX4, "<init>", "()V"⟩
abbrev cX4_isFull : ByteArray := prog_6_method_2_code
def yX4_isFull : MethodName := ⟨RX4, "isFull", "()Z"⟩
abbrev cX4_knows : ByteArray := prog_6_method_3_code
def yX4_knows : MethodName := ⟨RX4, "knows", "(III)Z"⟩
abbrev cX4_tell : ByteArray := prog_6_method_4_code
def yX4_tell : MethodName := ⟨RX4, "tell", "(III)V"⟩
abbrev cX4_liveAgain : ByteArray := prog_6_method_5_code
def yX4_liveAgain : MethodName := ⟨RX4, "liveAgain", "()V"⟩
abbrev cX4_fits : ByteArray := prog_6_method_6_code
def yX4_fits : MethodName := ⟨RX4, "fits", "(III)Z"⟩
abbrev cX4_placeAfter : ByteArray := prog_6_method_7_code
def yX4_placeAfter : MethodName := ⟨RX4, "placeAfter", "(II)I"⟩
abbrev cX4_placeOn : ByteArray := prog_6_method_8_code
def yX4_placeOn : MethodName := ⟨RX4, "placeOn", "(I)I"⟩
abbrev cX4_daysAt : ByteArray := prog_6_method_9_code
def yX4_daysAt : MethodName := ⟨RX4, "daysAt", "(III)I"⟩
def RX5 : String := "BoxPool$Plan"
def TX5 : u_T := fun k => match k with
  | 0 => ("BoxPool$Plan", "unitPorts", "[I", true)
  | 1 => ("BoxPool$Plan", "overBoxes", "[I", true)
  | 2 => ("BoxPool$Plan", "overPorts", "[I", true)
  | 3 => ("BoxPool$Plan", "taken", "[Z", true)
  | 4 => ("BoxPool$Plan", "tryBoxes", "[I", true)
  | 5 => ("BoxPool$Plan", "bestBoxes", "[I", true)
  | 6 => ("BoxPool$Plan", "leastFrom", "[I", true)
  | 7 => ("BoxPool$Plan", "portsLacking", "I", false)
  | 8 => ("BoxPool$Plan", "units", "I", false)
  | 9 => ("BoxPool$Plan", "over", "I", false)
  | _ => ("BoxPool$Plan", "leastCost", "I", false)
def tyX5 : Nat → FieldType := fun k => match k with
  | 0 => .array .int
  | 1 => .array .int
  | 2 => .array .int
  | 3 => .array .boolean
  | 4 => .array .int
  | 5 => .array .int
  | 6 => .array .int
  | 7 => .int
  | 8 => .int
  | 9 => .int
  | _ => .int
abbrev wsX50 : List Cond := u_ws RX5 TX5 11
theorem nmX5 : ∀ a, a < 11 → ∀ b, b < 11 → a ≠ b → (TX5 a).2.1 ≠ (TX5 b).2.1 := by decide +kernel
theorem tyX5_ok : ∀ k, k < 11 → parseFieldDescriptor (TX5 k).2.2.1 = some (tyX5 k) := by decide +kernel
abbrev cX5_init : ByteArray := prog_7_method_1_code
def yX5_init : MethodName := ⟨RX5, "<init>", "()V"⟩
abbrev cX5_clear : ByteArray := prog_7_method_2_code
def yX5_clear : MethodName := ⟨RX5, "clear", "()V"⟩
abbrev cX5_lack : ByteArray := prog_7_method_3_code
def yX5_lack : MethodName := ⟨RX5, "lack", "(II)V"⟩
abbrev cX5_offer : ByteArray := prog_7_method_4_code
def yX5_offer : MethodName := ⟨RX5, "offer", "(II)V"⟩
abbrev cX5_work : ByteArray := prog_7_method_5_code
def yX5_work : MethodName := ⟨RX5, "work", "([[I)V"⟩
abbrev cX5_boxOf : ByteArray := prog_7_method_6_code
def yX5_boxOf : MethodName := ⟨RX5, "boxOf", "(I)I"⟩
abbrev cX5_findLeastFrom : ByteArray := prog_7_method_7_code
def yX5_findLeastFrom : MethodName := ⟨RX5, "findLeastFrom", "([[I)V"⟩
abbrev cX5_cheapest : ByteArray := prog_7_method_8_code
def yX5_cheapest : MethodName := ⟨RX5, "cheapest", "([[II)I"⟩
abbrev cX5_tryUnit : ByteArray := prog_7_method_9_code
def yX5_tryUnit : MethodName := ⟨RX5, "tryUnit", "(LBoxPool$Plan;[[IIII)V"⟩
def RX6 : String := "BoxPool"
def TX6 : u_T := fun k => match k with
  | 0 => ("BoxPool", "costs", "[[I", true)
  | 1 => ("BoxPool", "quotas", "[[I", true)
  | 2 => ("BoxPool", "standards", "[I", true)
  | 3 => ("BoxPool", "boxes", "[LBoxPool$Box;", true)
  | 4 => ("BoxPool", "bookings", "[LBoxPool$Booking;", true)
  | 5 => ("BoxPool", "plan", "LBoxPool$Plan;", true)
  | 6 => ("BoxPool", "boxCount", "I", false)
  | 7 => ("BoxPool", "bookingCount", "I", false)
  | 8 => ("BoxPool", "today", "I", false)
  | 9 => ("BoxPool", "freeDays", "I", false)
  | _ => ("BoxPool", "mendLimit", "I", false)
def tyX6 : Nat → FieldType := fun k => match k with
  | 0 => .array (.array .int)
  | 1 => .array (.array .int)
  | 2 => .array .int
  | 3 => .array (.object "BoxPool$Box")
  | 4 => .array (.object "BoxPool$Booking")
  | 5 => .object "BoxPool$Plan"
  | 6 => .int
  | 7 => .int
  | 8 => .int
  | 9 => .int
  | _ => .int
abbrev wsX60 : List Cond := u_ws RX6 TX6 11
theorem nmX6 : ∀ a, a < 11 → ∀ b, b < 11 → a ≠ b → (TX6 a).2.1 ≠ (TX6 b).2.1 := by decide +kernel
theorem tyX6_ok : ∀ k, k < 11 → parseFieldDescriptor (TX6 k).2.2.1 = some (tyX6 k) := by decide +kernel
abbrev cX6_init : ByteArray := prog_1_method_1_code
def yX6_init : MethodName := ⟨RX6, "<init>", "()V"⟩
abbrev cX6_cost : ByteArray := prog_1_method_2_code
def yX6_cost : MethodName := ⟨RX6, "cost", "(III)I"⟩
abbrev cX6_box : ByteArray := prog_1_method_3_code
def yX6_box : MethodName := ⟨RX6, "box", "(III)I"⟩
abbrev cX6_wash : ByteArray := prog_1_method_4_code
def yX6_wash : MethodName := ⟨RX6, "wash", "(II)Z"⟩
abbrev cX6_report : ByteArray := prog_1_method_5_code
def yX6_report : MethodName := ⟨RX6, "report", "(IIII)I"⟩
abbrev cX6_place : ByteArray := prog_1_method_6_code
def yX6_place : MethodName := ⟨RX6, "place", "(II)I"⟩
abbrev cX6_count : ByteArray := prog_1_method_7_code
def yX6_count : MethodName := ⟨RX6, "count", "(III)I"⟩
abbrev cX6_days : ByteArray := prog_1_method_8_code
def yX6_days : MethodName := ⟨RX6, "days", "(IIII)I"⟩
abbrev cX6_lease : ByteArray := prog_1_method_9_code
def yX6_lease : MethodName := ⟨RX6, "lease", "(III)V"⟩
abbrev cX6_free : ByteArray := prog_1_method_10_code
def yX6_free : MethodName := ⟨RX6, "free", "(I)I"⟩
abbrev cX6_payer : ByteArray := prog_1_method_11_code
def yX6_payer : MethodName := ⟨RX6, "payer", "(II)I"⟩
abbrev cX6_quota : ByteArray := prog_1_method_12_code
def yX6_quota : MethodName := ⟨RX6, "quota", "(III)I"⟩
abbrev cX6_handIn : ByteArray := prog_1_method_13_code
def yX6_handIn : MethodName := ⟨RX6, "handIn", "(I)I"⟩
abbrev cX6_damage : ByteArray := prog_1_method_14_code
def yX6_damage : MethodName := ⟨RX6, "damage", "(III)I"⟩
abbrev cX6_standard : ByteArray := prog_1_method_15_code
def yX6_standard : MethodName := ⟨RX6, "standard", "(II)I"⟩
abbrev cX6_limit : ByteArray := prog_1_method_16_code
def yX6_limit : MethodName := ⟨RX6, "limit", "(I)I"⟩
abbrev cX6_mend : ByteArray := prog_1_method_17_code
def yX6_mend : MethodName := ⟨RX6, "mend", "(I)I"⟩
abbrev cX6_book : ByteArray := prog_1_method_18_code
def yX6_book : MethodName := ⟨RX6, "book", "(III)I"⟩
abbrev cX6_serve : ByteArray := prog_1_method_19_code
def yX6_serve : MethodName := ⟨RX6, "serve", "()I"⟩
abbrev cX6_end : ByteArray := prog_1_method_20_code
def yX6_end : MethodName := ⟨RX6, "end", "(I)I"⟩
abbrev cX6_bring : ByteArray := prog_1_method_21_code
def yX6_bring : MethodName := ⟨RX6, "bring", "(I)I"⟩
abbrev cX6_brings : ByteArray := prog_1_method_22_code
def yX6_brings : MethodName := ⟨RX6, "brings", "(II)I"⟩
abbrev cX6_boxIs : ByteArray := prog_1_method_23_code
def yX6_boxIs : MethodName := ⟨RX6, "boxIs", "(II)I"⟩
abbrev cX6_lacks : ByteArray := prog_1_method_24_code
def yX6_lacks : MethodName := ⟨RX6, "lacks", "(I)I"⟩
abbrev cX6_pass : ByteArray := prog_1_method_25_code
def yX6_pass : MethodName := ⟨RX6, "pass", "(I)I"⟩
abbrev cX6_isPort : ByteArray := prog_1_method_26_code
def yX6_isPort : MethodName := ⟨RX6, "isPort", "(I)Z"⟩
abbrev cX6_isLessor : ByteArray := prog_1_method_27_code
def yX6_isLessor : MethodName := ⟨RX6, "isLessor", "(I)Z"⟩
abbrev cX6_needPort : ByteArray := prog_1_method_28_code
def yX6_needPort : MethodName := ⟨RX6, "needPort", "(I)V"⟩
abbrev cX6_needLessor : ByteArray := prog_1_method_29_code
def yX6_needLessor : MethodName := ⟨RX6, "needLessor", "(I)V"⟩
abbrev cX6_needCode : ByteArray := prog_1_method_30_code
def yX6_needCode : MethodName := ⟨RX6, "needCode", "(I)V"⟩
abbrev cX6_needKind : ByteArray := prog_1_method_31_code
def yX6_needKind : MethodName := ⟨RX6, "needKind", "(I)V"⟩
abbrev cX6_needRange : ByteArray := prog_1_method_32_code
def yX6_needRange : MethodName := ⟨RX6, "needRange", "(III)V"⟩
abbrev cX6_needNotGone : ByteArray := prog_1_method_33_code
def yX6_needNotGone : MethodName := ⟨RX6, "needNotGone", "(LBoxPool$Box;)V"⟩
abbrev cX6_boxAt : ByteArray := prog_1_method_34_code
def yX6_boxAt : MethodName := ⟨RX6, "boxAt", "(I)LBoxPool$Box;"⟩
abbrev cX6_bookingAt : ByteArray := prog_1_method_35_code
def yX6_bookingAt : MethodName := ⟨RX6, "bookingAt", "(I)LBoxPool$Booking;"⟩
abbrev cX6_asNumber : ByteArray := prog_1_method_36_code
def yX6_asNumber : MethodName := ⟨RX6, "asNumber", "(Z)I"⟩
abbrev cX6_quotaLeft : ByteArray := prog_1_method_37_code
def yX6_quotaLeft : MethodName := ⟨RX6, "quotaLeft", "(II)I"⟩
abbrev cX6_giveBoxes : ByteArray := prog_1_method_38_code
def yX6_giveBoxes : MethodName := ⟨RX6, "giveBoxes", "(LBoxPool$Booking;II)I"⟩
abbrev cX6_canServe : ByteArray := prog_1_method_39_code
def yX6_canServe : MethodName := ⟨RX6, "canServe", "(LBoxPool$Box;)Z"⟩
abbrev cX6_lackingAt : ByteArray := prog_1_method_40_code
def yX6_lackingAt : MethodName := ⟨RX6, "lackingAt", "(II)I"⟩
abbrev cX6_makePlan : ByteArray := prog_1_method_41_code
def yX6_makePlan : MethodName := ⟨RX6, "makePlan", "(I)V"⟩
def RX7 : String := "BoxPoolModel"
def TX7 : u_T := fun k => match k with
  | 0 => ("BoxPoolModel", "thrown", "I", false)
  | 1 => ("BoxPoolModel", "today", "I", false)
  | 2 => ("BoxPoolModel", "costs", "[I", true)
  | 3 => ("BoxPoolModel", "kind", "[I", true)
  | 4 => ("BoxPoolModel", "owner", "[I", true)
  | 5 => ("BoxPoolModel", "until", "[I", true)
  | 6 => ("BoxPoolModel", "isDirty", "[Z", true)
  | 7 => ("BoxPoolModel", "gone", "[I", true)
  | 8 => ("BoxPoolModel", "booking", "[I", true)
  | 9 => ("BoxPoolModel", "boxes", "I", false)
  | 10 => ("BoxPoolModel", "days", "[I", true)
  | 11 => ("BoxPoolModel", "event", "[I", true)
  | 12 => ("BoxPoolModel", "port", "[I", true)
  | 13 => ("BoxPoolModel", "reports", "[I", true)
  | 14 => ("BoxPoolModel", "from", "[I", true)
  | 15 => ("BoxPoolModel", "to", "[I", true)
  | 16 => ("BoxPoolModel", "leases", "[I", true)
  | 17 => ("BoxPoolModel", "free", "I", false)
  | 18 => ("BoxPoolModel", "quota", "[I", true)
  | 19 => ("BoxPoolModel", "handed", "[I", true)
  | 20 => ("BoxPoolModel", "month", "[I", true)
  | 21 => ("BoxPoolModel", "code", "[I", true)
  | 22 => ("BoxPoolModel", "size", "[I", true)
  | 23 => ("BoxPoolModel", "damages", "[I", true)
  | 24 => ("BoxPoolModel", "standard", "[I", true)
  | 25 => ("BoxPoolModel", "limit", "I", false)
  | 26 => ("BoxPoolModel", "at", "[I", true)
  | 27 => ("BoxPoolModel", "sort", "[I", true)
  | 28 => ("BoxPoolModel", "wanted", "[I", true)
  | 29 => ("BoxPoolModel", "isOver", "[Z", true)
  | 30 => ("BoxPoolModel", "bookings", "I", false)
  | 31 => ("BoxPoolModel", "unit", "[I", true)
  | 32 => ("BoxPoolModel", "units", "I", false)
  | 33 => ("BoxPoolModel", "spare", "[I", true)
  | 34 => ("BoxPoolModel", "where", "[I", true)
  | 35 => ("BoxPoolModel", "spares", "I", false)
  | 36 => ("BoxPoolModel", "chosen", "[I", true)
  | _ => ("BoxPoolModel", "least", "[I", true)
def tyX7 : Nat → FieldType := fun k => match k with
  | 0 => .int
  | 1 => .int
  | 2 => .array .int
  | 3 => .array .int
  | 4 => .array .int
  | 5 => .array .int
  | 6 => .array .boolean
  | 7 => .array .int
  | 8 => .array .int
  | 9 => .int
  | 10 => .array .int
  | 11 => .array .int
  | 12 => .array .int
  | 13 => .array .int
  | 14 => .array .int
  | 15 => .array .int
  | 16 => .array .int
  | 17 => .int
  | 18 => .array .int
  | 19 => .array .int
  | 20 => .array .int
  | 21 => .array .int
  | 22 => .array .int
  | 23 => .array .int
  | 24 => .array .int
  | 25 => .int
  | 26 => .array .int
  | 27 => .array .int
  | 28 => .array .int
  | 29 => .array .boolean
  | 30 => .int
  | 31 => .array .int
  | 32 => .int
  | 33 => .array .int
  | 34 => .array .int
  | 35 => .int
  | 36 => .array .int
  | _ => .array .int
abbrev wsX70 : List Cond := u_ws RX7 TX7 38
theorem nmX7 : ∀ a, a < 38 → ∀ b, b < 38 → a ≠ b → (TX7 a).2.1 ≠ (TX7 b).2.1 := by decide +kernel
theorem tyX7_ok : ∀ k, k < 38 → parseFieldDescriptor (TX7 k).2.2.1 = some (tyX7 k) := by decide +kernel
abbrev cX7_init : ByteArray := prog_9_method_1_code
def yX7_init : MethodName := ⟨RX7, "<init>", "()V"⟩
abbrev cX7_thrown : ByteArray := prog_9_method_2_code
def yX7_thrown : MethodName := ⟨RX7, "thrown", "()I"⟩
abbrev cX7_holds : ByteArray := prog_9_method_3_code
def yX7_holds : MethodName := ⟨RX7, "holds", "(I)Z"⟩
abbrev cX7_isIn : ByteArray := prog_9_method_4_code
def yX7_isIn : MethodName := ⟨RX7, "isIn", "(III)Z"⟩
abbrev cX7_isPort : ByteArray := prog_9_method_5_code
def yX7_isPort : MethodName := ⟨RX7, "isPort", "(I)Z"⟩
abbrev cX7_isKind : ByteArray := prog_9_method_6_code
def yX7_isKind : MethodName := ⟨RX7, "isKind", "(I)Z"⟩
abbrev cX7_isDay : ByteArray := prog_9_method_7_code
def yX7_isDay : MethodName := ⟨RX7, "isDay", "(I)Z"⟩
abbrev cX7_isBox : ByteArray := prog_9_method_8_code
def yX7_isBox : MethodName := ⟨RX7, "isBox", "(I)Z"⟩
abbrev cX7_isGone : ByteArray := prog_9_method_9_code
def yX7_isGone : MethodName := ⟨RX7, "isGone", "(I)Z"⟩
abbrev cX7_cost : ByteArray := prog_9_method_10_code
def yX7_cost : MethodName := ⟨RX7, "cost", "(III)I"⟩
abbrev cX7_box : ByteArray := prog_9_method_11_code
def yX7_box : MethodName := ⟨RX7, "box", "(III)I"⟩
abbrev cX7_wash : ByteArray := prog_9_method_12_code
def yX7_wash : MethodName := ⟨RX7, "wash", "(II)Z"⟩
abbrev cX7_fits : ByteArray := prog_9_method_13_code
def yX7_fits : MethodName := ⟨RX7, "fits", "(III)Z"⟩
abbrev cX7_behind : ByteArray := prog_9_method_14_code
def yX7_behind : MethodName := ⟨RX7, "behind", "(II)I"⟩
abbrev cX7_placeOn : ByteArray := prog_9_method_15_code
def yX7_placeOn : MethodName := ⟨RX7, "placeOn", "(II)I"⟩
abbrev cX7_doubtful : ByteArray := prog_9_method_16_code
def yX7_doubtful : MethodName := ⟨RX7, "doubtful", "(I)I"⟩
abbrev cX7_wasTold : ByteArray := prog_9_method_17_code
def yX7_wasTold : MethodName := ⟨RX7, "wasTold", "(IIII)Z"⟩
abbrev cX7_reports : ByteArray := prog_9_method_18_code
def yX7_reports : MethodName := ⟨RX7, "reports", "(IIII)I"⟩
abbrev cX7_report : ByteArray := prog_9_method_19_code
def yX7_report : MethodName := ⟨RX7, "report", "(IIII)I"⟩
abbrev cX7_place : ByteArray := prog_9_method_20_code
def yX7_place : MethodName := ⟨RX7, "place", "(II)I"⟩
abbrev cX7_count : ByteArray := prog_9_method_21_code
def yX7_count : MethodName := ⟨RX7, "count", "(III)I"⟩
abbrev cX7_days : ByteArray := prog_9_method_22_code
def yX7_days : MethodName := ⟨RX7, "days", "(IIII)I"⟩
abbrev cX7_isLeased : ByteArray := prog_9_method_23_code
def yX7_isLeased : MethodName := ⟨RX7, "isLeased", "(II)Z"⟩
abbrev cX7_lease : ByteArray := prog_9_method_24_code
def yX7_lease : MethodName := ⟨RX7, "lease", "(III)V"⟩
abbrev cX7_free : ByteArray := prog_9_method_25_code
def yX7_free : MethodName := ⟨RX7, "free", "(I)I"⟩
abbrev cX7_isCustomers : ByteArray := prog_9_method_26_code
def yX7_isCustomers : MethodName := ⟨RX7, "isCustomers", "(II)Z"⟩
abbrev cX7_pays : ByteArray := prog_9_method_27_code
def yX7_pays : MethodName := ⟨RX7, "pays", "(II)I"⟩
abbrev cX7_payer : ByteArray := prog_9_method_28_code
def yX7_payer : MethodName := ⟨RX7, "payer", "(II)I"⟩
abbrev cX7_quota : ByteArray := prog_9_method_29_code
def yX7_quota : MethodName := ⟨RX7, "quota", "(III)I"⟩
abbrev cX7_more : ByteArray := prog_9_method_30_code
def yX7_more : MethodName := ⟨RX7, "more", "(I)I"⟩
abbrev cX7_canHand : ByteArray := prog_9_method_31_code
def yX7_canHand : MethodName := ⟨RX7, "canHand", "(I)Z"⟩
abbrev cX7_hands : ByteArray := prog_9_method_32_code
def yX7_hands : MethodName := ⟨RX7, "hands", "(I)I"⟩
abbrev cX7_handIn : ByteArray := prog_9_method_33_code
def yX7_handIn : MethodName := ⟨RX7, "handIn", "(I)I"⟩
abbrev cX7_mending : ByteArray := prog_9_method_34_code
def yX7_mending : MethodName := ⟨RX7, "mending", "(I)I"⟩
abbrev cX7_isCode : ByteArray := prog_9_method_35_code
def yX7_isCode : MethodName := ⟨RX7, "isCode", "(I)Z"⟩
abbrev cX7_damage : ByteArray := prog_9_method_36_code
def yX7_damage : MethodName := ⟨RX7, "damage", "(III)I"⟩
abbrev cX7_standard : ByteArray := prog_9_method_37_code
def yX7_standard : MethodName := ⟨RX7, "standard", "(II)I"⟩
abbrev cX7_limit : ByteArray := prog_9_method_38_code
def yX7_limit : MethodName := ⟨RX7, "limit", "(I)I"⟩
abbrev cX7_mend : ByteArray := prog_9_method_39_code
def yX7_mend : MethodName := ⟨RX7, "mend", "(I)I"⟩
abbrev cX7_book : ByteArray := prog_9_method_40_code
def yX7_book : MethodName := ⟨RX7, "book", "(III)I"⟩
abbrev cX7_given : ByteArray := prog_9_method_41_code
def yX7_given : MethodName := ⟨RX7, "given", "(I)I"⟩
abbrev cX7_lacking : ByteArray := prog_9_method_42_code
def yX7_lacking : MethodName := ⟨RX7, "lacking", "(I)I"⟩
abbrev cX7_canServe : ByteArray := prog_9_method_43_code
def yX7_canServe : MethodName := ⟨RX7, "canServe", "(I)Z"⟩
abbrev cX7_serves : ByteArray := prog_9_method_44_code
def yX7_serves : MethodName := ⟨RX7, "serves", "(I)I"⟩
abbrev cX7_serve : ByteArray := prog_9_method_45_code
def yX7_serve : MethodName := ⟨RX7, "serve", "()I"⟩
abbrev cX7_isBooking : ByteArray := prog_9_method_46_code
def yX7_isBooking : MethodName := ⟨RX7, "isBooking", "(I)Z"⟩
abbrev cX7_end : ByteArray := prog_9_method_47_code
def yX7_end : MethodName := ⟨RX7, "end", "(I)I"⟩
abbrev cX7_lacksAt : ByteArray := prog_9_method_48_code
def yX7_lacksAt : MethodName := ⟨RX7, "lacksAt", "(II)I"⟩
abbrev cX7_lacksOf : ByteArray := prog_9_method_49_code
def yX7_lacksOf : MethodName := ⟨RX7, "lacksOf", "(I)I"⟩
abbrev cX7_laysOut : ByteArray := prog_9_method_50_code
def yX7_laysOut : MethodName := ⟨RX7, "laysOut", "(I)V"⟩
abbrev cX7_bits : ByteArray := prog_9_method_51_code
def yX7_bits : MethodName := ⟨RX7, "bits", "(I)I"⟩
abbrev cX7_isChosen : ByteArray := prog_9_method_52_code
def yX7_isChosen : MethodName := ⟨RX7, "isChosen", "(II)Z"⟩
abbrev cX7_bringing : ByteArray := prog_9_method_53_code
def yX7_bringing : MethodName := ⟨RX7, "bringing", "(II)I"⟩
abbrev cX7_leastFrom : ByteArray := prog_9_method_54_code
def yX7_leastFrom : MethodName := ⟨RX7, "leastFrom", "(I)I"⟩
abbrev cX7_plans : ByteArray := prog_9_method_55_code
def yX7_plans : MethodName := ⟨RX7, "plans", "(I)I"⟩
abbrev cX7_bring : ByteArray := prog_9_method_56_code
def yX7_bring : MethodName := ⟨RX7, "bring", "(I)I"⟩
abbrev cX7_broughtFor : ByteArray := prog_9_method_57_code
def yX7_broughtFor : MethodName := ⟨RX7, "broughtFor", "(II)I"⟩
abbrev cX7_brings : ByteArray := prog_9_method_58_code
def yX7_brings : MethodName := ⟨RX7, "brings", "(II)I"⟩
abbrev cX7_told : ByteArray := prog_9_method_59_code
def yX7_told : MethodName := ⟨RX7, "told", "(II)I"⟩
abbrev cX7_boxIs : ByteArray := prog_9_method_60_code
def yX7_boxIs : MethodName := ⟨RX7, "boxIs", "(II)I"⟩
abbrev cX7_lacks : ByteArray := prog_9_method_61_code
def yX7_lacks : MethodName := ⟨RX7, "lacks", "(I)I"⟩
abbrev cX7_pass : ByteArray := prog_9_method_62_code
def yX7_pass : MethodName := ⟨RX7, "pass", "(I)I"⟩
def RJ9 : String := "java/lang/Math"
def TJ9 : u_T := fun k => match k with
  | _ => ("", "", "", false)
def tyJ9 : Nat → FieldType := fun k => match k with
  | _ => .int
abbrev wsJ90 : List Cond := u_ws RJ9 TJ9 0
abbrev cJ9_max_7cf53 : ByteArray := prog_14_method_65_code
def yJ9_max_7cf53 : MethodName := ⟨RJ9, "max", "(II)I"⟩
abbrev cJ9_min_7cf53 : ByteArray := prog_14_method_69_code
def yJ9_min_7cf53 : MethodName := ⟨RJ9, "min", "(II)I"⟩
def RJ0 : String := "java/lang/String"
def TJ0 : u_T := fun k => match k with
  | _ => ("", "", "", false)
def tyJ0 : Nat → FieldType := fun k => match k with
  | _ => .int
abbrev wsJ00 : List Cond := u_ws RJ0 TJ0 0
def RJ10 : String := "java/lang/System"
def TJ10 : u_T := fun k => match k with
  | _ => ("", "", "", false)
def tyJ10 : Nat → FieldType := fun k => match k with
  | _ => .int
abbrev wsJ100 : List Cond := u_ws RJ10 TJ10 0
def RL : String := "BoxPoolLaw"
abbrev cL_cost : ByteArray := method_3_code
def yL_cost : MethodName := ⟨RL, "cost", "(LBoxPool;III[J)I"⟩
abbrev cL_box : ByteArray := method_4_code
def yL_box : MethodName := ⟨RL, "box", "(LBoxPool;III[J)I"⟩
abbrev cL_wash : ByteArray := method_5_code
def yL_wash : MethodName := ⟨RL, "wash", "(LBoxPool;II[J)I"⟩
abbrev cL_report : ByteArray := method_6_code
def yL_report : MethodName := ⟨RL, "report", "(LBoxPool;IIII[J)I"⟩
abbrev cL_place : ByteArray := method_7_code
def yL_place : MethodName := ⟨RL, "place", "(LBoxPool;II[J)I"⟩
abbrev cL_count : ByteArray := method_8_code
def yL_count : MethodName := ⟨RL, "count", "(LBoxPool;III[J)I"⟩
abbrev cL_days : ByteArray := method_9_code
def yL_days : MethodName := ⟨RL, "days", "(LBoxPool;IIII[J)I"⟩
abbrev cL_lease : ByteArray := method_10_code
def yL_lease : MethodName := ⟨RL, "lease", "(LBoxPool;III)I"⟩
abbrev cL_free : ByteArray := method_11_code
def yL_free : MethodName := ⟨RL, "free", "(LBoxPool;I[J)I"⟩
abbrev cL_payer : ByteArray := method_12_code
def yL_payer : MethodName := ⟨RL, "payer", "(LBoxPool;II[J)I"⟩
abbrev cL_quota : ByteArray := method_13_code
def yL_quota : MethodName := ⟨RL, "quota", "(LBoxPool;III[J)I"⟩
abbrev cL_handIn : ByteArray := method_14_code
def yL_handIn : MethodName := ⟨RL, "handIn", "(LBoxPool;I[J)I"⟩
abbrev cL_damage : ByteArray := method_15_code
def yL_damage : MethodName := ⟨RL, "damage", "(LBoxPool;III[J)I"⟩
abbrev cL_standard : ByteArray := method_16_code
def yL_standard : MethodName := ⟨RL, "standard", "(LBoxPool;II[J)I"⟩
abbrev cL_limit : ByteArray := method_17_code
def yL_limit : MethodName := ⟨RL, "limit", "(LBoxPool;I[J)I"⟩
abbrev cL_mend : ByteArray := method_18_code
def yL_mend : MethodName := ⟨RL, "mend", "(LBoxPool;I[J)I"⟩
abbrev cL_book : ByteArray := method_19_code
def yL_book : MethodName := ⟨RL, "book", "(LBoxPool;III[J)I"⟩
abbrev cL_end : ByteArray := method_20_code
def yL_end : MethodName := ⟨RL, "end", "(LBoxPool;I[J)I"⟩
abbrev cL_bring : ByteArray := method_21_code
def yL_bring : MethodName := ⟨RL, "bring", "(LBoxPool;I[J)I"⟩
abbrev cL_brings : ByteArray := method_22_code
def yL_brings : MethodName := ⟨RL, "brings", "(LBoxPool;II[J)I"⟩
abbrev cL_boxIs : ByteArray := method_23_code
def yL_boxIs : MethodName := ⟨RL, "boxIs", "(LBoxPool;II[J)I"⟩
abbrev cL_lacks : ByteArray := method_24_code
def yL_lacks : MethodName := ⟨RL, "lacks", "(LBoxPool;I[J)I"⟩
abbrev cL_pass : ByteArray := method_25_code
def yL_pass : MethodName := ⟨RL, "pass", "(LBoxPool;I[J)I"⟩
abbrev cL_law : ByteArray := code
def yL_law : MethodName := ⟨RL, "law", "([I)Z"⟩
abbrev vwCl : List vw_C := [(RX0, TX0, 5), (RX1, TX1, 10), (RX2, TX2, 3), (RX3, TX3, 3), (RX4, TX4, 6), (RX5, TX5, 11), (RX6, TX6, 11), (RX7, TX7, 38)]
end
section
theorem dX0_init_0 : decode cX0_init 0 = .ok (.aload_n 0, 1) := by decide +kernel
theorem dX0_init_1 : decode cX0_init 1 = .ok (.invokespecial 1, 3) := by decide +kernel
theorem dX0_init_4 : decode cX0_init 4 = .ok (.aload_n 0, 1) := by decide +kernel
theorem dX0_init_5 : decode cX0_init 5 = .ok (.iconst 0, 1) := by decide +kernel
theorem dX0_init_6 : decode cX0_init 6 = .ok (.putfield 7, 3) := by decide +kernel
theorem dX0_init_9 : decode cX0_init 9 = .ok (.aload_n 0, 1) := by decide +kernel
theorem dX0_init_10 : decode cX0_init 10 = .ok (.iconst 0, 1) := by decide +kernel
theorem dX0_init_11 : decode cX0_init 11 = .ok (.putfield 13, 3) := by decide +kernel
theorem dX0_init_14 : decode cX0_init 14 = .ok (.aload_n 0, 1) := by decide +kernel
theorem dX0_init_15 : decode cX0_init 15 = .ok (.iload_n 1, 1) := by decide +kernel
theorem dX0_init_16 : decode cX0_init 16 = .ok (.putfield 17, 3) := by decide +kernel
theorem dX0_init_19 : decode cX0_init 19 = .ok (.aload_n 0, 1) := by decide +kernel
theorem dX0_init_20 : decode cX0_init 20 = .ok (.iload_n 2, 1) := by decide +kernel
theorem dX0_init_21 : decode cX0_init 21 = .ok (.putfield 20, 3) := by decide +kernel
theorem dX0_init_24 : decode cX0_init 24 = .ok (.aload_n 0, 1) := by decide +kernel
theorem dX0_init_25 : decode cX0_init 25 = .ok (.iload_n 3, 1) := by decide +kernel
theorem dX0_init_26 : decode cX0_init 26 = .ok (.putfield 23, 3) := by decide +kernel
theorem dX0_init_29 : decode cX0_init 29 = .ok (.return_, 1) := by decide +kernel
theorem dX0_lacking_0 : decode cX0_lacking 0 = .ok (.aload_n 0, 1) := by decide +kernel
theorem dX0_lacking_1 : decode cX0_lacking 1 = .ok (.getfield 13, 3) := by decide +kernel
theorem dX0_lacking_4 : decode cX0_lacking 4 = .ok (.ifCond .eq 7, 3) := by decide +kernel
theorem dX0_lacking_7 : decode cX0_lacking 7 = .ok (.iconst 0, 1) := by decide +kernel
theorem dX0_lacking_8 : decode cX0_lacking 8 = .ok (.goto 12, 3) := by decide +kernel
theorem dX0_lacking_11 : decode cX0_lacking 11 = .ok (.aload_n 0, 1) := by decide +kernel
theorem dX0_lacking_12 : decode cX0_lacking 12 = .ok (.getfield 23, 3) := by decide +kernel
theorem dX0_lacking_15 : decode cX0_lacking 15 = .ok (.aload_n 0, 1) := by decide +kernel
theorem dX0_lacking_16 : decode cX0_lacking 16 = .ok (.getfield 7, 3) := by decide +kernel
theorem dX0_lacking_19 : decode cX0_lacking 19 = .ok (.isub, 1) := by decide +kernel
theorem dX0_lacking_20 : decode cX0_lacking 20 = .ok (.ireturn, 1) := by decide +kernel
theorem dX1_init_0 : decode cX1_init 0 = .ok (.aload_n 0, 1) := by decide +kernel
theorem dX1_init_1 : decode cX1_init 1 = .ok (.invokespecial 3, 3) := by decide +kernel
theorem dX1_init_4 : decode cX1_init 4 = .ok (.aload_n 0, 1) := by decide +kernel
theorem dX1_init_5 : decode cX1_init 5 = .ok (.new 9, 3) := by decide +kernel
theorem dX1_init_8 : decode cX1_init 8 = .ok (.dup, 1) := by decide +kernel
theorem dX1_init_9 : decode cX1_init 9 = .ok (.invokespecial 11, 3) := by decide +kernel
theorem dX1_init_12 : decode cX1_init 12 = .ok (.putfield 12, 3) := by decide +kernel
theorem dX1_init_15 : decode cX1_init 15 = .ok (.aload_n 0, 1) := by decide +kernel
theorem dX1_init_16 : decode cX1_init 16 = .ok (.new 18, 3) := by decide +kernel
theorem dX1_init_19 : decode cX1_init 19 = .ok (.dup, 1) := by decide +kernel
theorem dX1_init_20 : decode cX1_init 20 = .ok (.invokespecial 20, 3) := by decide +kernel
theorem dX1_init_23 : decode cX1_init 23 = .ok (.putfield 21, 3) := by decide +kernel
theorem dX1_init_26 : decode cX1_init 26 = .ok (.aload_n 0, 1) := by decide +kernel
theorem dX1_init_27 : decode cX1_init 27 = .ok (.new 25, 3) := by decide +kernel
theorem dX1_init_30 : decode cX1_init 30 = .ok (.dup, 1) := by decide +kernel
theorem dX1_init_31 : decode cX1_init 31 = .ok (.invokespecial 27, 3) := by decide +kernel
theorem dX1_init_34 : decode cX1_init 34 = .ok (.putfield 28, 3) := by decide +kernel
theorem dX1_init_37 : decode cX1_init 37 = .ok (.aload_n 0, 1) := by decide +kernel
theorem dX1_init_38 : decode cX1_init 38 = .ok (.iconst 0, 1) := by decide +kernel
theorem dX1_init_39 : decode cX1_init 39 = .ok (.putfield 32, 3) := by decide +kernel
theorem dX1_init_42 : decode cX1_init 42 = .ok (.aload_n 0, 1) := by decide +kernel
theorem dX1_init_43 : decode cX1_init 43 = .ok (.iconst (-1), 1) := by decide +kernel
theorem dX1_init_44 : decode cX1_init 44 = .ok (.putfield 36, 3) := by decide +kernel
theorem dX1_init_47 : decode cX1_init 47 = .ok (.aload_n 0, 1) := by decide +kernel
theorem dX1_init_48 : decode cX1_init 48 = .ok (.iconst (-1), 1) := by decide +kernel
theorem dX1_init_49 : decode cX1_init 49 = .ok (.putfield 40, 3) := by decide +kernel
theorem dX1_init_52 : decode cX1_init 52 = .ok (.aload_n 0, 1) := by decide +kernel
theorem dX1_init_53 : decode cX1_init 53 = .ok (.iconst (-1), 1) := by decide +kernel
theorem dX1_init_54 : decode cX1_init 54 = .ok (.putfield 43, 3) := by decide +kernel
theorem dX1_init_57 : decode cX1_init 57 = .ok (.aload_n 0, 1) := by decide +kernel
theorem dX1_init_58 : decode cX1_init 58 = .ok (.iload_n 1, 1) := by decide +kernel
theorem dX1_init_59 : decode cX1_init 59 = .ok (.putfield 46, 3) := by decide +kernel
theorem dX1_init_62 : decode cX1_init 62 = .ok (.aload_n 0, 1) := by decide +kernel
theorem dX1_init_63 : decode cX1_init 63 = .ok (.iload_n 2, 1) := by decide +kernel
theorem dX1_init_64 : decode cX1_init 64 = .ok (.putfield 49, 3) := by decide +kernel
theorem dX1_init_67 : decode cX1_init 67 = .ok (.aload_n 0, 1) := by decide +kernel
theorem dX1_init_68 : decode cX1_init 68 = .ok (.iload_n 3, 1) := by decide +kernel
theorem dX1_init_69 : decode cX1_init 69 = .ok (.putfield 52, 3) := by decide +kernel
theorem dX1_init_72 : decode cX1_init 72 = .ok (.return_, 1) := by decide +kernel
theorem dX1_isGone_0 : decode cX1_isGone 0 = .ok (.aload_n 0, 1) := by decide +kernel
theorem dX1_isGone_1 : decode cX1_isGone 1 = .ok (.getfield 40, 3) := by decide +kernel
theorem dX1_isGone_4 : decode cX1_isGone 4 = .ok (.iconst (-1), 1) := by decide +kernel
theorem dX1_isGone_5 : decode cX1_isGone 5 = .ok (.if_icmp .eq 7, 3) := by decide +kernel
theorem dX1_isGone_8 : decode cX1_isGone 8 = .ok (.iconst 1, 1) := by decide +kernel
theorem dX1_isGone_9 : decode cX1_isGone 9 = .ok (.goto 4, 3) := by decide +kernel
theorem dX1_isGone_12 : decode cX1_isGone 12 = .ok (.iconst 0, 1) := by decide +kernel
theorem dX1_isGone_13 : decode cX1_isGone 13 = .ok (.ireturn, 1) := by decide +kernel
theorem dX2_init_0 : decode cX2_init 0 = .ok (.aload_n 0, 1) := by decide +kernel
theorem dX2_init_1 : decode cX2_init 1 = .ok (.invokespecial 3, 3) := by decide +kernel
theorem dX2_init_4 : decode cX2_init 4 = .ok (.aload_n 0, 1) := by decide +kernel
theorem dX2_init_5 : decode cX2_init 5 = .ok (.bipush 12, 2) := by decide +kernel
theorem dX2_init_7 : decode cX2_init 7 = .ok (.newarray .int, 2) := by decide +kernel
theorem dX2_init_9 : decode cX2_init 9 = .ok (.putfield 9, 3) := by decide +kernel
theorem dX2_init_12 : decode cX2_init 12 = .ok (.aload_n 0, 1) := by decide +kernel
theorem dX2_init_13 : decode cX2_init 13 = .ok (.bipush 12, 2) := by decide +kernel
theorem dX2_init_15 : decode cX2_init 15 = .ok (.newarray .int, 2) := by decide +kernel
theorem dX2_init_17 : decode cX2_init 17 = .ok (.putfield 15, 3) := by decide +kernel
theorem dX2_init_20 : decode cX2_init 20 = .ok (.aload_n 0, 1) := by decide +kernel
theorem dX2_init_21 : decode cX2_init 21 = .ok (.iconst 0, 1) := by decide +kernel
theorem dX2_init_22 : decode cX2_init 22 = .ok (.putfield 18, 3) := by decide +kernel
theorem dX2_init_25 : decode cX2_init 25 = .ok (.return_, 1) := by decide +kernel
theorem dX2_isFull_0 : decode cX2_isFull 0 = .ok (.aload_n 0, 1) := by decide +kernel
theorem dX2_isFull_1 : decode cX2_isFull 1 = .ok (.getfield 18, 3) := by decide +kernel
theorem dX2_isFull_4 : decode cX2_isFull 4 = .ok (.bipush 12, 2) := by decide +kernel
theorem dX2_isFull_6 : decode cX2_isFull 6 = .ok (.if_icmp .lt 7, 3) := by decide +kernel
theorem dX2_isFull_9 : decode cX2_isFull 9 = .ok (.iconst 1, 1) := by decide +kernel
theorem dX2_isFull_10 : decode cX2_isFull 10 = .ok (.goto 4, 3) := by decide +kernel
theorem dX2_isFull_13 : decode cX2_isFull 13 = .ok (.iconst 0, 1) := by decide +kernel
theorem dX2_isFull_14 : decode cX2_isFull 14 = .ok (.ireturn, 1) := by decide +kernel
theorem dX2_tell_0 : decode cX2_tell 0 = .ok (.aload_n 0, 1) := by decide +kernel
theorem dX2_tell_1 : decode cX2_tell 1 = .ok (.invokevirtual 22, 3) := by decide +kernel
theorem dX2_tell_4 : decode cX2_tell 4 = .ok (.ifCond .eq 4, 3) := by decide +kernel
theorem dX2_tell_7 : decode cX2_tell 7 = .ok (.return_, 1) := by decide +kernel
theorem dX2_tell_8 : decode cX2_tell 8 = .ok (.aload_n 0, 1) := by decide +kernel
theorem dX2_tell_9 : decode cX2_tell 9 = .ok (.getfield 9, 3) := by decide +kernel
theorem dX2_tell_12 : decode cX2_tell 12 = .ok (.aload_n 0, 1) := by decide +kernel
theorem dX2_tell_13 : decode cX2_tell 13 = .ok (.getfield 18, 3) := by decide +kernel
theorem dX2_tell_16 : decode cX2_tell 16 = .ok (.iload_n 1, 1) := by decide +kernel
theorem dX2_tell_17 : decode cX2_tell 17 = .ok (.iastore, 1) := by decide +kernel
theorem dX2_tell_18 : decode cX2_tell 18 = .ok (.aload_n 0, 1) := by decide +kernel
theorem dX2_tell_19 : decode cX2_tell 19 = .ok (.getfield 15, 3) := by decide +kernel
theorem dX2_tell_22 : decode cX2_tell 22 = .ok (.aload_n 0, 1) := by decide +kernel
theorem dX2_tell_23 : decode cX2_tell 23 = .ok (.getfield 18, 3) := by decide +kernel
theorem dX2_tell_26 : decode cX2_tell 26 = .ok (.iload_n 2, 1) := by decide +kernel
theorem dX2_tell_27 : decode cX2_tell 27 = .ok (.iastore, 1) := by decide +kernel
theorem dX2_tell_28 : decode cX2_tell 28 = .ok (.aload_n 0, 1) := by decide +kernel
theorem dX2_tell_29 : decode cX2_tell 29 = .ok (.dup, 1) := by decide +kernel
theorem dX2_tell_30 : decode cX2_tell 30 = .ok (.getfield 18, 3) := by decide +kernel
theorem dX2_tell_33 : decode cX2_tell 33 = .ok (.iconst 1, 1) := by decide +kernel
theorem dX2_tell_34 : decode cX2_tell 34 = .ok (.iadd, 1) := by decide +kernel
theorem dX2_tell_35 : decode cX2_tell 35 = .ok (.putfield 18, 3) := by decide +kernel
theorem dX2_tell_38 : decode cX2_tell 38 = .ok (.return_, 1) := by decide +kernel
theorem dX2_clear_0 : decode cX2_clear 0 = .ok (.aload_n 0, 1) := by decide +kernel
theorem dX2_clear_1 : decode cX2_clear 1 = .ok (.iconst 0, 1) := by decide +kernel
theorem dX2_clear_2 : decode cX2_clear 2 = .ok (.putfield 18, 3) := by decide +kernel
theorem dX2_clear_5 : decode cX2_clear 5 = .ok (.return_, 1) := by decide +kernel
theorem dX2_mendCost_0 : decode cX2_mendCost 0 = .ok (.iconst 0, 1) := by decide +kernel
theorem dX2_mendCost_1 : decode cX2_mendCost 1 = .ok (.istore_n 2, 1) := by decide +kernel
theorem dX2_mendCost_2 : decode cX2_mendCost 2 = .ok (.iconst 0, 1) := by decide +kernel
theorem dX2_mendCost_3 : decode cX2_mendCost 3 = .ok (.istore_n 3, 1) := by decide +kernel
theorem dX2_mendCost_4 : decode cX2_mendCost 4 = .ok (.iload_n 3, 1) := by decide +kernel
theorem dX2_mendCost_5 : decode cX2_mendCost 5 = .ok (.aload_n 0, 1) := by decide +kernel
theorem dX2_mendCost_6 : decode cX2_mendCost 6 = .ok (.getfield 18, 3) := by decide +kernel
theorem dX2_mendCost_9 : decode cX2_mendCost 9 = .ok (.if_icmp .ge 59, 3) := by decide +kernel
theorem dX2_mendCost_12 : decode cX2_mendCost 12 = .ok (.aload_n 0, 1) := by decide +kernel
theorem dX2_mendCost_13 : decode cX2_mendCost 13 = .ok (.getfield 9, 3) := by decide +kernel
theorem dX2_mendCost_16 : decode cX2_mendCost 16 = .ok (.iload_n 3, 1) := by decide +kernel
theorem dX2_mendCost_17 : decode cX2_mendCost 17 = .ok (.iaload, 1) := by decide +kernel
theorem dX2_mendCost_18 : decode cX2_mendCost 18 = .ok (.istore 4, 2) := by decide +kernel
theorem dX2_mendCost_20 : decode cX2_mendCost 20 = .ok (.iload 4, 2) := by decide +kernel
theorem dX2_mendCost_22 : decode cX2_mendCost 22 = .ok (.ifCond .lt 40, 3) := by decide +kernel
theorem dX2_mendCost_25 : decode cX2_mendCost 25 = .ok (.iload 4, 2) := by decide +kernel
theorem dX2_mendCost_27 : decode cX2_mendCost 27 = .ok (.aload_n 1, 1) := by decide +kernel
theorem dX2_mendCost_28 : decode cX2_mendCost 28 = .ok (.arraylength, 1) := by decide +kernel
theorem dX2_mendCost_29 : decode cX2_mendCost 29 = .ok (.if_icmp .ge 33, 3) := by decide +kernel
theorem dX2_mendCost_32 : decode cX2_mendCost 32 = .ok (.aload_n 0, 1) := by decide +kernel
theorem dX2_mendCost_33 : decode cX2_mendCost 33 = .ok (.getfield 15, 3) := by decide +kernel
theorem dX2_mendCost_36 : decode cX2_mendCost 36 = .ok (.iload_n 3, 1) := by decide +kernel
theorem dX2_mendCost_37 : decode cX2_mendCost 37 = .ok (.iaload, 1) := by decide +kernel
theorem dX2_mendCost_38 : decode cX2_mendCost 38 = .ok (.aload_n 1, 1) := by decide +kernel
theorem dX2_mendCost_39 : decode cX2_mendCost 39 = .ok (.iload 4, 2) := by decide +kernel
theorem dX2_mendCost_41 : decode cX2_mendCost 41 = .ok (.iaload, 1) := by decide +kernel
theorem dX2_mendCost_42 : decode cX2_mendCost 42 = .ok (.if_icmp .le 20, 3) := by decide +kernel
theorem dX2_mendCost_45 : decode cX2_mendCost 45 = .ok (.iload_n 2, 1) := by decide +kernel
theorem dX2_mendCost_46 : decode cX2_mendCost 46 = .ok (.aload_n 0, 1) := by decide +kernel
theorem dX2_mendCost_47 : decode cX2_mendCost 47 = .ok (.getfield 15, 3) := by decide +kernel
theorem dX2_mendCost_50 : decode cX2_mendCost 50 = .ok (.iload_n 3, 1) := by decide +kernel
theorem dX2_mendCost_51 : decode cX2_mendCost 51 = .ok (.iaload, 1) := by decide +kernel
theorem dX2_mendCost_52 : decode cX2_mendCost 52 = .ok (.iload 4, 2) := by decide +kernel
theorem dX2_mendCost_54 : decode cX2_mendCost 54 = .ok (.iconst 1, 1) := by decide +kernel
theorem dX2_mendCost_55 : decode cX2_mendCost 55 = .ok (.iadd, 1) := by decide +kernel
theorem dX2_mendCost_56 : decode cX2_mendCost 56 = .ok (.imul, 1) := by decide +kernel
theorem dX2_mendCost_57 : decode cX2_mendCost 57 = .ok (.bipush 10, 2) := by decide +kernel
theorem dX2_mendCost_59 : decode cX2_mendCost 59 = .ok (.imul, 1) := by decide +kernel
theorem dX2_mendCost_60 : decode cX2_mendCost 60 = .ok (.iadd, 1) := by decide +kernel
theorem dX2_mendCost_61 : decode cX2_mendCost 61 = .ok (.istore_n 2, 1) := by decide +kernel
theorem dX2_mendCost_62 : decode cX2_mendCost 62 = .ok (.iinc 3 1, 3) := by decide +kernel
theorem dX2_mendCost_65 : decode cX2_mendCost 65 = .ok (.goto (-61), 3) := by decide +kernel
theorem dX2_mendCost_68 : decode cX2_mendCost 68 = .ok (.iload_n 2, 1) := by decide +kernel
theorem dX2_mendCost_69 : decode cX2_mendCost 69 = .ok (.ireturn, 1) := by decide +kernel
theorem dX3_init_0 : decode cX3_init 0 = .ok (.aload_n 0, 1) := by decide +kernel
theorem dX3_init_1 : decode cX3_init 1 = .ok (.invokespecial 3, 3) := by decide +kernel
theorem dX3_init_4 : decode cX3_init 4 = .ok (.aload_n 0, 1) := by decide +kernel
theorem dX3_init_5 : decode cX3_init 5 = .ok (.bipush 10, 2) := by decide +kernel
theorem dX3_init_7 : decode cX3_init 7 = .ok (.newarray .int, 2) := by decide +kernel
theorem dX3_init_9 : decode cX3_init 9 = .ok (.putfield 9, 3) := by decide +kernel
theorem dX3_init_12 : decode cX3_init 12 = .ok (.aload_n 0, 1) := by decide +kernel
theorem dX3_init_13 : decode cX3_init 13 = .ok (.bipush 10, 2) := by decide +kernel
theorem dX3_init_15 : decode cX3_init 15 = .ok (.newarray .int, 2) := by decide +kernel
theorem dX3_init_17 : decode cX3_init 17 = .ok (.putfield 15, 3) := by decide +kernel
theorem dX3_init_20 : decode cX3_init 20 = .ok (.aload_n 0, 1) := by decide +kernel
theorem dX3_init_21 : decode cX3_init 21 = .ok (.iconst 0, 1) := by decide +kernel
theorem dX3_init_22 : decode cX3_init 22 = .ok (.putfield 18, 3) := by decide +kernel
theorem dX3_init_25 : decode cX3_init 25 = .ok (.return_, 1) := by decide +kernel
theorem dX3_isFull_0 : decode cX3_isFull 0 = .ok (.aload_n 0, 1) := by decide +kernel
theorem dX3_isFull_1 : decode cX3_isFull 1 = .ok (.getfield 18, 3) := by decide +kernel
theorem dX3_isFull_4 : decode cX3_isFull 4 = .ok (.bipush 10, 2) := by decide +kernel
theorem dX3_isFull_6 : decode cX3_isFull 6 = .ok (.if_icmp .lt 7, 3) := by decide +kernel
theorem dX3_isFull_9 : decode cX3_isFull 9 = .ok (.iconst 1, 1) := by decide +kernel
theorem dX3_isFull_10 : decode cX3_isFull 10 = .ok (.goto 4, 3) := by decide +kernel
theorem dX3_isFull_13 : decode cX3_isFull 13 = .ok (.iconst 0, 1) := by decide +kernel
theorem dX3_isFull_14 : decode cX3_isFull 14 = .ok (.ireturn, 1) := by decide +kernel
theorem dX3_tell_0 : decode cX3_tell 0 = .ok (.aload_n 0, 1) := by decide +kernel
theorem dX3_tell_1 : decode cX3_tell 1 = .ok (.invokevirtual 22, 3) := by decide +kernel
theorem dX3_tell_4 : decode cX3_tell 4 = .ok (.ifCond .eq 4, 3) := by decide +kernel
theorem dX3_tell_7 : decode cX3_tell 7 = .ok (.return_, 1) := by decide +kernel
theorem dX3_tell_8 : decode cX3_tell 8 = .ok (.aload_n 0, 1) := by decide +kernel
theorem dX3_tell_9 : decode cX3_tell 9 = .ok (.getfield 9, 3) := by decide +kernel
theorem dX3_tell_12 : decode cX3_tell 12 = .ok (.aload_n 0, 1) := by decide +kernel
theorem dX3_tell_13 : decode cX3_tell 13 = .ok (.getfield 18, 3) := by decide +kernel
theorem dX3_tell_16 : decode cX3_tell 16 = .ok (.iload_n 1, 1) := by decide +kernel
theorem dX3_tell_17 : decode cX3_tell 17 = .ok (.iastore, 1) := by decide +kernel
theorem dX3_tell_18 : decode cX3_tell 18 = .ok (.aload_n 0, 1) := by decide +kernel
theorem dX3_tell_19 : decode cX3_tell 19 = .ok (.getfield 15, 3) := by decide +kernel
theorem dX3_tell_22 : decode cX3_tell 22 = .ok (.aload_n 0, 1) := by decide +kernel
theorem dX3_tell_23 : decode cX3_tell 23 = .ok (.getfield 18, 3) := by decide +kernel
theorem dX3_tell_26 : decode cX3_tell 26 = .ok (.iload_n 2, 1) := by decide +kernel
theorem dX3_tell_27 : decode cX3_tell 27 = .ok (.iastore, 1) := by decide +kernel
theorem dX3_tell_28 : decode cX3_tell 28 = .ok (.aload_n 0, 1) := by decide +kernel
theorem dX3_tell_29 : decode cX3_tell 29 = .ok (.dup, 1) := by decide +kernel
theorem dX3_tell_30 : decode cX3_tell 30 = .ok (.getfield 18, 3) := by decide +kernel
theorem dX3_tell_33 : decode cX3_tell 33 = .ok (.iconst 1, 1) := by decide +kernel
theorem dX3_tell_34 : decode cX3_tell 34 = .ok (.iadd, 1) := by decide +kernel
theorem dX3_tell_35 : decode cX3_tell 35 = .ok (.putfield 18, 3) := by decide +kernel
theorem dX3_tell_38 : decode cX3_tell 38 = .ok (.return_, 1) := by decide +kernel
theorem dX3_holdOn_0 : decode cX3_holdOn 0 = .ok (.aload_n 0, 1) := by decide +kernel
theorem dX3_holdOn_1 : decode cX3_holdOn 1 = .ok (.getfield 18, 3) := by decide +kernel
theorem dX3_holdOn_4 : decode cX3_holdOn 4 = .ok (.iconst 1, 1) := by decide +kernel
theorem dX3_holdOn_5 : decode cX3_holdOn 5 = .ok (.isub, 1) := by decide +kernel
theorem dX3_holdOn_6 : decode cX3_holdOn 6 = .ok (.istore_n 2, 1) := by decide +kernel
theorem dX3_holdOn_7 : decode cX3_holdOn 7 = .ok (.iload_n 2, 1) := by decide +kernel
theorem dX3_holdOn_8 : decode cX3_holdOn 8 = .ok (.ifCond .lt 35, 3) := by decide +kernel
theorem dX3_holdOn_11 : decode cX3_holdOn 11 = .ok (.aload_n 0, 1) := by decide +kernel
theorem dX3_holdOn_12 : decode cX3_holdOn 12 = .ok (.getfield 9, 3) := by decide +kernel
theorem dX3_holdOn_15 : decode cX3_holdOn 15 = .ok (.iload_n 2, 1) := by decide +kernel
theorem dX3_holdOn_16 : decode cX3_holdOn 16 = .ok (.iaload, 1) := by decide +kernel
theorem dX3_holdOn_17 : decode cX3_holdOn 17 = .ok (.iload_n 1, 1) := by decide +kernel
theorem dX3_holdOn_18 : decode cX3_holdOn 18 = .ok (.if_icmp .gt 19, 3) := by decide +kernel
theorem dX3_holdOn_21 : decode cX3_holdOn 21 = .ok (.iload_n 1, 1) := by decide +kernel
theorem dX3_holdOn_22 : decode cX3_holdOn 22 = .ok (.aload_n 0, 1) := by decide +kernel
theorem dX3_holdOn_23 : decode cX3_holdOn 23 = .ok (.getfield 15, 3) := by decide +kernel
theorem dX3_holdOn_26 : decode cX3_holdOn 26 = .ok (.iload_n 2, 1) := by decide +kernel
theorem dX3_holdOn_27 : decode cX3_holdOn 27 = .ok (.iaload, 1) := by decide +kernel
theorem dX3_holdOn_28 : decode cX3_holdOn 28 = .ok (.if_icmp .gt 7, 3) := by decide +kernel
theorem dX3_holdOn_31 : decode cX3_holdOn 31 = .ok (.iconst 1, 1) := by decide +kernel
theorem dX3_holdOn_32 : decode cX3_holdOn 32 = .ok (.goto 4, 3) := by decide +kernel
theorem dX3_holdOn_35 : decode cX3_holdOn 35 = .ok (.iconst 0, 1) := by decide +kernel
theorem dX3_holdOn_36 : decode cX3_holdOn 36 = .ok (.ireturn, 1) := by decide +kernel
theorem dX3_holdOn_37 : decode cX3_holdOn 37 = .ok (.iinc 2 (-1), 3) := by decide +kernel
theorem dX3_holdOn_40 : decode cX3_holdOn 40 = .ok (.goto (-33), 3) := by decide +kernel
theorem dX3_holdOn_43 : decode cX3_holdOn 43 = .ok (.iconst 0, 1) := by decide +kernel
theorem dX3_holdOn_44 : decode cX3_holdOn 44 = .ok (.ireturn, 1) := by decide +kernel
theorem dX3_endOn_0 : decode cX3_endOn 0 = .ok (.iconst 0, 1) := by decide +kernel
theorem dX3_endOn_1 : decode cX3_endOn 1 = .ok (.istore_n 2, 1) := by decide +kernel
theorem dX3_endOn_2 : decode cX3_endOn 2 = .ok (.iload_n 2, 1) := by decide +kernel
theorem dX3_endOn_3 : decode cX3_endOn 3 = .ok (.aload_n 0, 1) := by decide +kernel
theorem dX3_endOn_4 : decode cX3_endOn 4 = .ok (.getfield 18, 3) := by decide +kernel
theorem dX3_endOn_7 : decode cX3_endOn 7 = .ok (.if_icmp .ge 25, 3) := by decide +kernel
theorem dX3_endOn_10 : decode cX3_endOn 10 = .ok (.aload_n 0, 1) := by decide +kernel
theorem dX3_endOn_11 : decode cX3_endOn 11 = .ok (.getfield 15, 3) := by decide +kernel
theorem dX3_endOn_14 : decode cX3_endOn 14 = .ok (.iload_n 2, 1) := by decide +kernel
theorem dX3_endOn_15 : decode cX3_endOn 15 = .ok (.aload_n 0, 1) := by decide +kernel
theorem dX3_endOn_16 : decode cX3_endOn 16 = .ok (.getfield 15, 3) := by decide +kernel
theorem dX3_endOn_19 : decode cX3_endOn 19 = .ok (.iload_n 2, 1) := by decide +kernel
theorem dX3_endOn_20 : decode cX3_endOn 20 = .ok (.iaload, 1) := by decide +kernel
theorem dX3_endOn_21 : decode cX3_endOn 21 = .ok (.iload_n 1, 1) := by decide +kernel
theorem dX3_endOn_22 : decode cX3_endOn 22 = .ok (.invokestatic 26, 3) := by decide +kernel
theorem dX3_endOn_25 : decode cX3_endOn 25 = .ok (.iastore, 1) := by decide +kernel
theorem dX3_endOn_26 : decode cX3_endOn 26 = .ok (.iinc 2 1, 3) := by decide +kernel
theorem dX3_endOn_29 : decode cX3_endOn 29 = .ok (.goto (-27), 3) := by decide +kernel
theorem dX3_endOn_32 : decode cX3_endOn 32 = .ok (.return_, 1) := by decide +kernel
theorem dX4_init_0 : decode cX4_init 0 = .ok (.aload_n 0, 1) := by decide +kernel
theorem dX4_init_1 : decode cX4_init 1 = .ok (.invokespecial 3, 3) := by decide +kernel
theorem dX4_init_4 : decode cX4_init 4 = .ok (.aload_n 0, 1) := by decide +kernel
theorem dX4_init_5 : decode cX4_init 5 = .ok (.bipush 30, 2) := by decide +kernel
theorem dX4_init_7 : decode cX4_init 7 = .ok (.newarray .int, 2) := by decide +kernel
theorem dX4_init_9 : decode cX4_init 9 = .ok (.putfield 9, 3) := by decide +kernel
theorem dX4_init_12 : decode cX4_init 12 = .ok (.aload_n 0, 1) := by decide +kernel
theorem dX4_init_13 : decode cX4_init 13 = .ok (.bipush 30, 2) := by decide +kernel
theorem dX4_init_15 : decode cX4_init 15 = .ok (.newarray .int, 2) := by decide +kernel
theorem dX4_init_17 : decode cX4_init 17 = .ok (.putfield 15, 3) := by decide +kernel
theorem dX4_init_20 : decode cX4_init 20 = .ok (.aload_n 0, 1) := by decide +kernel
theorem dX4_init_21 : decode cX4_init 21 = .ok (.bipush 30, 2) := by decide +kernel
theorem dX4_init_23 : decode cX4_init 23 = .ok (.newarray .int, 2) := by decide +kernel
theorem dX4_init_25 : decode cX4_init 25 = .ok (.putfield 18, 3) := by decide +kernel
theorem dX4_init_28 : decode cX4_init 28 = .ok (.aload_n 0, 1) := by decide +kernel
theorem dX4_init_29 : decode cX4_init 29 = .ok (.bipush 30, 2) := by decide +kernel
theorem dX4_init_31 : decode cX4_init 31 = .ok (.newarray .int, 2) := by decide +kernel
theorem dX4_init_33 : decode cX4_init 33 = .ok (.putfield 21, 3) := by decide +kernel
theorem dX4_init_36 : decode cX4_init 36 = .ok (.aload_n 0, 1) := by decide +kernel
theorem dX4_init_37 : decode cX4_init 37 = .ok (.iconst 0, 1) := by decide +kernel
theorem dX4_init_38 : decode cX4_init 38 = .ok (.putfield 24, 3) := by decide +kernel
theorem dX4_init_41 : decode cX4_init 41 = .ok (.aload_n 0, 1) := by decide +kernel
theorem dX4_init_42 : decode cX4_init 42 = .ok (.iconst 0, 1) := by decide +kernel
theorem dX4_init_43 : decode cX4_init 43 = .ok (.putfield 28, 3) := by decide +kernel
theorem dX4_init_46 : decode cX4_init 46 = .ok (.return_, 1) := by decide +kernel
theorem dX4_isFull_0 : decode cX4_isFull 0 = .ok (.aload_n 0, 1) := by decide +kernel
theorem dX4_isFull_1 : decode cX4_isFull 1 = .ok (.getfield 24, 3) := by decide +kernel
theorem dX4_isFull_4 : decode cX4_isFull 4 = .ok (.bipush 30, 2) := by decide +kernel
theorem dX4_isFull_6 : decode cX4_isFull 6 = .ok (.if_icmp .lt 7, 3) := by decide +kernel
theorem dX4_isFull_9 : decode cX4_isFull 9 = .ok (.iconst 1, 1) := by decide +kernel
theorem dX4_isFull_10 : decode cX4_isFull 10 = .ok (.goto 4, 3) := by decide +kernel
theorem dX4_isFull_13 : decode cX4_isFull 13 = .ok (.iconst 0, 1) := by decide +kernel
theorem dX4_isFull_14 : decode cX4_isFull 14 = .ok (.ireturn, 1) := by decide +kernel
theorem dX4_knows_0 : decode cX4_knows 0 = .ok (.iconst 0, 1) := by decide +kernel
theorem dX4_knows_1 : decode cX4_knows 1 = .ok (.istore 4, 2) := by decide +kernel
theorem dX4_knows_3 : decode cX4_knows 3 = .ok (.iload 4, 2) := by decide +kernel
theorem dX4_knows_5 : decode cX4_knows 5 = .ok (.aload_n 0, 1) := by decide +kernel
theorem dX4_knows_6 : decode cX4_knows 6 = .ok (.getfield 24, 3) := by decide +kernel
theorem dX4_knows_9 : decode cX4_knows 9 = .ok (.if_icmp .ge 44, 3) := by decide +kernel
theorem dX4_knows_12 : decode cX4_knows 12 = .ok (.aload_n 0, 1) := by decide +kernel
theorem dX4_knows_13 : decode cX4_knows 13 = .ok (.getfield 9, 3) := by decide +kernel
theorem dX4_knows_16 : decode cX4_knows 16 = .ok (.iload 4, 2) := by decide +kernel
theorem dX4_knows_18 : decode cX4_knows 18 = .ok (.iaload, 1) := by decide +kernel
theorem dX4_knows_19 : decode cX4_knows 19 = .ok (.iload_n 1, 1) := by decide +kernel
theorem dX4_knows_20 : decode cX4_knows 20 = .ok (.if_icmp .ne 27, 3) := by decide +kernel
theorem dX4_knows_23 : decode cX4_knows 23 = .ok (.aload_n 0, 1) := by decide +kernel
theorem dX4_knows_24 : decode cX4_knows 24 = .ok (.getfield 15, 3) := by decide +kernel
theorem dX4_knows_27 : decode cX4_knows 27 = .ok (.iload 4, 2) := by decide +kernel
theorem dX4_knows_29 : decode cX4_knows 29 = .ok (.iaload, 1) := by decide +kernel
theorem dX4_knows_30 : decode cX4_knows 30 = .ok (.iload_n 2, 1) := by decide +kernel
theorem dX4_knows_31 : decode cX4_knows 31 = .ok (.if_icmp .ne 16, 3) := by decide +kernel
theorem dX4_knows_34 : decode cX4_knows 34 = .ok (.aload_n 0, 1) := by decide +kernel
theorem dX4_knows_35 : decode cX4_knows 35 = .ok (.getfield 18, 3) := by decide +kernel
theorem dX4_knows_38 : decode cX4_knows 38 = .ok (.iload 4, 2) := by decide +kernel
theorem dX4_knows_40 : decode cX4_knows 40 = .ok (.iaload, 1) := by decide +kernel
theorem dX4_knows_41 : decode cX4_knows 41 = .ok (.iload_n 3, 1) := by decide +kernel
theorem dX4_knows_42 : decode cX4_knows 42 = .ok (.if_icmp .ne 5, 3) := by decide +kernel
theorem dX4_knows_45 : decode cX4_knows 45 = .ok (.iconst 1, 1) := by decide +kernel
theorem dX4_knows_46 : decode cX4_knows 46 = .ok (.ireturn, 1) := by decide +kernel
theorem dX4_knows_47 : decode cX4_knows 47 = .ok (.iinc 4 1, 3) := by decide +kernel
theorem dX4_knows_50 : decode cX4_knows 50 = .ok (.goto (-47), 3) := by decide +kernel
theorem dX4_knows_53 : decode cX4_knows 53 = .ok (.iconst 0, 1) := by decide +kernel
theorem dX4_knows_54 : decode cX4_knows 54 = .ok (.ireturn, 1) := by decide +kernel
theorem dX4_tell_0 : decode cX4_tell 0 = .ok (.aload_n 0, 1) := by decide +kernel
theorem dX4_tell_1 : decode cX4_tell 1 = .ok (.invokevirtual 31, 3) := by decide +kernel
theorem dX4_tell_4 : decode cX4_tell 4 = .ok (.ifCond .eq 4, 3) := by decide +kernel
theorem dX4_tell_7 : decode cX4_tell 7 = .ok (.return_, 1) := by decide +kernel
theorem dX4_tell_8 : decode cX4_tell 8 = .ok (.aload_n 0, 1) := by decide +kernel
theorem dX4_tell_9 : decode cX4_tell 9 = .ok (.getfield 24, 3) := by decide +kernel
theorem dX4_tell_12 : decode cX4_tell 12 = .ok (.istore 4, 2) := by decide +kernel
theorem dX4_tell_14 : decode cX4_tell 14 = .ok (.iload 4, 2) := by decide +kernel
theorem dX4_tell_16 : decode cX4_tell 16 = .ok (.ifCond .le 70, 3) := by decide +kernel
theorem dX4_tell_19 : decode cX4_tell 19 = .ok (.aload_n 0, 1) := by decide +kernel
theorem dX4_tell_20 : decode cX4_tell 20 = .ok (.getfield 9, 3) := by decide +kernel
theorem dX4_tell_23 : decode cX4_tell 23 = .ok (.iload 4, 2) := by decide +kernel
theorem dX4_tell_25 : decode cX4_tell 25 = .ok (.iconst 1, 1) := by decide +kernel
theorem dX4_tell_26 : decode cX4_tell 26 = .ok (.isub, 1) := by decide +kernel
theorem dX4_tell_27 : decode cX4_tell 27 = .ok (.iaload, 1) := by decide +kernel
theorem dX4_tell_28 : decode cX4_tell 28 = .ok (.iload_n 1, 1) := by decide +kernel
theorem dX4_tell_29 : decode cX4_tell 29 = .ok (.if_icmp .le 57, 3) := by decide +kernel
theorem dX4_tell_32 : decode cX4_tell 32 = .ok (.aload_n 0, 1) := by decide +kernel
theorem dX4_tell_33 : decode cX4_tell 33 = .ok (.getfield 9, 3) := by decide +kernel
theorem dX4_tell_36 : decode cX4_tell 36 = .ok (.iload 4, 2) := by decide +kernel
theorem dX4_tell_38 : decode cX4_tell 38 = .ok (.aload_n 0, 1) := by decide +kernel
theorem dX4_tell_39 : decode cX4_tell 39 = .ok (.getfield 9, 3) := by decide +kernel
theorem dX4_tell_42 : decode cX4_tell 42 = .ok (.iload 4, 2) := by decide +kernel
theorem dX4_tell_44 : decode cX4_tell 44 = .ok (.iconst 1, 1) := by decide +kernel
theorem dX4_tell_45 : decode cX4_tell 45 = .ok (.isub, 1) := by decide +kernel
theorem dX4_tell_46 : decode cX4_tell 46 = .ok (.iaload, 1) := by decide +kernel
theorem dX4_tell_47 : decode cX4_tell 47 = .ok (.iastore, 1) := by decide +kernel
theorem dX4_tell_48 : decode cX4_tell 48 = .ok (.aload_n 0, 1) := by decide +kernel
theorem dX4_tell_49 : decode cX4_tell 49 = .ok (.getfield 15, 3) := by decide +kernel
theorem dX4_tell_52 : decode cX4_tell 52 = .ok (.iload 4, 2) := by decide +kernel
theorem dX4_tell_54 : decode cX4_tell 54 = .ok (.aload_n 0, 1) := by decide +kernel
theorem dX4_tell_55 : decode cX4_tell 55 = .ok (.getfield 15, 3) := by decide +kernel
theorem dX4_tell_58 : decode cX4_tell 58 = .ok (.iload 4, 2) := by decide +kernel
theorem dX4_tell_60 : decode cX4_tell 60 = .ok (.iconst 1, 1) := by decide +kernel
theorem dX4_tell_61 : decode cX4_tell 61 = .ok (.isub, 1) := by decide +kernel
theorem dX4_tell_62 : decode cX4_tell 62 = .ok (.iaload, 1) := by decide +kernel
theorem dX4_tell_63 : decode cX4_tell 63 = .ok (.iastore, 1) := by decide +kernel
theorem dX4_tell_64 : decode cX4_tell 64 = .ok (.aload_n 0, 1) := by decide +kernel
theorem dX4_tell_65 : decode cX4_tell 65 = .ok (.getfield 18, 3) := by decide +kernel
theorem dX4_tell_68 : decode cX4_tell 68 = .ok (.iload 4, 2) := by decide +kernel
theorem dX4_tell_70 : decode cX4_tell 70 = .ok (.aload_n 0, 1) := by decide +kernel
theorem dX4_tell_71 : decode cX4_tell 71 = .ok (.getfield 18, 3) := by decide +kernel
theorem dX4_tell_74 : decode cX4_tell 74 = .ok (.iload 4, 2) := by decide +kernel
theorem dX4_tell_76 : decode cX4_tell 76 = .ok (.iconst 1, 1) := by decide +kernel
theorem dX4_tell_77 : decode cX4_tell 77 = .ok (.isub, 1) := by decide +kernel
theorem dX4_tell_78 : decode cX4_tell 78 = .ok (.iaload, 1) := by decide +kernel
theorem dX4_tell_79 : decode cX4_tell 79 = .ok (.iastore, 1) := by decide +kernel
theorem dX4_tell_80 : decode cX4_tell 80 = .ok (.iinc 4 (-1), 3) := by decide +kernel
theorem dX4_tell_83 : decode cX4_tell 83 = .ok (.goto (-69), 3) := by decide +kernel
theorem dX4_tell_86 : decode cX4_tell 86 = .ok (.aload_n 0, 1) := by decide +kernel
theorem dX4_tell_87 : decode cX4_tell 87 = .ok (.getfield 9, 3) := by decide +kernel
theorem dX4_tell_90 : decode cX4_tell 90 = .ok (.iload 4, 2) := by decide +kernel
theorem dX4_tell_92 : decode cX4_tell 92 = .ok (.iload_n 1, 1) := by decide +kernel
theorem dX4_tell_93 : decode cX4_tell 93 = .ok (.iastore, 1) := by decide +kernel
theorem dX4_tell_94 : decode cX4_tell 94 = .ok (.aload_n 0, 1) := by decide +kernel
theorem dX4_tell_95 : decode cX4_tell 95 = .ok (.getfield 15, 3) := by decide +kernel
theorem dX4_tell_98 : decode cX4_tell 98 = .ok (.iload 4, 2) := by decide +kernel
theorem dX4_tell_100 : decode cX4_tell 100 = .ok (.iload_n 2, 1) := by decide +kernel
theorem dX4_tell_101 : decode cX4_tell 101 = .ok (.iastore, 1) := by decide +kernel
theorem dX4_tell_102 : decode cX4_tell 102 = .ok (.aload_n 0, 1) := by decide +kernel
theorem dX4_tell_103 : decode cX4_tell 103 = .ok (.getfield 18, 3) := by decide +kernel
theorem dX4_tell_106 : decode cX4_tell 106 = .ok (.iload 4, 2) := by decide +kernel
theorem dX4_tell_108 : decode cX4_tell 108 = .ok (.iload_n 3, 1) := by decide +kernel
theorem dX4_tell_109 : decode cX4_tell 109 = .ok (.iastore, 1) := by decide +kernel
theorem dX4_tell_110 : decode cX4_tell 110 = .ok (.aload_n 0, 1) := by decide +kernel
theorem dX4_tell_111 : decode cX4_tell 111 = .ok (.dup, 1) := by decide +kernel
theorem dX4_tell_112 : decode cX4_tell 112 = .ok (.getfield 24, 3) := by decide +kernel
theorem dX4_tell_115 : decode cX4_tell 115 = .ok (.iconst 1, 1) := by decide +kernel
theorem dX4_tell_116 : decode cX4_tell 116 = .ok (.iadd, 1) := by decide +kernel
theorem dX4_tell_117 : decode cX4_tell 117 = .ok (.putfield 24, 3) := by decide +kernel
theorem dX4_tell_120 : decode cX4_tell 120 = .ok (.aload_n 0, 1) := by decide +kernel
theorem dX4_tell_121 : decode cX4_tell 121 = .ok (.invokevirtual 35, 3) := by decide +kernel
theorem dX4_tell_124 : decode cX4_tell 124 = .ok (.return_, 1) := by decide +kernel
theorem dX4_liveAgain_0 : decode cX4_liveAgain 0 = .ok (.bipush 10, 2) := by decide +kernel
theorem dX4_liveAgain_2 : decode cX4_liveAgain 2 = .ok (.istore_n 1, 1) := by decide +kernel
theorem dX4_liveAgain_3 : decode cX4_liveAgain 3 = .ok (.aload_n 0, 1) := by decide +kernel
theorem dX4_liveAgain_4 : decode cX4_liveAgain 4 = .ok (.iconst 0, 1) := by decide +kernel
theorem dX4_liveAgain_5 : decode cX4_liveAgain 5 = .ok (.putfield 28, 3) := by decide +kernel
theorem dX4_liveAgain_8 : decode cX4_liveAgain 8 = .ok (.iconst 0, 1) := by decide +kernel
theorem dX4_liveAgain_9 : decode cX4_liveAgain 9 = .ok (.istore_n 2, 1) := by decide +kernel
theorem dX4_liveAgain_10 : decode cX4_liveAgain 10 = .ok (.iload_n 2, 1) := by decide +kernel
theorem dX4_liveAgain_11 : decode cX4_liveAgain 11 = .ok (.aload_n 0, 1) := by decide +kernel
theorem dX4_liveAgain_12 : decode cX4_liveAgain 12 = .ok (.getfield 24, 3) := by decide +kernel
theorem dX4_liveAgain_15 : decode cX4_liveAgain 15 = .ok (.if_icmp .ge 64, 3) := by decide +kernel
theorem dX4_liveAgain_18 : decode cX4_liveAgain 18 = .ok (.iload_n 1, 1) := by decide +kernel
theorem dX4_liveAgain_19 : decode cX4_liveAgain 19 = .ok (.aload_n 0, 1) := by decide +kernel
theorem dX4_liveAgain_20 : decode cX4_liveAgain 20 = .ok (.getfield 15, 3) := by decide +kernel
theorem dX4_liveAgain_23 : decode cX4_liveAgain 23 = .ok (.iload_n 2, 1) := by decide +kernel
theorem dX4_liveAgain_24 : decode cX4_liveAgain 24 = .ok (.iaload, 1) := by decide +kernel
theorem dX4_liveAgain_25 : decode cX4_liveAgain 25 = .ok (.aload_n 0, 1) := by decide +kernel
theorem dX4_liveAgain_26 : decode cX4_liveAgain 26 = .ok (.getfield 18, 3) := by decide +kernel
theorem dX4_liveAgain_29 : decode cX4_liveAgain 29 = .ok (.iload_n 2, 1) := by decide +kernel
theorem dX4_liveAgain_30 : decode cX4_liveAgain 30 = .ok (.iaload, 1) := by decide +kernel
theorem dX4_liveAgain_31 : decode cX4_liveAgain 31 = .ok (.invokestatic 38, 3) := by decide +kernel
theorem dX4_liveAgain_34 : decode cX4_liveAgain 34 = .ok (.ifCond .eq 22, 3) := by decide +kernel
theorem dX4_liveAgain_37 : decode cX4_liveAgain 37 = .ok (.aload_n 0, 1) := by decide +kernel
theorem dX4_liveAgain_38 : decode cX4_liveAgain 38 = .ok (.getfield 15, 3) := by decide +kernel
theorem dX4_liveAgain_41 : decode cX4_liveAgain 41 = .ok (.iload_n 2, 1) := by decide +kernel
theorem dX4_liveAgain_42 : decode cX4_liveAgain 42 = .ok (.iaload, 1) := by decide +kernel
theorem dX4_liveAgain_43 : decode cX4_liveAgain 43 = .ok (.aload_n 0, 1) := by decide +kernel
theorem dX4_liveAgain_44 : decode cX4_liveAgain 44 = .ok (.getfield 18, 3) := by decide +kernel
theorem dX4_liveAgain_47 : decode cX4_liveAgain 47 = .ok (.iload_n 2, 1) := by decide +kernel
theorem dX4_liveAgain_48 : decode cX4_liveAgain 48 = .ok (.iaload, 1) := by decide +kernel
theorem dX4_liveAgain_49 : decode cX4_liveAgain 49 = .ok (.invokestatic 42, 3) := by decide +kernel
theorem dX4_liveAgain_52 : decode cX4_liveAgain 52 = .ok (.istore_n 1, 1) := by decide +kernel
theorem dX4_liveAgain_53 : decode cX4_liveAgain 53 = .ok (.goto 13, 3) := by decide +kernel
theorem dX4_liveAgain_56 : decode cX4_liveAgain 56 = .ok (.aload_n 0, 1) := by decide +kernel
theorem dX4_liveAgain_57 : decode cX4_liveAgain 57 = .ok (.dup, 1) := by decide +kernel
theorem dX4_liveAgain_58 : decode cX4_liveAgain 58 = .ok (.getfield 28, 3) := by decide +kernel
theorem dX4_liveAgain_61 : decode cX4_liveAgain 61 = .ok (.iconst 1, 1) := by decide +kernel
theorem dX4_liveAgain_62 : decode cX4_liveAgain 62 = .ok (.iadd, 1) := by decide +kernel
theorem dX4_liveAgain_63 : decode cX4_liveAgain 63 = .ok (.putfield 28, 3) := by decide +kernel
theorem dX4_liveAgain_66 : decode cX4_liveAgain 66 = .ok (.aload_n 0, 1) := by decide +kernel
theorem dX4_liveAgain_67 : decode cX4_liveAgain 67 = .ok (.getfield 21, 3) := by decide +kernel
theorem dX4_liveAgain_70 : decode cX4_liveAgain 70 = .ok (.iload_n 2, 1) := by decide +kernel
theorem dX4_liveAgain_71 : decode cX4_liveAgain 71 = .ok (.iload_n 1, 1) := by decide +kernel
theorem dX4_liveAgain_72 : decode cX4_liveAgain 72 = .ok (.iastore, 1) := by decide +kernel
theorem dX4_liveAgain_73 : decode cX4_liveAgain 73 = .ok (.iinc 2 1, 3) := by decide +kernel
theorem dX4_liveAgain_76 : decode cX4_liveAgain 76 = .ok (.goto (-66), 3) := by decide +kernel
theorem dX4_liveAgain_79 : decode cX4_liveAgain 79 = .ok (.return_, 1) := by decide +kernel
theorem dX4_fits_0 : decode cX4_fits 0 = .ok (.iload_n 1, 1) := by decide +kernel
theorem dX4_fits_1 : decode cX4_fits 1 = .ok (.lookupswitch 63 #[(0, 27), (3, 45)], 27) := by decide +kernel
theorem dX4_fits_28 : decode cX4_fits 28 = .ok (.iload_n 0, 1) := by decide +kernel
theorem dX4_fits_29 : decode cX4_fits 29 = .ok (.bipush 10, 2) := by decide +kernel
theorem dX4_fits_31 : decode cX4_fits 31 = .ok (.if_icmp .eq 9, 3) := by decide +kernel
theorem dX4_fits_34 : decode cX4_fits 34 = .ok (.iload_n 0, 1) := by decide +kernel
theorem dX4_fits_35 : decode cX4_fits 35 = .ok (.bipush 11, 2) := by decide +kernel
theorem dX4_fits_37 : decode cX4_fits 37 = .ok (.if_icmp .ne 7, 3) := by decide +kernel
theorem dX4_fits_40 : decode cX4_fits 40 = .ok (.iconst 1, 1) := by decide +kernel
theorem dX4_fits_41 : decode cX4_fits 41 = .ok (.goto 4, 3) := by decide +kernel
theorem dX4_fits_44 : decode cX4_fits 44 = .ok (.iconst 0, 1) := by decide +kernel
theorem dX4_fits_45 : decode cX4_fits 45 = .ok (.ireturn, 1) := by decide +kernel
theorem dX4_fits_46 : decode cX4_fits 46 = .ok (.iload_n 0, 1) := by decide +kernel
theorem dX4_fits_47 : decode cX4_fits 47 = .ok (.bipush 10, 2) := by decide +kernel
theorem dX4_fits_49 : decode cX4_fits 49 = .ok (.if_icmp .eq 9, 3) := by decide +kernel
theorem dX4_fits_52 : decode cX4_fits 52 = .ok (.iload_n 0, 1) := by decide +kernel
theorem dX4_fits_53 : decode cX4_fits 53 = .ok (.bipush 12, 2) := by decide +kernel
theorem dX4_fits_55 : decode cX4_fits 55 = .ok (.if_icmp .ne 7, 3) := by decide +kernel
theorem dX4_fits_58 : decode cX4_fits 58 = .ok (.iconst 1, 1) := by decide +kernel
theorem dX4_fits_59 : decode cX4_fits 59 = .ok (.goto 4, 3) := by decide +kernel
theorem dX4_fits_62 : decode cX4_fits 62 = .ok (.iconst 0, 1) := by decide +kernel
theorem dX4_fits_63 : decode cX4_fits 63 = .ok (.ireturn, 1) := by decide +kernel
theorem dX4_fits_64 : decode cX4_fits 64 = .ok (.iload_n 0, 1) := by decide +kernel
theorem dX4_fits_65 : decode cX4_fits 65 = .ok (.iload_n 2, 1) := by decide +kernel
theorem dX4_fits_66 : decode cX4_fits 66 = .ok (.if_icmp .ne 7, 3) := by decide +kernel
theorem dX4_fits_69 : decode cX4_fits 69 = .ok (.iconst 1, 1) := by decide +kernel
theorem dX4_fits_70 : decode cX4_fits 70 = .ok (.goto 4, 3) := by decide +kernel
theorem dX4_fits_73 : decode cX4_fits 73 = .ok (.iconst 0, 1) := by decide +kernel
theorem dX4_fits_74 : decode cX4_fits 74 = .ok (.ireturn, 1) := by decide +kernel
theorem dX4_placeAfter_0 : decode cX4_placeAfter 0 = .ok (.iload_n 0, 1) := by decide +kernel
theorem dX4_placeAfter_1 : decode cX4_placeAfter 1 = .ok (.lookupswitch 33 #[(1, 27), (2, 30)], 27) := by decide +kernel
theorem dX4_placeAfter_28 : decode cX4_placeAfter 28 = .ok (.bipush 11, 2) := by decide +kernel
theorem dX4_placeAfter_30 : decode cX4_placeAfter 30 = .ok (.ireturn, 1) := by decide +kernel
theorem dX4_placeAfter_31 : decode cX4_placeAfter 31 = .ok (.bipush 12, 2) := by decide +kernel
theorem dX4_placeAfter_33 : decode cX4_placeAfter 33 = .ok (.ireturn, 1) := by decide +kernel
theorem dX4_placeAfter_34 : decode cX4_placeAfter 34 = .ok (.iload_n 1, 1) := by decide +kernel
theorem dX4_placeAfter_35 : decode cX4_placeAfter 35 = .ok (.ireturn, 1) := by decide +kernel
theorem dX4_placeOn_0 : decode cX4_placeOn 0 = .ok (.bipush 10, 2) := by decide +kernel
theorem dX4_placeOn_2 : decode cX4_placeOn 2 = .ok (.istore_n 2, 1) := by decide +kernel
theorem dX4_placeOn_3 : decode cX4_placeOn 3 = .ok (.iconst 0, 1) := by decide +kernel
theorem dX4_placeOn_4 : decode cX4_placeOn 4 = .ok (.istore_n 3, 1) := by decide +kernel
theorem dX4_placeOn_5 : decode cX4_placeOn 5 = .ok (.iload_n 3, 1) := by decide +kernel
theorem dX4_placeOn_6 : decode cX4_placeOn 6 = .ok (.aload_n 0, 1) := by decide +kernel
theorem dX4_placeOn_7 : decode cX4_placeOn 7 = .ok (.getfield 24, 3) := by decide +kernel
theorem dX4_placeOn_10 : decode cX4_placeOn 10 = .ok (.if_icmp .ge 26, 3) := by decide +kernel
theorem dX4_placeOn_13 : decode cX4_placeOn 13 = .ok (.aload_n 0, 1) := by decide +kernel
theorem dX4_placeOn_14 : decode cX4_placeOn 14 = .ok (.getfield 9, 3) := by decide +kernel
theorem dX4_placeOn_17 : decode cX4_placeOn 17 = .ok (.iload_n 3, 1) := by decide +kernel
theorem dX4_placeOn_18 : decode cX4_placeOn 18 = .ok (.iaload, 1) := by decide +kernel
theorem dX4_placeOn_19 : decode cX4_placeOn 19 = .ok (.iload_n 1, 1) := by decide +kernel
theorem dX4_placeOn_20 : decode cX4_placeOn 20 = .ok (.if_icmp .gt 16, 3) := by decide +kernel
theorem dX4_placeOn_23 : decode cX4_placeOn 23 = .ok (.aload_n 0, 1) := by decide +kernel
theorem dX4_placeOn_24 : decode cX4_placeOn 24 = .ok (.getfield 21, 3) := by decide +kernel
theorem dX4_placeOn_27 : decode cX4_placeOn 27 = .ok (.iload_n 3, 1) := by decide +kernel
theorem dX4_placeOn_28 : decode cX4_placeOn 28 = .ok (.iaload, 1) := by decide +kernel
theorem dX4_placeOn_29 : decode cX4_placeOn 29 = .ok (.istore_n 2, 1) := by decide +kernel
theorem dX4_placeOn_30 : decode cX4_placeOn 30 = .ok (.iinc 3 1, 3) := by decide +kernel
theorem dX4_placeOn_33 : decode cX4_placeOn 33 = .ok (.goto (-28), 3) := by decide +kernel
theorem dX4_placeOn_36 : decode cX4_placeOn 36 = .ok (.iload_n 2, 1) := by decide +kernel
theorem dX4_placeOn_37 : decode cX4_placeOn 37 = .ok (.ireturn, 1) := by decide +kernel
theorem dX4_daysAt_0 : decode cX4_daysAt 0 = .ok (.iconst 0, 1) := by decide +kernel
theorem dX4_daysAt_1 : decode cX4_daysAt 1 = .ok (.istore 4, 2) := by decide +kernel
theorem dX4_daysAt_3 : decode cX4_daysAt 3 = .ok (.iconst 0, 1) := by decide +kernel
theorem dX4_daysAt_4 : decode cX4_daysAt 4 = .ok (.istore 5, 2) := by decide +kernel
theorem dX4_daysAt_6 : decode cX4_daysAt 6 = .ok (.bipush 10, 2) := by decide +kernel
theorem dX4_daysAt_8 : decode cX4_daysAt 8 = .ok (.istore 6, 2) := by decide +kernel
theorem dX4_daysAt_10 : decode cX4_daysAt 10 = .ok (.iload_n 2, 1) := by decide +kernel
theorem dX4_daysAt_11 : decode cX4_daysAt 11 = .ok (.istore 7, 2) := by decide +kernel
theorem dX4_daysAt_13 : decode cX4_daysAt 13 = .ok (.iload 7, 2) := by decide +kernel
theorem dX4_daysAt_15 : decode cX4_daysAt 15 = .ok (.iload_n 3, 1) := by decide +kernel
theorem dX4_daysAt_16 : decode cX4_daysAt 16 = .ok (.if_icmp .gt 54, 3) := by decide +kernel
theorem dX4_daysAt_19 : decode cX4_daysAt 19 = .ok (.iload 5, 2) := by decide +kernel
theorem dX4_daysAt_21 : decode cX4_daysAt 21 = .ok (.aload_n 0, 1) := by decide +kernel
theorem dX4_daysAt_22 : decode cX4_daysAt 22 = .ok (.getfield 24, 3) := by decide +kernel
theorem dX4_daysAt_25 : decode cX4_daysAt 25 = .ok (.if_icmp .ge 30, 3) := by decide +kernel
theorem dX4_daysAt_28 : decode cX4_daysAt 28 = .ok (.aload_n 0, 1) := by decide +kernel
theorem dX4_daysAt_29 : decode cX4_daysAt 29 = .ok (.getfield 9, 3) := by decide +kernel
theorem dX4_daysAt_32 : decode cX4_daysAt 32 = .ok (.iload 5, 2) := by decide +kernel
theorem dX4_daysAt_34 : decode cX4_daysAt 34 = .ok (.iaload, 1) := by decide +kernel
theorem dX4_daysAt_35 : decode cX4_daysAt 35 = .ok (.iload 7, 2) := by decide +kernel
theorem dX4_daysAt_37 : decode cX4_daysAt 37 = .ok (.if_icmp .gt 18, 3) := by decide +kernel
theorem dX4_daysAt_40 : decode cX4_daysAt 40 = .ok (.aload_n 0, 1) := by decide +kernel
theorem dX4_daysAt_41 : decode cX4_daysAt 41 = .ok (.getfield 21, 3) := by decide +kernel
theorem dX4_daysAt_44 : decode cX4_daysAt 44 = .ok (.iload 5, 2) := by decide +kernel
theorem dX4_daysAt_46 : decode cX4_daysAt 46 = .ok (.iaload, 1) := by decide +kernel
theorem dX4_daysAt_47 : decode cX4_daysAt 47 = .ok (.istore 6, 2) := by decide +kernel
theorem dX4_daysAt_49 : decode cX4_daysAt 49 = .ok (.iinc 5 1, 3) := by decide +kernel
theorem dX4_daysAt_52 : decode cX4_daysAt 52 = .ok (.goto (-33), 3) := by decide +kernel
theorem dX4_daysAt_55 : decode cX4_daysAt 55 = .ok (.iload 6, 2) := by decide +kernel
theorem dX4_daysAt_57 : decode cX4_daysAt 57 = .ok (.iload_n 1, 1) := by decide +kernel
theorem dX4_daysAt_58 : decode cX4_daysAt 58 = .ok (.if_icmp .ne 6, 3) := by decide +kernel
theorem dX4_daysAt_61 : decode cX4_daysAt 61 = .ok (.iinc 4 1, 3) := by decide +kernel
theorem dX4_daysAt_64 : decode cX4_daysAt 64 = .ok (.iinc 7 1, 3) := by decide +kernel
theorem dX4_daysAt_67 : decode cX4_daysAt 67 = .ok (.goto (-54), 3) := by decide +kernel
theorem dX4_daysAt_70 : decode cX4_daysAt 70 = .ok (.iload 4, 2) := by decide +kernel
theorem dX4_daysAt_72 : decode cX4_daysAt 72 = .ok (.ireturn, 1) := by decide +kernel
theorem dX5_init_0 : decode cX5_init 0 = .ok (.aload_n 0, 1) := by decide +kernel
theorem dX5_init_1 : decode cX5_init 1 = .ok (.invokespecial 3, 3) := by decide +kernel
theorem dX5_init_4 : decode cX5_init 4 = .ok (.aload_n 0, 1) := by decide +kernel
theorem dX5_init_5 : decode cX5_init 5 = .ok (.iconst 5, 1) := by decide +kernel
theorem dX5_init_6 : decode cX5_init 6 = .ok (.newarray .int, 2) := by decide +kernel
theorem dX5_init_8 : decode cX5_init 8 = .ok (.putfield 9, 3) := by decide +kernel
theorem dX5_init_11 : decode cX5_init 11 = .ok (.aload_n 0, 1) := by decide +kernel
theorem dX5_init_12 : decode cX5_init 12 = .ok (.bipush 40, 2) := by decide +kernel
theorem dX5_init_14 : decode cX5_init 14 = .ok (.newarray .int, 2) := by decide +kernel
theorem dX5_init_16 : decode cX5_init 16 = .ok (.putfield 15, 3) := by decide +kernel
theorem dX5_init_19 : decode cX5_init 19 = .ok (.aload_n 0, 1) := by decide +kernel
theorem dX5_init_20 : decode cX5_init 20 = .ok (.bipush 40, 2) := by decide +kernel
theorem dX5_init_22 : decode cX5_init 22 = .ok (.newarray .int, 2) := by decide +kernel
theorem dX5_init_24 : decode cX5_init 24 = .ok (.putfield 18, 3) := by decide +kernel
theorem dX5_init_27 : decode cX5_init 27 = .ok (.aload_n 0, 1) := by decide +kernel
theorem dX5_init_28 : decode cX5_init 28 = .ok (.bipush 40, 2) := by decide +kernel
theorem dX5_init_30 : decode cX5_init 30 = .ok (.newarray .boolean, 2) := by decide +kernel
theorem dX5_init_32 : decode cX5_init 32 = .ok (.putfield 21, 3) := by decide +kernel
theorem dX5_init_35 : decode cX5_init 35 = .ok (.aload_n 0, 1) := by decide +kernel
theorem dX5_init_36 : decode cX5_init 36 = .ok (.iconst 5, 1) := by decide +kernel
theorem dX5_init_37 : decode cX5_init 37 = .ok (.newarray .int, 2) := by decide +kernel
theorem dX5_init_39 : decode cX5_init 39 = .ok (.putfield 25, 3) := by decide +kernel
theorem dX5_init_42 : decode cX5_init 42 = .ok (.aload_n 0, 1) := by decide +kernel
theorem dX5_init_43 : decode cX5_init 43 = .ok (.iconst 5, 1) := by decide +kernel
theorem dX5_init_44 : decode cX5_init 44 = .ok (.newarray .int, 2) := by decide +kernel
theorem dX5_init_46 : decode cX5_init 46 = .ok (.putfield 28, 3) := by decide +kernel
theorem dX5_init_49 : decode cX5_init 49 = .ok (.aload_n 0, 1) := by decide +kernel
theorem dX5_init_50 : decode cX5_init 50 = .ok (.bipush 6, 2) := by decide +kernel
theorem dX5_init_52 : decode cX5_init 52 = .ok (.newarray .int, 2) := by decide +kernel
theorem dX5_init_54 : decode cX5_init 54 = .ok (.putfield 31, 3) := by decide +kernel
theorem dX5_init_57 : decode cX5_init 57 = .ok (.aload_n 0, 1) := by decide +kernel
theorem dX5_init_58 : decode cX5_init 58 = .ok (.iconst 0, 1) := by decide +kernel
theorem dX5_init_59 : decode cX5_init 59 = .ok (.putfield 34, 3) := by decide +kernel
theorem dX5_init_62 : decode cX5_init 62 = .ok (.aload_n 0, 1) := by decide +kernel
theorem dX5_init_63 : decode cX5_init 63 = .ok (.iconst 0, 1) := by decide +kernel
theorem dX5_init_64 : decode cX5_init 64 = .ok (.putfield 38, 3) := by decide +kernel
theorem dX5_init_67 : decode cX5_init 67 = .ok (.aload_n 0, 1) := by decide +kernel
theorem dX5_init_68 : decode cX5_init 68 = .ok (.iconst 0, 1) := by decide +kernel
theorem dX5_init_69 : decode cX5_init 69 = .ok (.putfield 41, 3) := by decide +kernel
theorem dX5_init_72 : decode cX5_init 72 = .ok (.aload_n 0, 1) := by decide +kernel
theorem dX5_init_73 : decode cX5_init 73 = .ok (.iconst 0, 1) := by decide +kernel
theorem dX5_init_74 : decode cX5_init 74 = .ok (.putfield 44, 3) := by decide +kernel
theorem dX5_init_77 : decode cX5_init 77 = .ok (.return_, 1) := by decide +kernel
theorem dX5_clear_0 : decode cX5_clear 0 = .ok (.aload_n 0, 1) := by decide +kernel
theorem dX5_clear_1 : decode cX5_clear 1 = .ok (.iconst 0, 1) := by decide +kernel
theorem dX5_clear_2 : decode cX5_clear 2 = .ok (.putfield 34, 3) := by decide +kernel
theorem dX5_clear_5 : decode cX5_clear 5 = .ok (.aload_n 0, 1) := by decide +kernel
theorem dX5_clear_6 : decode cX5_clear 6 = .ok (.iconst 0, 1) := by decide +kernel
theorem dX5_clear_7 : decode cX5_clear 7 = .ok (.putfield 38, 3) := by decide +kernel
theorem dX5_clear_10 : decode cX5_clear 10 = .ok (.aload_n 0, 1) := by decide +kernel
theorem dX5_clear_11 : decode cX5_clear 11 = .ok (.iconst 0, 1) := by decide +kernel
theorem dX5_clear_12 : decode cX5_clear 12 = .ok (.putfield 41, 3) := by decide +kernel
theorem dX5_clear_15 : decode cX5_clear 15 = .ok (.aload_n 0, 1) := by decide +kernel
theorem dX5_clear_16 : decode cX5_clear 16 = .ok (.iconst 0, 1) := by decide +kernel
theorem dX5_clear_17 : decode cX5_clear 17 = .ok (.putfield 44, 3) := by decide +kernel
theorem dX5_clear_20 : decode cX5_clear 20 = .ok (.return_, 1) := by decide +kernel
theorem dX5_lack_0 : decode cX5_lack 0 = .ok (.iload_n 1, 1) := by decide +kernel
theorem dX5_lack_1 : decode cX5_lack 1 = .ok (.invokestatic 47, 3) := by decide +kernel
theorem dX5_lack_4 : decode cX5_lack 4 = .ok (.ifCond .eq 7, 3) := by decide +kernel
theorem dX5_lack_7 : decode cX5_lack 7 = .ok (.iload_n 2, 1) := by decide +kernel
theorem dX5_lack_8 : decode cX5_lack 8 = .ok (.ifCond .gt 4, 3) := by decide +kernel
theorem dX5_lack_11 : decode cX5_lack 11 = .ok (.return_, 1) := by decide +kernel
theorem dX5_lack_12 : decode cX5_lack 12 = .ok (.aload_n 0, 1) := by decide +kernel
theorem dX5_lack_13 : decode cX5_lack 13 = .ok (.dup, 1) := by decide +kernel
theorem dX5_lack_14 : decode cX5_lack 14 = .ok (.getfield 34, 3) := by decide +kernel
theorem dX5_lack_17 : decode cX5_lack 17 = .ok (.iconst 1, 1) := by decide +kernel
theorem dX5_lack_18 : decode cX5_lack 18 = .ok (.iload_n 1, 1) := by decide +kernel
theorem dX5_lack_19 : decode cX5_lack 19 = .ok (.ishl, 1) := by decide +kernel
theorem dX5_lack_20 : decode cX5_lack 20 = .ok (.ior, 1) := by decide +kernel
theorem dX5_lack_21 : decode cX5_lack 21 = .ok (.putfield 34, 3) := by decide +kernel
theorem dX5_lack_24 : decode cX5_lack 24 = .ok (.aload_n 0, 1) := by decide +kernel
theorem dX5_lack_25 : decode cX5_lack 25 = .ok (.getfield 38, 3) := by decide +kernel
theorem dX5_lack_28 : decode cX5_lack 28 = .ok (.istore_n 3, 1) := by decide +kernel
theorem dX5_lack_29 : decode cX5_lack 29 = .ok (.iload_n 3, 1) := by decide +kernel
theorem dX5_lack_30 : decode cX5_lack 30 = .ok (.aload_n 0, 1) := by decide +kernel
theorem dX5_lack_31 : decode cX5_lack 31 = .ok (.getfield 38, 3) := by decide +kernel
theorem dX5_lack_34 : decode cX5_lack 34 = .ok (.iload_n 2, 1) := by decide +kernel
theorem dX5_lack_35 : decode cX5_lack 35 = .ok (.iadd, 1) := by decide +kernel
theorem dX5_lack_36 : decode cX5_lack 36 = .ok (.if_icmp .ge 25, 3) := by decide +kernel
theorem dX5_lack_39 : decode cX5_lack 39 = .ok (.iload_n 3, 1) := by decide +kernel
theorem dX5_lack_40 : decode cX5_lack 40 = .ok (.aload_n 0, 1) := by decide +kernel
theorem dX5_lack_41 : decode cX5_lack 41 = .ok (.getfield 9, 3) := by decide +kernel
theorem dX5_lack_44 : decode cX5_lack 44 = .ok (.arraylength, 1) := by decide +kernel
theorem dX5_lack_45 : decode cX5_lack 45 = .ok (.if_icmp .ge 16, 3) := by decide +kernel
theorem dX5_lack_48 : decode cX5_lack 48 = .ok (.aload_n 0, 1) := by decide +kernel
theorem dX5_lack_49 : decode cX5_lack 49 = .ok (.getfield 9, 3) := by decide +kernel
theorem dX5_lack_52 : decode cX5_lack 52 = .ok (.iload_n 3, 1) := by decide +kernel
theorem dX5_lack_53 : decode cX5_lack 53 = .ok (.iload_n 1, 1) := by decide +kernel
theorem dX5_lack_54 : decode cX5_lack 54 = .ok (.iastore, 1) := by decide +kernel
theorem dX5_lack_55 : decode cX5_lack 55 = .ok (.iinc 3 1, 3) := by decide +kernel
theorem dX5_lack_58 : decode cX5_lack 58 = .ok (.goto (-29), 3) := by decide +kernel
theorem dX5_lack_61 : decode cX5_lack 61 = .ok (.aload_n 0, 1) := by decide +kernel
theorem dX5_lack_62 : decode cX5_lack 62 = .ok (.dup, 1) := by decide +kernel
theorem dX5_lack_63 : decode cX5_lack 63 = .ok (.getfield 38, 3) := by decide +kernel
theorem dX5_lack_66 : decode cX5_lack 66 = .ok (.iload_n 2, 1) := by decide +kernel
theorem dX5_lack_67 : decode cX5_lack 67 = .ok (.iadd, 1) := by decide +kernel
theorem dX5_lack_68 : decode cX5_lack 68 = .ok (.putfield 38, 3) := by decide +kernel
theorem dX5_lack_71 : decode cX5_lack 71 = .ok (.return_, 1) := by decide +kernel
theorem dX5_offer_0 : decode cX5_offer 0 = .ok (.iload_n 2, 1) := by decide +kernel
theorem dX5_offer_1 : decode cX5_offer 1 = .ok (.invokestatic 47, 3) := by decide +kernel
theorem dX5_offer_4 : decode cX5_offer 4 = .ok (.ifCond .eq 26, 3) := by decide +kernel
theorem dX5_offer_7 : decode cX5_offer 7 = .ok (.aload_n 0, 1) := by decide +kernel
theorem dX5_offer_8 : decode cX5_offer 8 = .ok (.getfield 34, 3) := by decide +kernel
theorem dX5_offer_11 : decode cX5_offer 11 = .ok (.iconst 1, 1) := by decide +kernel
theorem dX5_offer_12 : decode cX5_offer 12 = .ok (.iload_n 2, 1) := by decide +kernel
theorem dX5_offer_13 : decode cX5_offer 13 = .ok (.ishl, 1) := by decide +kernel
theorem dX5_offer_14 : decode cX5_offer 14 = .ok (.iand, 1) := by decide +kernel
theorem dX5_offer_15 : decode cX5_offer 15 = .ok (.ifCond .ne 15, 3) := by decide +kernel
theorem dX5_offer_18 : decode cX5_offer 18 = .ok (.aload_n 0, 1) := by decide +kernel
theorem dX5_offer_19 : decode cX5_offer 19 = .ok (.getfield 41, 3) := by decide +kernel
theorem dX5_offer_22 : decode cX5_offer 22 = .ok (.aload_n 0, 1) := by decide +kernel
theorem dX5_offer_23 : decode cX5_offer 23 = .ok (.getfield 15, 3) := by decide +kernel
theorem dX5_offer_26 : decode cX5_offer 26 = .ok (.arraylength, 1) := by decide +kernel
theorem dX5_offer_27 : decode cX5_offer 27 = .ok (.if_icmp .lt 4, 3) := by decide +kernel
theorem dX5_offer_30 : decode cX5_offer 30 = .ok (.return_, 1) := by decide +kernel
theorem dX5_offer_31 : decode cX5_offer 31 = .ok (.aload_n 0, 1) := by decide +kernel
theorem dX5_offer_32 : decode cX5_offer 32 = .ok (.getfield 15, 3) := by decide +kernel
theorem dX5_offer_35 : decode cX5_offer 35 = .ok (.aload_n 0, 1) := by decide +kernel
theorem dX5_offer_36 : decode cX5_offer 36 = .ok (.getfield 41, 3) := by decide +kernel
theorem dX5_offer_39 : decode cX5_offer 39 = .ok (.iload_n 1, 1) := by decide +kernel
theorem dX5_offer_40 : decode cX5_offer 40 = .ok (.iastore, 1) := by decide +kernel
theorem dX5_offer_41 : decode cX5_offer 41 = .ok (.aload_n 0, 1) := by decide +kernel
theorem dX5_offer_42 : decode cX5_offer 42 = .ok (.getfield 18, 3) := by decide +kernel
theorem dX5_offer_45 : decode cX5_offer 45 = .ok (.aload_n 0, 1) := by decide +kernel
theorem dX5_offer_46 : decode cX5_offer 46 = .ok (.getfield 41, 3) := by decide +kernel
theorem dX5_offer_49 : decode cX5_offer 49 = .ok (.iload_n 2, 1) := by decide +kernel
theorem dX5_offer_50 : decode cX5_offer 50 = .ok (.iastore, 1) := by decide +kernel
theorem dX5_offer_51 : decode cX5_offer 51 = .ok (.aload_n 0, 1) := by decide +kernel
theorem dX5_offer_52 : decode cX5_offer 52 = .ok (.getfield 21, 3) := by decide +kernel
theorem dX5_offer_55 : decode cX5_offer 55 = .ok (.aload_n 0, 1) := by decide +kernel
theorem dX5_offer_56 : decode cX5_offer 56 = .ok (.getfield 41, 3) := by decide +kernel
theorem dX5_offer_59 : decode cX5_offer 59 = .ok (.iconst 0, 1) := by decide +kernel
theorem dX5_offer_60 : decode cX5_offer 60 = .ok (.bastore, 1) := by decide +kernel
theorem dX5_offer_61 : decode cX5_offer 61 = .ok (.aload_n 0, 1) := by decide +kernel
theorem dX5_offer_62 : decode cX5_offer 62 = .ok (.dup, 1) := by decide +kernel
theorem dX5_offer_63 : decode cX5_offer 63 = .ok (.getfield 41, 3) := by decide +kernel
theorem dX5_offer_66 : decode cX5_offer 66 = .ok (.iconst 1, 1) := by decide +kernel
theorem dX5_offer_67 : decode cX5_offer 67 = .ok (.iadd, 1) := by decide +kernel
theorem dX5_offer_68 : decode cX5_offer 68 = .ok (.putfield 41, 3) := by decide +kernel
theorem dX5_offer_71 : decode cX5_offer 71 = .ok (.return_, 1) := by decide +kernel
theorem dX5_work_0 : decode cX5_work 0 = .ok (.aload_n 0, 1) := by decide +kernel
theorem dX5_work_1 : decode cX5_work 1 = .ok (.getfield 38, 3) := by decide +kernel
theorem dX5_work_4 : decode cX5_work 4 = .ok (.aload_n 0, 1) := by decide +kernel
theorem dX5_work_5 : decode cX5_work 5 = .ok (.getfield 9, 3) := by decide +kernel
theorem dX5_work_8 : decode cX5_work 8 = .ok (.arraylength, 1) := by decide +kernel
theorem dX5_work_9 : decode cX5_work 9 = .ok (.if_icmp .le 4, 3) := by decide +kernel
theorem dX5_work_12 : decode cX5_work 12 = .ok (.return_, 1) := by decide +kernel
theorem dX5_work_13 : decode cX5_work 13 = .ok (.aload_n 0, 1) := by decide +kernel
theorem dX5_work_14 : decode cX5_work 14 = .ok (.aload_n 1, 1) := by decide +kernel
theorem dX5_work_15 : decode cX5_work 15 = .ok (.invokevirtual 51, 3) := by decide +kernel
theorem dX5_work_18 : decode cX5_work 18 = .ok (.aload_n 0, 1) := by decide +kernel
theorem dX5_work_19 : decode cX5_work 19 = .ok (.ldc 55, 2) := by decide +kernel
theorem dX5_work_21 : decode cX5_work 21 = .ok (.putfield 44, 3) := by decide +kernel
theorem dX5_work_24 : decode cX5_work 24 = .ok (.aload_n 0, 1) := by decide +kernel
theorem dX5_work_25 : decode cX5_work 25 = .ok (.aload_n 1, 1) := by decide +kernel
theorem dX5_work_26 : decode cX5_work 26 = .ok (.iconst 0, 1) := by decide +kernel
theorem dX5_work_27 : decode cX5_work 27 = .ok (.iconst 0, 1) := by decide +kernel
theorem dX5_work_28 : decode cX5_work 28 = .ok (.iconst 0, 1) := by decide +kernel
theorem dX5_work_29 : decode cX5_work 29 = .ok (.aload_n 0, 1) := by decide +kernel
theorem dX5_work_30 : decode cX5_work 30 = .ok (.getfield 38, 3) := by decide +kernel
theorem dX5_work_33 : decode cX5_work 33 = .ok (.aload_n 0, 1) := by decide +kernel
theorem dX5_work_34 : decode cX5_work 34 = .ok (.getfield 41, 3) := by decide +kernel
theorem dX5_work_37 : decode cX5_work 37 = .ok (.isub, 1) := by decide +kernel
theorem dX5_work_38 : decode cX5_work 38 = .ok (.invokestatic 56, 3) := by decide +kernel
theorem dX5_work_41 : decode cX5_work 41 = .ok (.invokestatic 62, 3) := by decide +kernel
theorem dX5_work_44 : decode cX5_work 44 = .ok (.return_, 1) := by decide +kernel
theorem dX5_boxOf_0 : decode cX5_boxOf 0 = .ok (.iload_n 1, 1) := by decide +kernel
theorem dX5_boxOf_1 : decode cX5_boxOf 1 = .ok (.ifCond .lt 29, 3) := by decide +kernel
theorem dX5_boxOf_4 : decode cX5_boxOf 4 = .ok (.iload_n 1, 1) := by decide +kernel
theorem dX5_boxOf_5 : decode cX5_boxOf 5 = .ok (.aload_n 0, 1) := by decide +kernel
theorem dX5_boxOf_6 : decode cX5_boxOf 6 = .ok (.getfield 38, 3) := by decide +kernel
theorem dX5_boxOf_9 : decode cX5_boxOf 9 = .ok (.if_icmp .ge 21, 3) := by decide +kernel
theorem dX5_boxOf_12 : decode cX5_boxOf 12 = .ok (.iload_n 1, 1) := by decide +kernel
theorem dX5_boxOf_13 : decode cX5_boxOf 13 = .ok (.aload_n 0, 1) := by decide +kernel
theorem dX5_boxOf_14 : decode cX5_boxOf 14 = .ok (.getfield 28, 3) := by decide +kernel
theorem dX5_boxOf_17 : decode cX5_boxOf 17 = .ok (.arraylength, 1) := by decide +kernel
theorem dX5_boxOf_18 : decode cX5_boxOf 18 = .ok (.if_icmp .ge 12, 3) := by decide +kernel
theorem dX5_boxOf_21 : decode cX5_boxOf 21 = .ok (.aload_n 0, 1) := by decide +kernel
theorem dX5_boxOf_22 : decode cX5_boxOf 22 = .ok (.getfield 28, 3) := by decide +kernel
theorem dX5_boxOf_25 : decode cX5_boxOf 25 = .ok (.iload_n 1, 1) := by decide +kernel
theorem dX5_boxOf_26 : decode cX5_boxOf 26 = .ok (.iaload, 1) := by decide +kernel
theorem dX5_boxOf_27 : decode cX5_boxOf 27 = .ok (.goto 4, 3) := by decide +kernel
theorem dX5_boxOf_30 : decode cX5_boxOf 30 = .ok (.iconst (-1), 1) := by decide +kernel
theorem dX5_boxOf_31 : decode cX5_boxOf 31 = .ok (.ireturn, 1) := by decide +kernel
theorem dX5_findLeastFrom_0 : decode cX5_findLeastFrom 0 = .ok (.aload_n 0, 1) := by decide +kernel
theorem dX5_findLeastFrom_1 : decode cX5_findLeastFrom 1 = .ok (.getfield 31, 3) := by decide +kernel
theorem dX5_findLeastFrom_4 : decode cX5_findLeastFrom 4 = .ok (.aload_n 0, 1) := by decide +kernel
theorem dX5_findLeastFrom_5 : decode cX5_findLeastFrom 5 = .ok (.getfield 38, 3) := by decide +kernel
theorem dX5_findLeastFrom_8 : decode cX5_findLeastFrom 8 = .ok (.iconst 0, 1) := by decide +kernel
theorem dX5_findLeastFrom_9 : decode cX5_findLeastFrom 9 = .ok (.iastore, 1) := by decide +kernel
theorem dX5_findLeastFrom_10 : decode cX5_findLeastFrom 10 = .ok (.aload_n 0, 1) := by decide +kernel
theorem dX5_findLeastFrom_11 : decode cX5_findLeastFrom 11 = .ok (.getfield 38, 3) := by decide +kernel
theorem dX5_findLeastFrom_14 : decode cX5_findLeastFrom 14 = .ok (.iconst 1, 1) := by decide +kernel
theorem dX5_findLeastFrom_15 : decode cX5_findLeastFrom 15 = .ok (.isub, 1) := by decide +kernel
theorem dX5_findLeastFrom_16 : decode cX5_findLeastFrom 16 = .ok (.istore_n 2, 1) := by decide +kernel
theorem dX5_findLeastFrom_17 : decode cX5_findLeastFrom 17 = .ok (.iload_n 2, 1) := by decide +kernel
theorem dX5_findLeastFrom_18 : decode cX5_findLeastFrom 18 = .ok (.ifCond .lt 52, 3) := by decide +kernel
theorem dX5_findLeastFrom_21 : decode cX5_findLeastFrom 21 = .ok (.aload_n 0, 1) := by decide +kernel
theorem dX5_findLeastFrom_22 : decode cX5_findLeastFrom 22 = .ok (.getfield 41, 3) := by decide +kernel
theorem dX5_findLeastFrom_25 : decode cX5_findLeastFrom 25 = .ok (.aload_n 0, 1) := by decide +kernel
theorem dX5_findLeastFrom_26 : decode cX5_findLeastFrom 26 = .ok (.getfield 38, 3) := by decide +kernel
theorem dX5_findLeastFrom_29 : decode cX5_findLeastFrom 29 = .ok (.if_icmp .ge 7, 3) := by decide +kernel
theorem dX5_findLeastFrom_32 : decode cX5_findLeastFrom 32 = .ok (.iconst 0, 1) := by decide +kernel
theorem dX5_findLeastFrom_33 : decode cX5_findLeastFrom 33 = .ok (.goto 14, 3) := by decide +kernel
theorem dX5_findLeastFrom_36 : decode cX5_findLeastFrom 36 = .ok (.aload_n 0, 1) := by decide +kernel
theorem dX5_findLeastFrom_37 : decode cX5_findLeastFrom 37 = .ok (.aload_n 1, 1) := by decide +kernel
theorem dX5_findLeastFrom_38 : decode cX5_findLeastFrom 38 = .ok (.aload_n 0, 1) := by decide +kernel
theorem dX5_findLeastFrom_39 : decode cX5_findLeastFrom 39 = .ok (.getfield 9, 3) := by decide +kernel
theorem dX5_findLeastFrom_42 : decode cX5_findLeastFrom 42 = .ok (.iload_n 2, 1) := by decide +kernel
theorem dX5_findLeastFrom_43 : decode cX5_findLeastFrom 43 = .ok (.iaload, 1) := by decide +kernel
theorem dX5_findLeastFrom_44 : decode cX5_findLeastFrom 44 = .ok (.invokevirtual 66, 3) := by decide +kernel
theorem dX5_findLeastFrom_47 : decode cX5_findLeastFrom 47 = .ok (.istore_n 3, 1) := by decide +kernel
theorem dX5_findLeastFrom_48 : decode cX5_findLeastFrom 48 = .ok (.aload_n 0, 1) := by decide +kernel
theorem dX5_findLeastFrom_49 : decode cX5_findLeastFrom 49 = .ok (.getfield 31, 3) := by decide +kernel
theorem dX5_findLeastFrom_52 : decode cX5_findLeastFrom 52 = .ok (.iload_n 2, 1) := by decide +kernel
theorem dX5_findLeastFrom_53 : decode cX5_findLeastFrom 53 = .ok (.aload_n 0, 1) := by decide +kernel
theorem dX5_findLeastFrom_54 : decode cX5_findLeastFrom 54 = .ok (.getfield 31, 3) := by decide +kernel
theorem dX5_findLeastFrom_57 : decode cX5_findLeastFrom 57 = .ok (.iload_n 2, 1) := by decide +kernel
theorem dX5_findLeastFrom_58 : decode cX5_findLeastFrom 58 = .ok (.iconst 1, 1) := by decide +kernel
theorem dX5_findLeastFrom_59 : decode cX5_findLeastFrom 59 = .ok (.iadd, 1) := by decide +kernel
theorem dX5_findLeastFrom_60 : decode cX5_findLeastFrom 60 = .ok (.iaload, 1) := by decide +kernel
theorem dX5_findLeastFrom_61 : decode cX5_findLeastFrom 61 = .ok (.iload_n 3, 1) := by decide +kernel
theorem dX5_findLeastFrom_62 : decode cX5_findLeastFrom 62 = .ok (.iadd, 1) := by decide +kernel
theorem dX5_findLeastFrom_63 : decode cX5_findLeastFrom 63 = .ok (.iastore, 1) := by decide +kernel
theorem dX5_findLeastFrom_64 : decode cX5_findLeastFrom 64 = .ok (.iinc 2 (-1), 3) := by decide +kernel
theorem dX5_findLeastFrom_67 : decode cX5_findLeastFrom 67 = .ok (.goto (-50), 3) := by decide +kernel
theorem dX5_findLeastFrom_70 : decode cX5_findLeastFrom 70 = .ok (.return_, 1) := by decide +kernel
theorem dX5_cheapest_0 : decode cX5_cheapest 0 = .ok (.sipush 9999, 3) := by decide +kernel
theorem dX5_cheapest_3 : decode cX5_cheapest 3 = .ok (.istore_n 3, 1) := by decide +kernel
theorem dX5_cheapest_4 : decode cX5_cheapest 4 = .ok (.iconst 0, 1) := by decide +kernel
theorem dX5_cheapest_5 : decode cX5_cheapest 5 = .ok (.istore 4, 2) := by decide +kernel
theorem dX5_cheapest_7 : decode cX5_cheapest 7 = .ok (.iload 4, 2) := by decide +kernel
theorem dX5_cheapest_9 : decode cX5_cheapest 9 = .ok (.aload_n 0, 1) := by decide +kernel
theorem dX5_cheapest_10 : decode cX5_cheapest 10 = .ok (.getfield 41, 3) := by decide +kernel
theorem dX5_cheapest_13 : decode cX5_cheapest 13 = .ok (.if_icmp .ge 25, 3) := by decide +kernel
theorem dX5_cheapest_16 : decode cX5_cheapest 16 = .ok (.iload_n 3, 1) := by decide +kernel
theorem dX5_cheapest_17 : decode cX5_cheapest 17 = .ok (.aload_n 1, 1) := by decide +kernel
theorem dX5_cheapest_18 : decode cX5_cheapest 18 = .ok (.aload_n 0, 1) := by decide +kernel
theorem dX5_cheapest_19 : decode cX5_cheapest 19 = .ok (.getfield 18, 3) := by decide +kernel
theorem dX5_cheapest_22 : decode cX5_cheapest 22 = .ok (.iload 4, 2) := by decide +kernel
theorem dX5_cheapest_24 : decode cX5_cheapest 24 = .ok (.iaload, 1) := by decide +kernel
theorem dX5_cheapest_25 : decode cX5_cheapest 25 = .ok (.aaload, 1) := by decide +kernel
theorem dX5_cheapest_26 : decode cX5_cheapest 26 = .ok (.iload_n 2, 1) := by decide +kernel
theorem dX5_cheapest_27 : decode cX5_cheapest 27 = .ok (.iaload, 1) := by decide +kernel
theorem dX5_cheapest_28 : decode cX5_cheapest 28 = .ok (.invokestatic 70, 3) := by decide +kernel
theorem dX5_cheapest_31 : decode cX5_cheapest 31 = .ok (.istore_n 3, 1) := by decide +kernel
theorem dX5_cheapest_32 : decode cX5_cheapest 32 = .ok (.iinc 4 1, 3) := by decide +kernel
theorem dX5_cheapest_35 : decode cX5_cheapest 35 = .ok (.goto (-28), 3) := by decide +kernel
theorem dX5_cheapest_38 : decode cX5_cheapest 38 = .ok (.iload_n 3, 1) := by decide +kernel
theorem dX5_cheapest_39 : decode cX5_cheapest 39 = .ok (.ireturn, 1) := by decide +kernel
theorem dX5_tryUnit_0 : decode cX5_tryUnit 0 = .ok (.iload_n 2, 1) := by decide +kernel
theorem dX5_tryUnit_1 : decode cX5_tryUnit 1 = .ok (.aload_n 0, 1) := by decide +kernel
theorem dX5_tryUnit_2 : decode cX5_tryUnit 2 = .ok (.getfield 38, 3) := by decide +kernel
theorem dX5_tryUnit_5 : decode cX5_tryUnit 5 = .ok (.if_icmp .gt 23, 3) := by decide +kernel
theorem dX5_tryUnit_8 : decode cX5_tryUnit 8 = .ok (.iload_n 2, 1) := by decide +kernel
theorem dX5_tryUnit_9 : decode cX5_tryUnit 9 = .ok (.iconst 5, 1) := by decide +kernel
theorem dX5_tryUnit_10 : decode cX5_tryUnit 10 = .ok (.if_icmp .gt 18, 3) := by decide +kernel
theorem dX5_tryUnit_13 : decode cX5_tryUnit 13 = .ok (.iload_n 3, 1) := by decide +kernel
theorem dX5_tryUnit_14 : decode cX5_tryUnit 14 = .ok (.aload_n 0, 1) := by decide +kernel
theorem dX5_tryUnit_15 : decode cX5_tryUnit 15 = .ok (.getfield 31, 3) := by decide +kernel
theorem dX5_tryUnit_18 : decode cX5_tryUnit 18 = .ok (.iload_n 2, 1) := by decide +kernel
theorem dX5_tryUnit_19 : decode cX5_tryUnit 19 = .ok (.iaload, 1) := by decide +kernel
theorem dX5_tryUnit_20 : decode cX5_tryUnit 20 = .ok (.iadd, 1) := by decide +kernel
theorem dX5_tryUnit_21 : decode cX5_tryUnit 21 = .ok (.aload_n 0, 1) := by decide +kernel
theorem dX5_tryUnit_22 : decode cX5_tryUnit 22 = .ok (.getfield 44, 3) := by decide +kernel
theorem dX5_tryUnit_25 : decode cX5_tryUnit 25 = .ok (.if_icmp .lt 4, 3) := by decide +kernel
theorem dX5_tryUnit_28 : decode cX5_tryUnit 28 = .ok (.return_, 1) := by decide +kernel
theorem dX5_tryUnit_29 : decode cX5_tryUnit 29 = .ok (.iload_n 2, 1) := by decide +kernel
theorem dX5_tryUnit_30 : decode cX5_tryUnit 30 = .ok (.aload_n 0, 1) := by decide +kernel
theorem dX5_tryUnit_31 : decode cX5_tryUnit 31 = .ok (.getfield 38, 3) := by decide +kernel
theorem dX5_tryUnit_34 : decode cX5_tryUnit 34 = .ok (.if_icmp .ne 23, 3) := by decide +kernel
theorem dX5_tryUnit_37 : decode cX5_tryUnit 37 = .ok (.aload_n 0, 1) := by decide +kernel
theorem dX5_tryUnit_38 : decode cX5_tryUnit 38 = .ok (.iload_n 3, 1) := by decide +kernel
theorem dX5_tryUnit_39 : decode cX5_tryUnit 39 = .ok (.putfield 44, 3) := by decide +kernel
theorem dX5_tryUnit_42 : decode cX5_tryUnit 42 = .ok (.aload_n 0, 1) := by decide +kernel
theorem dX5_tryUnit_43 : decode cX5_tryUnit 43 = .ok (.getfield 25, 3) := by decide +kernel
theorem dX5_tryUnit_46 : decode cX5_tryUnit 46 = .ok (.iconst 0, 1) := by decide +kernel
theorem dX5_tryUnit_47 : decode cX5_tryUnit 47 = .ok (.aload_n 0, 1) := by decide +kernel
theorem dX5_tryUnit_48 : decode cX5_tryUnit 48 = .ok (.getfield 28, 3) := by decide +kernel
theorem dX5_tryUnit_51 : decode cX5_tryUnit 51 = .ok (.iconst 0, 1) := by decide +kernel
theorem dX5_tryUnit_52 : decode cX5_tryUnit 52 = .ok (.iload_n 2, 1) := by decide +kernel
theorem dX5_tryUnit_53 : decode cX5_tryUnit 53 = .ok (.invokestatic 73, 3) := by decide +kernel
theorem dX5_tryUnit_56 : decode cX5_tryUnit 56 = .ok (.return_, 1) := by decide +kernel
theorem dX5_tryUnit_57 : decode cX5_tryUnit 57 = .ok (.iconst 0, 1) := by decide +kernel
theorem dX5_tryUnit_58 : decode cX5_tryUnit 58 = .ok (.istore 5, 2) := by decide +kernel
theorem dX5_tryUnit_60 : decode cX5_tryUnit 60 = .ok (.iconst 0, 1) := by decide +kernel
theorem dX5_tryUnit_61 : decode cX5_tryUnit 61 = .ok (.istore 6, 2) := by decide +kernel
theorem dX5_tryUnit_63 : decode cX5_tryUnit 63 = .ok (.iload 6, 2) := by decide +kernel
theorem dX5_tryUnit_65 : decode cX5_tryUnit 65 = .ok (.aload_n 0, 1) := by decide +kernel
theorem dX5_tryUnit_66 : decode cX5_tryUnit 66 = .ok (.getfield 41, 3) := by decide +kernel
theorem dX5_tryUnit_69 : decode cX5_tryUnit 69 = .ok (.if_icmp .ge 101, 3) := by decide +kernel
theorem dX5_tryUnit_72 : decode cX5_tryUnit 72 = .ok (.aload_n 0, 1) := by decide +kernel
theorem dX5_tryUnit_73 : decode cX5_tryUnit 73 = .ok (.getfield 18, 3) := by decide +kernel
theorem dX5_tryUnit_76 : decode cX5_tryUnit 76 = .ok (.iload 6, 2) := by decide +kernel
theorem dX5_tryUnit_78 : decode cX5_tryUnit 78 = .ok (.iaload, 1) := by decide +kernel
theorem dX5_tryUnit_79 : decode cX5_tryUnit 79 = .ok (.istore 7, 2) := by decide +kernel
theorem dX5_tryUnit_81 : decode cX5_tryUnit 81 = .ok (.iconst 1, 1) := by decide +kernel
theorem dX5_tryUnit_82 : decode cX5_tryUnit 82 = .ok (.iload 7, 2) := by decide +kernel
theorem dX5_tryUnit_84 : decode cX5_tryUnit 84 = .ok (.ishl, 1) := by decide +kernel
theorem dX5_tryUnit_85 : decode cX5_tryUnit 85 = .ok (.istore 8, 2) := by decide +kernel
theorem dX5_tryUnit_87 : decode cX5_tryUnit 87 = .ok (.aload_n 0, 1) := by decide +kernel
theorem dX5_tryUnit_88 : decode cX5_tryUnit 88 = .ok (.getfield 21, 3) := by decide +kernel
theorem dX5_tryUnit_91 : decode cX5_tryUnit 91 = .ok (.iload 6, 2) := by decide +kernel
theorem dX5_tryUnit_93 : decode cX5_tryUnit 93 = .ok (.baload, 1) := by decide +kernel
theorem dX5_tryUnit_94 : decode cX5_tryUnit 94 = .ok (.ifCond .ne 70, 3) := by decide +kernel
theorem dX5_tryUnit_97 : decode cX5_tryUnit 97 = .ok (.iload 5, 2) := by decide +kernel
theorem dX5_tryUnit_99 : decode cX5_tryUnit 99 = .ok (.iload 8, 2) := by decide +kernel
theorem dX5_tryUnit_101 : decode cX5_tryUnit 101 = .ok (.iand, 1) := by decide +kernel
theorem dX5_tryUnit_102 : decode cX5_tryUnit 102 = .ok (.ifCond .ne 62, 3) := by decide +kernel
theorem dX5_tryUnit_105 : decode cX5_tryUnit 105 = .ok (.iload 5, 2) := by decide +kernel
theorem dX5_tryUnit_107 : decode cX5_tryUnit 107 = .ok (.iload 8, 2) := by decide +kernel
theorem dX5_tryUnit_109 : decode cX5_tryUnit 109 = .ok (.ior, 1) := by decide +kernel
theorem dX5_tryUnit_110 : decode cX5_tryUnit 110 = .ok (.istore 5, 2) := by decide +kernel
theorem dX5_tryUnit_112 : decode cX5_tryUnit 112 = .ok (.aload_n 0, 1) := by decide +kernel
theorem dX5_tryUnit_113 : decode cX5_tryUnit 113 = .ok (.getfield 21, 3) := by decide +kernel
theorem dX5_tryUnit_116 : decode cX5_tryUnit 116 = .ok (.iload 6, 2) := by decide +kernel
theorem dX5_tryUnit_118 : decode cX5_tryUnit 118 = .ok (.iconst 1, 1) := by decide +kernel
theorem dX5_tryUnit_119 : decode cX5_tryUnit 119 = .ok (.bastore, 1) := by decide +kernel
theorem dX5_tryUnit_120 : decode cX5_tryUnit 120 = .ok (.aload_n 0, 1) := by decide +kernel
theorem dX5_tryUnit_121 : decode cX5_tryUnit 121 = .ok (.getfield 25, 3) := by decide +kernel
theorem dX5_tryUnit_124 : decode cX5_tryUnit 124 = .ok (.iload_n 2, 1) := by decide +kernel
theorem dX5_tryUnit_125 : decode cX5_tryUnit 125 = .ok (.aload_n 0, 1) := by decide +kernel
theorem dX5_tryUnit_126 : decode cX5_tryUnit 126 = .ok (.getfield 15, 3) := by decide +kernel
theorem dX5_tryUnit_129 : decode cX5_tryUnit 129 = .ok (.iload 6, 2) := by decide +kernel
theorem dX5_tryUnit_131 : decode cX5_tryUnit 131 = .ok (.iaload, 1) := by decide +kernel
theorem dX5_tryUnit_132 : decode cX5_tryUnit 132 = .ok (.iastore, 1) := by decide +kernel
theorem dX5_tryUnit_133 : decode cX5_tryUnit 133 = .ok (.aload_n 0, 1) := by decide +kernel
theorem dX5_tryUnit_134 : decode cX5_tryUnit 134 = .ok (.aload_n 1, 1) := by decide +kernel
theorem dX5_tryUnit_135 : decode cX5_tryUnit 135 = .ok (.iload_n 2, 1) := by decide +kernel
theorem dX5_tryUnit_136 : decode cX5_tryUnit 136 = .ok (.iconst 1, 1) := by decide +kernel
theorem dX5_tryUnit_137 : decode cX5_tryUnit 137 = .ok (.iadd, 1) := by decide +kernel
theorem dX5_tryUnit_138 : decode cX5_tryUnit 138 = .ok (.iload_n 3, 1) := by decide +kernel
theorem dX5_tryUnit_139 : decode cX5_tryUnit 139 = .ok (.aload_n 1, 1) := by decide +kernel
theorem dX5_tryUnit_140 : decode cX5_tryUnit 140 = .ok (.iload 7, 2) := by decide +kernel
theorem dX5_tryUnit_142 : decode cX5_tryUnit 142 = .ok (.aaload, 1) := by decide +kernel
theorem dX5_tryUnit_143 : decode cX5_tryUnit 143 = .ok (.aload_n 0, 1) := by decide +kernel
theorem dX5_tryUnit_144 : decode cX5_tryUnit 144 = .ok (.getfield 9, 3) := by decide +kernel
theorem dX5_tryUnit_147 : decode cX5_tryUnit 147 = .ok (.iload_n 2, 1) := by decide +kernel
theorem dX5_tryUnit_148 : decode cX5_tryUnit 148 = .ok (.iaload, 1) := by decide +kernel
theorem dX5_tryUnit_149 : decode cX5_tryUnit 149 = .ok (.iaload, 1) := by decide +kernel
theorem dX5_tryUnit_150 : decode cX5_tryUnit 150 = .ok (.iadd, 1) := by decide +kernel
theorem dX5_tryUnit_151 : decode cX5_tryUnit 151 = .ok (.iload 4, 2) := by decide +kernel
theorem dX5_tryUnit_153 : decode cX5_tryUnit 153 = .ok (.invokestatic 62, 3) := by decide +kernel
theorem dX5_tryUnit_156 : decode cX5_tryUnit 156 = .ok (.aload_n 0, 1) := by decide +kernel
theorem dX5_tryUnit_157 : decode cX5_tryUnit 157 = .ok (.getfield 21, 3) := by decide +kernel
theorem dX5_tryUnit_160 : decode cX5_tryUnit 160 = .ok (.iload 6, 2) := by decide +kernel
theorem dX5_tryUnit_162 : decode cX5_tryUnit 162 = .ok (.iconst 0, 1) := by decide +kernel
theorem dX5_tryUnit_163 : decode cX5_tryUnit 163 = .ok (.bastore, 1) := by decide +kernel
theorem dX5_tryUnit_164 : decode cX5_tryUnit 164 = .ok (.iinc 6 1, 3) := by decide +kernel
theorem dX5_tryUnit_167 : decode cX5_tryUnit 167 = .ok (.goto (-104), 3) := by decide +kernel
theorem dX5_tryUnit_170 : decode cX5_tryUnit 170 = .ok (.iload 4, 2) := by decide +kernel
theorem dX5_tryUnit_172 : decode cX5_tryUnit 172 = .ok (.ifCond .le 23, 3) := by decide +kernel
theorem dX5_tryUnit_175 : decode cX5_tryUnit 175 = .ok (.aload_n 0, 1) := by decide +kernel
theorem dX5_tryUnit_176 : decode cX5_tryUnit 176 = .ok (.getfield 25, 3) := by decide +kernel
theorem dX5_tryUnit_179 : decode cX5_tryUnit 179 = .ok (.iload_n 2, 1) := by decide +kernel
theorem dX5_tryUnit_180 : decode cX5_tryUnit 180 = .ok (.iconst (-1), 1) := by decide +kernel
theorem dX5_tryUnit_181 : decode cX5_tryUnit 181 = .ok (.iastore, 1) := by decide +kernel
theorem dX5_tryUnit_182 : decode cX5_tryUnit 182 = .ok (.aload_n 0, 1) := by decide +kernel
theorem dX5_tryUnit_183 : decode cX5_tryUnit 183 = .ok (.aload_n 1, 1) := by decide +kernel
theorem dX5_tryUnit_184 : decode cX5_tryUnit 184 = .ok (.iload_n 2, 1) := by decide +kernel
theorem dX5_tryUnit_185 : decode cX5_tryUnit 185 = .ok (.iconst 1, 1) := by decide +kernel
theorem dX5_tryUnit_186 : decode cX5_tryUnit 186 = .ok (.iadd, 1) := by decide +kernel
theorem dX5_tryUnit_187 : decode cX5_tryUnit 187 = .ok (.iload_n 3, 1) := by decide +kernel
theorem dX5_tryUnit_188 : decode cX5_tryUnit 188 = .ok (.iload 4, 2) := by decide +kernel
theorem dX5_tryUnit_190 : decode cX5_tryUnit 190 = .ok (.iconst 1, 1) := by decide +kernel
theorem dX5_tryUnit_191 : decode cX5_tryUnit 191 = .ok (.isub, 1) := by decide +kernel
theorem dX5_tryUnit_192 : decode cX5_tryUnit 192 = .ok (.invokestatic 62, 3) := by decide +kernel
theorem dX5_tryUnit_195 : decode cX5_tryUnit 195 = .ok (.return_, 1) := by decide +kernel
theorem dX6_init_0 : decode cX6_init 0 = .ok (.aload_n 0, 1) := by decide +kernel
theorem dX6_init_1 : decode cX6_init 1 = .ok (.invokespecial 3, 3) := by decide +kernel
theorem dX6_init_4 : decode cX6_init 4 = .ok (.aload_n 0, 1) := by decide +kernel
theorem dX6_init_5 : decode cX6_init 5 = .ok (.bipush 6, 2) := by decide +kernel
theorem dX6_init_7 : decode cX6_init 7 = .ok (.bipush 6, 2) := by decide +kernel
theorem dX6_init_9 : decode cX6_init 9 = .ok (.multianewarray 9 2, 4) := by decide +kernel
theorem dX6_init_13 : decode cX6_init 13 = .ok (.putfield 11, 3) := by decide +kernel
theorem dX6_init_16 : decode cX6_init 16 = .ok (.aload_n 0, 1) := by decide +kernel
theorem dX6_init_17 : decode cX6_init 17 = .ok (.iconst 3, 1) := by decide +kernel
theorem dX6_init_18 : decode cX6_init 18 = .ok (.bipush 6, 2) := by decide +kernel
theorem dX6_init_20 : decode cX6_init 20 = .ok (.multianewarray 9 2, 4) := by decide +kernel
theorem dX6_init_24 : decode cX6_init 24 = .ok (.putfield 14, 3) := by decide +kernel
theorem dX6_init_27 : decode cX6_init 27 = .ok (.aload_n 0, 1) := by decide +kernel
theorem dX6_init_28 : decode cX6_init 28 = .ok (.iconst 5, 1) := by decide +kernel
theorem dX6_init_29 : decode cX6_init 29 = .ok (.newarray .int, 2) := by decide +kernel
theorem dX6_init_31 : decode cX6_init 31 = .ok (.putfield 17, 3) := by decide +kernel
theorem dX6_init_34 : decode cX6_init 34 = .ok (.aload_n 0, 1) := by decide +kernel
theorem dX6_init_35 : decode cX6_init 35 = .ok (.bipush 40, 2) := by decide +kernel
theorem dX6_init_37 : decode cX6_init 37 = .ok (.anewarray 21, 3) := by decide +kernel
theorem dX6_init_40 : decode cX6_init 40 = .ok (.putfield 23, 3) := by decide +kernel
theorem dX6_init_43 : decode cX6_init 43 = .ok (.aload_n 0, 1) := by decide +kernel
theorem dX6_init_44 : decode cX6_init 44 = .ok (.bipush 20, 2) := by decide +kernel
theorem dX6_init_46 : decode cX6_init 46 = .ok (.anewarray 27, 3) := by decide +kernel
theorem dX6_init_49 : decode cX6_init 49 = .ok (.putfield 29, 3) := by decide +kernel
theorem dX6_init_52 : decode cX6_init 52 = .ok (.aload_n 0, 1) := by decide +kernel
theorem dX6_init_53 : decode cX6_init 53 = .ok (.new 33, 3) := by decide +kernel
theorem dX6_init_56 : decode cX6_init 56 = .ok (.dup, 1) := by decide +kernel
theorem dX6_init_57 : decode cX6_init 57 = .ok (.invokespecial 35, 3) := by decide +kernel
theorem dX6_init_60 : decode cX6_init 60 = .ok (.putfield 36, 3) := by decide +kernel
theorem dX6_init_63 : decode cX6_init 63 = .ok (.aload_n 0, 1) := by decide +kernel
theorem dX6_init_64 : decode cX6_init 64 = .ok (.iconst 0, 1) := by decide +kernel
theorem dX6_init_65 : decode cX6_init 65 = .ok (.putfield 40, 3) := by decide +kernel
theorem dX6_init_68 : decode cX6_init 68 = .ok (.aload_n 0, 1) := by decide +kernel
theorem dX6_init_69 : decode cX6_init 69 = .ok (.iconst 0, 1) := by decide +kernel
theorem dX6_init_70 : decode cX6_init 70 = .ok (.putfield 44, 3) := by decide +kernel
theorem dX6_init_73 : decode cX6_init 73 = .ok (.aload_n 0, 1) := by decide +kernel
theorem dX6_init_74 : decode cX6_init 74 = .ok (.iconst 0, 1) := by decide +kernel
theorem dX6_init_75 : decode cX6_init 75 = .ok (.putfield 47, 3) := by decide +kernel
theorem dX6_init_78 : decode cX6_init 78 = .ok (.aload_n 0, 1) := by decide +kernel
theorem dX6_init_79 : decode cX6_init 79 = .ok (.iconst 5, 1) := by decide +kernel
theorem dX6_init_80 : decode cX6_init 80 = .ok (.putfield 50, 3) := by decide +kernel
theorem dX6_init_83 : decode cX6_init 83 = .ok (.aload_n 0, 1) := by decide +kernel
theorem dX6_init_84 : decode cX6_init 84 = .ok (.sipush 500, 3) := by decide +kernel
theorem dX6_init_87 : decode cX6_init 87 = .ok (.putfield 53, 3) := by decide +kernel
theorem dX6_init_90 : decode cX6_init 90 = .ok (.iconst 0, 1) := by decide +kernel
theorem dX6_init_91 : decode cX6_init 91 = .ok (.istore_n 1, 1) := by decide +kernel
theorem dX6_init_92 : decode cX6_init 92 = .ok (.iload_n 1, 1) := by decide +kernel
theorem dX6_init_93 : decode cX6_init 93 = .ok (.bipush 6, 2) := by decide +kernel
theorem dX6_init_95 : decode cX6_init 95 = .ok (.if_icmp .ge 42, 3) := by decide +kernel
theorem dX6_init_98 : decode cX6_init 98 = .ok (.iconst 0, 1) := by decide +kernel
theorem dX6_init_99 : decode cX6_init 99 = .ok (.istore_n 2, 1) := by decide +kernel
theorem dX6_init_100 : decode cX6_init 100 = .ok (.iload_n 2, 1) := by decide +kernel
theorem dX6_init_101 : decode cX6_init 101 = .ok (.bipush 6, 2) := by decide +kernel
theorem dX6_init_103 : decode cX6_init 103 = .ok (.if_icmp .ge 28, 3) := by decide +kernel
theorem dX6_init_106 : decode cX6_init 106 = .ok (.aload_n 0, 1) := by decide +kernel
theorem dX6_init_107 : decode cX6_init 107 = .ok (.getfield 11, 3) := by decide +kernel
theorem dX6_init_110 : decode cX6_init 110 = .ok (.iload_n 1, 1) := by decide +kernel
theorem dX6_init_111 : decode cX6_init 111 = .ok (.aaload, 1) := by decide +kernel
theorem dX6_init_112 : decode cX6_init 112 = .ok (.iload_n 2, 1) := by decide +kernel
theorem dX6_init_113 : decode cX6_init 113 = .ok (.iload_n 1, 1) := by decide +kernel
theorem dX6_init_114 : decode cX6_init 114 = .ok (.iload_n 2, 1) := by decide +kernel
theorem dX6_init_115 : decode cX6_init 115 = .ok (.if_icmp .ne 7, 3) := by decide +kernel
theorem dX6_init_118 : decode cX6_init 118 = .ok (.iconst 0, 1) := by decide +kernel
theorem dX6_init_119 : decode cX6_init 119 = .ok (.goto 5, 3) := by decide +kernel
theorem dX6_init_122 : decode cX6_init 122 = .ok (.bipush 100, 2) := by decide +kernel
theorem dX6_init_124 : decode cX6_init 124 = .ok (.iastore, 1) := by decide +kernel
theorem dX6_init_125 : decode cX6_init 125 = .ok (.iinc 2 1, 3) := by decide +kernel
theorem dX6_init_128 : decode cX6_init 128 = .ok (.goto (-28), 3) := by decide +kernel
theorem dX6_init_131 : decode cX6_init 131 = .ok (.iinc 1 1, 3) := by decide +kernel
theorem dX6_init_134 : decode cX6_init 134 = .ok (.goto (-42), 3) := by decide +kernel
theorem dX6_init_137 : decode cX6_init 137 = .ok (.iconst 0, 1) := by decide +kernel
theorem dX6_init_138 : decode cX6_init 138 = .ok (.istore_n 1, 1) := by decide +kernel
theorem dX6_init_139 : decode cX6_init 139 = .ok (.iload_n 1, 1) := by decide +kernel
theorem dX6_init_140 : decode cX6_init 140 = .ok (.iconst 3, 1) := by decide +kernel
theorem dX6_init_141 : decode cX6_init 141 = .ok (.if_icmp .ge 32, 3) := by decide +kernel
theorem dX6_init_144 : decode cX6_init 144 = .ok (.iconst 0, 1) := by decide +kernel
theorem dX6_init_145 : decode cX6_init 145 = .ok (.istore_n 2, 1) := by decide +kernel
theorem dX6_init_146 : decode cX6_init 146 = .ok (.iload_n 2, 1) := by decide +kernel
theorem dX6_init_147 : decode cX6_init 147 = .ok (.bipush 6, 2) := by decide +kernel
theorem dX6_init_149 : decode cX6_init 149 = .ok (.if_icmp .ge 18, 3) := by decide +kernel
theorem dX6_init_152 : decode cX6_init 152 = .ok (.aload_n 0, 1) := by decide +kernel
theorem dX6_init_153 : decode cX6_init 153 = .ok (.getfield 14, 3) := by decide +kernel
theorem dX6_init_156 : decode cX6_init 156 = .ok (.iload_n 1, 1) := by decide +kernel
theorem dX6_init_157 : decode cX6_init 157 = .ok (.aaload, 1) := by decide +kernel
theorem dX6_init_158 : decode cX6_init 158 = .ok (.iload_n 2, 1) := by decide +kernel
theorem dX6_init_159 : decode cX6_init 159 = .ok (.iconst 2, 1) := by decide +kernel
theorem dX6_init_160 : decode cX6_init 160 = .ok (.iastore, 1) := by decide +kernel
theorem dX6_init_161 : decode cX6_init 161 = .ok (.iinc 2 1, 3) := by decide +kernel
theorem dX6_init_164 : decode cX6_init 164 = .ok (.goto (-18), 3) := by decide +kernel
theorem dX6_init_167 : decode cX6_init 167 = .ok (.iinc 1 1, 3) := by decide +kernel
theorem dX6_init_170 : decode cX6_init 170 = .ok (.goto (-31), 3) := by decide +kernel
theorem dX6_init_173 : decode cX6_init 173 = .ok (.iconst 0, 1) := by decide +kernel
theorem dX6_init_174 : decode cX6_init 174 = .ok (.istore_n 1, 1) := by decide +kernel
theorem dX6_init_175 : decode cX6_init 175 = .ok (.iload_n 1, 1) := by decide +kernel
theorem dX6_init_176 : decode cX6_init 176 = .ok (.iconst 5, 1) := by decide +kernel
theorem dX6_init_177 : decode cX6_init 177 = .ok (.if_icmp .ge 16, 3) := by decide +kernel
theorem dX6_init_180 : decode cX6_init 180 = .ok (.aload_n 0, 1) := by decide +kernel
theorem dX6_init_181 : decode cX6_init 181 = .ok (.getfield 17, 3) := by decide +kernel
theorem dX6_init_184 : decode cX6_init 184 = .ok (.iload_n 1, 1) := by decide +kernel
theorem dX6_init_185 : decode cX6_init 185 = .ok (.iconst 3, 1) := by decide +kernel
theorem dX6_init_186 : decode cX6_init 186 = .ok (.iastore, 1) := by decide +kernel
theorem dX6_init_187 : decode cX6_init 187 = .ok (.iinc 1 1, 3) := by decide +kernel
theorem dX6_init_190 : decode cX6_init 190 = .ok (.goto (-15), 3) := by decide +kernel
theorem dX6_init_193 : decode cX6_init 193 = .ok (.return_, 1) := by decide +kernel
theorem dX6_cost_0 : decode cX6_cost 0 = .ok (.iload_n 1, 1) := by decide +kernel
theorem dX6_cost_1 : decode cX6_cost 1 = .ok (.invokestatic 56, 3) := by decide +kernel
theorem dX6_cost_4 : decode cX6_cost 4 = .ok (.iload_n 2, 1) := by decide +kernel
theorem dX6_cost_5 : decode cX6_cost 5 = .ok (.invokestatic 56, 3) := by decide +kernel
theorem dX6_cost_8 : decode cX6_cost 8 = .ok (.iload_n 1, 1) := by decide +kernel
theorem dX6_cost_9 : decode cX6_cost 9 = .ok (.iload_n 2, 1) := by decide +kernel
theorem dX6_cost_10 : decode cX6_cost 10 = .ok (.if_icmp .ne 13, 3) := by decide +kernel
theorem dX6_cost_13 : decode cX6_cost 13 = .ok (.new 60, 3) := by decide +kernel
theorem dX6_cost_16 : decode cX6_cost 16 = .ok (.dup, 1) := by decide +kernel
theorem dX6_cost_17 : decode cX6_cost 17 = .ok (.ldc 62, 2) := by decide +kernel
theorem dX6_cost_19 : decode cX6_cost 19 = .ok (.invokespecial 64, 3) := by decide +kernel
theorem dX6_cost_22 : decode cX6_cost 22 = .ok (.athrow, 1) := by decide +kernel
theorem dX6_cost_23 : decode cX6_cost 23 = .ok (.iload_n 3, 1) := by decide +kernel
theorem dX6_cost_24 : decode cX6_cost 24 = .ok (.iconst 0, 1) := by decide +kernel
theorem dX6_cost_25 : decode cX6_cost 25 = .ok (.sipush 9999, 3) := by decide +kernel
theorem dX6_cost_28 : decode cX6_cost 28 = .ok (.invokestatic 67, 3) := by decide +kernel
theorem dX6_cost_31 : decode cX6_cost 31 = .ok (.aload_n 0, 1) := by decide +kernel
theorem dX6_cost_32 : decode cX6_cost 32 = .ok (.getfield 11, 3) := by decide +kernel
theorem dX6_cost_35 : decode cX6_cost 35 = .ok (.iload_n 1, 1) := by decide +kernel
theorem dX6_cost_36 : decode cX6_cost 36 = .ok (.aaload, 1) := by decide +kernel
theorem dX6_cost_37 : decode cX6_cost 37 = .ok (.iload_n 2, 1) := by decide +kernel
theorem dX6_cost_38 : decode cX6_cost 38 = .ok (.iaload, 1) := by decide +kernel
theorem dX6_cost_39 : decode cX6_cost 39 = .ok (.istore 4, 2) := by decide +kernel
theorem dX6_cost_41 : decode cX6_cost 41 = .ok (.aload_n 0, 1) := by decide +kernel
theorem dX6_cost_42 : decode cX6_cost 42 = .ok (.getfield 11, 3) := by decide +kernel
theorem dX6_cost_45 : decode cX6_cost 45 = .ok (.iload_n 1, 1) := by decide +kernel
theorem dX6_cost_46 : decode cX6_cost 46 = .ok (.aaload, 1) := by decide +kernel
theorem dX6_cost_47 : decode cX6_cost 47 = .ok (.iload_n 2, 1) := by decide +kernel
theorem dX6_cost_48 : decode cX6_cost 48 = .ok (.iload_n 3, 1) := by decide +kernel
theorem dX6_cost_49 : decode cX6_cost 49 = .ok (.iastore, 1) := by decide +kernel
theorem dX6_cost_50 : decode cX6_cost 50 = .ok (.iload 4, 2) := by decide +kernel
theorem dX6_cost_52 : decode cX6_cost 52 = .ok (.ireturn, 1) := by decide +kernel
theorem dX6_box_0 : decode cX6_box 0 = .ok (.iload_n 2, 1) := by decide +kernel
theorem dX6_box_1 : decode cX6_box 1 = .ok (.iconst (-1), 1) := by decide +kernel
theorem dX6_box_2 : decode cX6_box 2 = .ok (.if_icmp .eq 7, 3) := by decide +kernel
theorem dX6_box_5 : decode cX6_box 5 = .ok (.iload_n 2, 1) := by decide +kernel
theorem dX6_box_6 : decode cX6_box 6 = .ok (.invokestatic 71, 3) := by decide +kernel
theorem dX6_box_9 : decode cX6_box 9 = .ok (.iload_n 1, 1) := by decide +kernel
theorem dX6_box_10 : decode cX6_box 10 = .ok (.invokestatic 74, 3) := by decide +kernel
theorem dX6_box_13 : decode cX6_box 13 = .ok (.iload_n 3, 1) := by decide +kernel
theorem dX6_box_14 : decode cX6_box 14 = .ok (.iconst 0, 1) := by decide +kernel
theorem dX6_box_15 : decode cX6_box 15 = .ok (.sipush 9999, 3) := by decide +kernel
theorem dX6_box_18 : decode cX6_box 18 = .ok (.invokestatic 67, 3) := by decide +kernel
theorem dX6_box_21 : decode cX6_box 21 = .ok (.aload_n 0, 1) := by decide +kernel
theorem dX6_box_22 : decode cX6_box 22 = .ok (.getfield 40, 3) := by decide +kernel
theorem dX6_box_25 : decode cX6_box 25 = .ok (.bipush 40, 2) := by decide +kernel
theorem dX6_box_27 : decode cX6_box 27 = .ok (.if_icmp .lt 13, 3) := by decide +kernel
theorem dX6_box_30 : decode cX6_box 30 = .ok (.new 77, 3) := by decide +kernel
theorem dX6_box_33 : decode cX6_box 33 = .ok (.dup, 1) := by decide +kernel
theorem dX6_box_34 : decode cX6_box 34 = .ok (.ldc 79, 2) := by decide +kernel
theorem dX6_box_36 : decode cX6_box 36 = .ok (.invokespecial 81, 3) := by decide +kernel
theorem dX6_box_39 : decode cX6_box 39 = .ok (.athrow, 1) := by decide +kernel
theorem dX6_box_40 : decode cX6_box 40 = .ok (.aload_n 0, 1) := by decide +kernel
theorem dX6_box_41 : decode cX6_box 41 = .ok (.getfield 40, 3) := by decide +kernel
theorem dX6_box_44 : decode cX6_box 44 = .ok (.istore 4, 2) := by decide +kernel
theorem dX6_box_46 : decode cX6_box 46 = .ok (.aload_n 0, 1) := by decide +kernel
theorem dX6_box_47 : decode cX6_box 47 = .ok (.getfield 23, 3) := by decide +kernel
theorem dX6_box_50 : decode cX6_box 50 = .ok (.iload 4, 2) := by decide +kernel
theorem dX6_box_52 : decode cX6_box 52 = .ok (.new 21, 3) := by decide +kernel
theorem dX6_box_55 : decode cX6_box 55 = .ok (.dup, 1) := by decide +kernel
theorem dX6_box_56 : decode cX6_box 56 = .ok (.iload_n 1, 1) := by decide +kernel
theorem dX6_box_57 : decode cX6_box 57 = .ok (.iload_n 2, 1) := by decide +kernel
theorem dX6_box_58 : decode cX6_box 58 = .ok (.iload_n 3, 1) := by decide +kernel
theorem dX6_box_59 : decode cX6_box 59 = .ok (.invokespecial 82, 3) := by decide +kernel
theorem dX6_box_62 : decode cX6_box 62 = .ok (.aastore, 1) := by decide +kernel
theorem dX6_box_63 : decode cX6_box 63 = .ok (.aload_n 0, 1) := by decide +kernel
theorem dX6_box_64 : decode cX6_box 64 = .ok (.dup, 1) := by decide +kernel
theorem dX6_box_65 : decode cX6_box 65 = .ok (.getfield 40, 3) := by decide +kernel
theorem dX6_box_68 : decode cX6_box 68 = .ok (.iconst 1, 1) := by decide +kernel
theorem dX6_box_69 : decode cX6_box 69 = .ok (.iadd, 1) := by decide +kernel
theorem dX6_box_70 : decode cX6_box 70 = .ok (.putfield 40, 3) := by decide +kernel
theorem dX6_box_73 : decode cX6_box 73 = .ok (.iload 4, 2) := by decide +kernel
theorem dX6_box_75 : decode cX6_box 75 = .ok (.ireturn, 1) := by decide +kernel
theorem dX6_wash_0 : decode cX6_wash 0 = .ok (.aload_n 0, 1) := by decide +kernel
theorem dX6_wash_1 : decode cX6_wash 1 = .ok (.iload_n 1, 1) := by decide +kernel
theorem dX6_wash_2 : decode cX6_wash 2 = .ok (.invokevirtual 84, 3) := by decide +kernel
theorem dX6_wash_5 : decode cX6_wash 5 = .ok (.astore_n 3, 1) := by decide +kernel
theorem dX6_wash_6 : decode cX6_wash 6 = .ok (.iload_n 2, 1) := by decide +kernel
theorem dX6_wash_7 : decode cX6_wash 7 = .ok (.iconst 0, 1) := by decide +kernel
theorem dX6_wash_8 : decode cX6_wash 8 = .ok (.sipush 9999, 3) := by decide +kernel
theorem dX6_wash_11 : decode cX6_wash 11 = .ok (.invokestatic 67, 3) := by decide +kernel
theorem dX6_wash_14 : decode cX6_wash 14 = .ok (.aload_n 3, 1) := by decide +kernel
theorem dX6_wash_15 : decode cX6_wash 15 = .ok (.invokestatic 88, 3) := by decide +kernel
theorem dX6_wash_18 : decode cX6_wash 18 = .ok (.aload_n 3, 1) := by decide +kernel
theorem dX6_wash_19 : decode cX6_wash 19 = .ok (.getfield 92, 3) := by decide +kernel
theorem dX6_wash_22 : decode cX6_wash 22 = .ok (.istore 4, 2) := by decide +kernel
theorem dX6_wash_24 : decode cX6_wash 24 = .ok (.aload_n 3, 1) := by decide +kernel
theorem dX6_wash_25 : decode cX6_wash 25 = .ok (.iconst 0, 1) := by decide +kernel
theorem dX6_wash_26 : decode cX6_wash 26 = .ok (.putfield 92, 3) := by decide +kernel
theorem dX6_wash_29 : decode cX6_wash 29 = .ok (.aload_n 3, 1) := by decide +kernel
theorem dX6_wash_30 : decode cX6_wash 30 = .ok (.iload_n 2, 1) := by decide +kernel
theorem dX6_wash_31 : decode cX6_wash 31 = .ok (.putfield 96, 3) := by decide +kernel
theorem dX6_wash_34 : decode cX6_wash 34 = .ok (.iload 4, 2) := by decide +kernel
theorem dX6_wash_36 : decode cX6_wash 36 = .ok (.ireturn, 1) := by decide +kernel
theorem dX6_report_0 : decode cX6_report 0 = .ok (.aload_n 0, 1) := by decide +kernel
theorem dX6_report_1 : decode cX6_report 1 = .ok (.iload_n 1, 1) := by decide +kernel
theorem dX6_report_2 : decode cX6_report 2 = .ok (.invokevirtual 84, 3) := by decide +kernel
theorem dX6_report_5 : decode cX6_report 5 = .ok (.astore 5, 2) := by decide +kernel
theorem dX6_report_7 : decode cX6_report 7 = .ok (.iload 4, 2) := by decide +kernel
theorem dX6_report_9 : decode cX6_report 9 = .ok (.invokestatic 56, 3) := by decide +kernel
theorem dX6_report_12 : decode cX6_report 12 = .ok (.iload_n 2, 1) := by decide +kernel
theorem dX6_report_13 : decode cX6_report 13 = .ok (.iconst 0, 1) := by decide +kernel
theorem dX6_report_14 : decode cX6_report 14 = .ok (.aload_n 0, 1) := by decide +kernel
theorem dX6_report_15 : decode cX6_report 15 = .ok (.getfield 47, 3) := by decide +kernel
theorem dX6_report_18 : decode cX6_report 18 = .ok (.invokestatic 67, 3) := by decide +kernel
theorem dX6_report_21 : decode cX6_report 21 = .ok (.iload_n 3, 1) := by decide +kernel
theorem dX6_report_22 : decode cX6_report 22 = .ok (.iconst 0, 1) := by decide +kernel
theorem dX6_report_23 : decode cX6_report 23 = .ok (.iconst 3, 1) := by decide +kernel
theorem dX6_report_24 : decode cX6_report 24 = .ok (.invokestatic 67, 3) := by decide +kernel
theorem dX6_report_27 : decode cX6_report 27 = .ok (.aload 5, 2) := by decide +kernel
theorem dX6_report_29 : decode cX6_report 29 = .ok (.invokestatic 88, 3) := by decide +kernel
theorem dX6_report_32 : decode cX6_report 32 = .ok (.aload 5, 2) := by decide +kernel
theorem dX6_report_34 : decode cX6_report 34 = .ok (.getfield 99, 3) := by decide +kernel
theorem dX6_report_37 : decode cX6_report 37 = .ok (.invokevirtual 103, 3) := by decide +kernel
theorem dX6_report_40 : decode cX6_report 40 = .ok (.ifCond .eq 13, 3) := by decide +kernel
theorem dX6_report_43 : decode cX6_report 43 = .ok (.new 77, 3) := by decide +kernel
theorem dX6_report_46 : decode cX6_report 46 = .ok (.dup, 1) := by decide +kernel
theorem dX6_report_47 : decode cX6_report 47 = .ok (.ldc 109, 2) := by decide +kernel
theorem dX6_report_49 : decode cX6_report 49 = .ok (.invokespecial 81, 3) := by decide +kernel
theorem dX6_report_52 : decode cX6_report 52 = .ok (.athrow, 1) := by decide +kernel
theorem dX6_report_53 : decode cX6_report 53 = .ok (.aload 5, 2) := by decide +kernel
theorem dX6_report_55 : decode cX6_report 55 = .ok (.getfield 99, 3) := by decide +kernel
theorem dX6_report_58 : decode cX6_report 58 = .ok (.iload_n 2, 1) := by decide +kernel
theorem dX6_report_59 : decode cX6_report 59 = .ok (.iload_n 3, 1) := by decide +kernel
theorem dX6_report_60 : decode cX6_report 60 = .ok (.iload 4, 2) := by decide +kernel
theorem dX6_report_62 : decode cX6_report 62 = .ok (.invokevirtual 111, 3) := by decide +kernel
theorem dX6_report_65 : decode cX6_report 65 = .ok (.ifCond .eq 5, 3) := by decide +kernel
theorem dX6_report_68 : decode cX6_report 68 = .ok (.iconst (-1), 1) := by decide +kernel
theorem dX6_report_69 : decode cX6_report 69 = .ok (.ireturn, 1) := by decide +kernel
theorem dX6_report_70 : decode cX6_report 70 = .ok (.aload 5, 2) := by decide +kernel
theorem dX6_report_72 : decode cX6_report 72 = .ok (.getfield 99, 3) := by decide +kernel
theorem dX6_report_75 : decode cX6_report 75 = .ok (.iload_n 2, 1) := by decide +kernel
theorem dX6_report_76 : decode cX6_report 76 = .ok (.iload_n 3, 1) := by decide +kernel
theorem dX6_report_77 : decode cX6_report 77 = .ok (.iload 4, 2) := by decide +kernel
theorem dX6_report_79 : decode cX6_report 79 = .ok (.invokevirtual 115, 3) := by decide +kernel
theorem dX6_report_82 : decode cX6_report 82 = .ok (.aload 5, 2) := by decide +kernel
theorem dX6_report_84 : decode cX6_report 84 = .ok (.getfield 99, 3) := by decide +kernel
theorem dX6_report_87 : decode cX6_report 87 = .ok (.getfield 118, 3) := by decide +kernel
theorem dX6_report_90 : decode cX6_report 90 = .ok (.ireturn, 1) := by decide +kernel
theorem dX6_place_0 : decode cX6_place 0 = .ok (.aload_n 0, 1) := by decide +kernel
theorem dX6_place_1 : decode cX6_place 1 = .ok (.iload_n 1, 1) := by decide +kernel
theorem dX6_place_2 : decode cX6_place 2 = .ok (.invokevirtual 84, 3) := by decide +kernel
theorem dX6_place_5 : decode cX6_place 5 = .ok (.astore_n 3, 1) := by decide +kernel
theorem dX6_place_6 : decode cX6_place 6 = .ok (.iload_n 2, 1) := by decide +kernel
theorem dX6_place_7 : decode cX6_place 7 = .ok (.iconst 0, 1) := by decide +kernel
theorem dX6_place_8 : decode cX6_place 8 = .ok (.sipush 9999, 3) := by decide +kernel
theorem dX6_place_11 : decode cX6_place 11 = .ok (.invokestatic 67, 3) := by decide +kernel
theorem dX6_place_14 : decode cX6_place 14 = .ok (.aload_n 3, 1) := by decide +kernel
theorem dX6_place_15 : decode cX6_place 15 = .ok (.getfield 99, 3) := by decide +kernel
theorem dX6_place_18 : decode cX6_place 18 = .ok (.iload_n 2, 1) := by decide +kernel
theorem dX6_place_19 : decode cX6_place 19 = .ok (.invokevirtual 121, 3) := by decide +kernel
theorem dX6_place_22 : decode cX6_place 22 = .ok (.ireturn, 1) := by decide +kernel
theorem dX6_count_0 : decode cX6_count 0 = .ok (.iload_n 1, 1) := by decide +kernel
theorem dX6_count_1 : decode cX6_count 1 = .ok (.invokestatic 56, 3) := by decide +kernel
theorem dX6_count_4 : decode cX6_count 4 = .ok (.iload_n 2, 1) := by decide +kernel
theorem dX6_count_5 : decode cX6_count 5 = .ok (.iconst (-1), 1) := by decide +kernel
theorem dX6_count_6 : decode cX6_count 6 = .ok (.if_icmp .eq 7, 3) := by decide +kernel
theorem dX6_count_9 : decode cX6_count 9 = .ok (.iload_n 2, 1) := by decide +kernel
theorem dX6_count_10 : decode cX6_count 10 = .ok (.invokestatic 74, 3) := by decide +kernel
theorem dX6_count_13 : decode cX6_count 13 = .ok (.iload_n 3, 1) := by decide +kernel
theorem dX6_count_14 : decode cX6_count 14 = .ok (.iconst 0, 1) := by decide +kernel
theorem dX6_count_15 : decode cX6_count 15 = .ok (.sipush 9999, 3) := by decide +kernel
theorem dX6_count_18 : decode cX6_count 18 = .ok (.invokestatic 67, 3) := by decide +kernel
theorem dX6_count_21 : decode cX6_count 21 = .ok (.iconst 0, 1) := by decide +kernel
theorem dX6_count_22 : decode cX6_count 22 = .ok (.istore 4, 2) := by decide +kernel
theorem dX6_count_24 : decode cX6_count 24 = .ok (.aload_n 0, 1) := by decide +kernel
theorem dX6_count_25 : decode cX6_count 25 = .ok (.getfield 23, 3) := by decide +kernel
theorem dX6_count_28 : decode cX6_count 28 = .ok (.astore 5, 2) := by decide +kernel
theorem dX6_count_30 : decode cX6_count 30 = .ok (.aload 5, 2) := by decide +kernel
theorem dX6_count_32 : decode cX6_count 32 = .ok (.arraylength, 1) := by decide +kernel
theorem dX6_count_33 : decode cX6_count 33 = .ok (.istore 6, 2) := by decide +kernel
theorem dX6_count_35 : decode cX6_count 35 = .ok (.iconst 0, 1) := by decide +kernel
theorem dX6_count_36 : decode cX6_count 36 = .ok (.istore 7, 2) := by decide +kernel
theorem dX6_count_38 : decode cX6_count 38 = .ok (.iload 7, 2) := by decide +kernel
theorem dX6_count_40 : decode cX6_count 40 = .ok (.iload 6, 2) := by decide +kernel
theorem dX6_count_42 : decode cX6_count 42 = .ok (.if_icmp .ge 51, 3) := by decide +kernel
theorem dX6_count_45 : decode cX6_count 45 = .ok (.aload 5, 2) := by decide +kernel
theorem dX6_count_47 : decode cX6_count 47 = .ok (.iload 7, 2) := by decide +kernel
theorem dX6_count_49 : decode cX6_count 49 = .ok (.aaload, 1) := by decide +kernel
theorem dX6_count_50 : decode cX6_count 50 = .ok (.astore 8, 2) := by decide +kernel
theorem dX6_count_52 : decode cX6_count 52 = .ok (.aload 8, 2) := by decide +kernel
theorem dX6_count_54 : decode cX6_count 54 = .ok (.ifnull 33, 3) := by decide +kernel
theorem dX6_count_57 : decode cX6_count 57 = .ok (.iload_n 2, 1) := by decide +kernel
theorem dX6_count_58 : decode cX6_count 58 = .ok (.iconst (-1), 1) := by decide +kernel
theorem dX6_count_59 : decode cX6_count 59 = .ok (.if_icmp .eq 12, 3) := by decide +kernel
theorem dX6_count_62 : decode cX6_count 62 = .ok (.aload 8, 2) := by decide +kernel
theorem dX6_count_64 : decode cX6_count 64 = .ok (.getfield 125, 3) := by decide +kernel
theorem dX6_count_67 : decode cX6_count 67 = .ok (.iload_n 2, 1) := by decide +kernel
theorem dX6_count_68 : decode cX6_count 68 = .ok (.if_icmp .ne 19, 3) := by decide +kernel
theorem dX6_count_71 : decode cX6_count 71 = .ok (.aload 8, 2) := by decide +kernel
theorem dX6_count_73 : decode cX6_count 73 = .ok (.getfield 99, 3) := by decide +kernel
theorem dX6_count_76 : decode cX6_count 76 = .ok (.iload_n 3, 1) := by decide +kernel
theorem dX6_count_77 : decode cX6_count 77 = .ok (.invokevirtual 121, 3) := by decide +kernel
theorem dX6_count_80 : decode cX6_count 80 = .ok (.iload_n 1, 1) := by decide +kernel
theorem dX6_count_81 : decode cX6_count 81 = .ok (.if_icmp .ne 6, 3) := by decide +kernel
theorem dX6_count_84 : decode cX6_count 84 = .ok (.iinc 4 1, 3) := by decide +kernel
theorem dX6_count_87 : decode cX6_count 87 = .ok (.iinc 7 1, 3) := by decide +kernel
theorem dX6_count_90 : decode cX6_count 90 = .ok (.goto (-52), 3) := by decide +kernel
theorem dX6_count_93 : decode cX6_count 93 = .ok (.iload 4, 2) := by decide +kernel
theorem dX6_count_95 : decode cX6_count 95 = .ok (.ireturn, 1) := by decide +kernel
theorem dX6_days_0 : decode cX6_days 0 = .ok (.aload_n 0, 1) := by decide +kernel
theorem dX6_days_1 : decode cX6_days 1 = .ok (.iload_n 1, 1) := by decide +kernel
theorem dX6_days_2 : decode cX6_days 2 = .ok (.invokevirtual 84, 3) := by decide +kernel
theorem dX6_days_5 : decode cX6_days 5 = .ok (.astore 5, 2) := by decide +kernel
theorem dX6_days_7 : decode cX6_days 7 = .ok (.iload_n 2, 1) := by decide +kernel
theorem dX6_days_8 : decode cX6_days 8 = .ok (.iconst 0, 1) := by decide +kernel
theorem dX6_days_9 : decode cX6_days 9 = .ok (.sipush 9999, 3) := by decide +kernel
theorem dX6_days_12 : decode cX6_days 12 = .ok (.invokestatic 67, 3) := by decide +kernel
theorem dX6_days_15 : decode cX6_days 15 = .ok (.iload_n 3, 1) := by decide +kernel
theorem dX6_days_16 : decode cX6_days 16 = .ok (.iload_n 2, 1) := by decide +kernel
theorem dX6_days_17 : decode cX6_days 17 = .ok (.iload_n 2, 1) := by decide +kernel
theorem dX6_days_18 : decode cX6_days 18 = .ok (.sipush 400, 3) := by decide +kernel
theorem dX6_days_21 : decode cX6_days 21 = .ok (.iadd, 1) := by decide +kernel
theorem dX6_days_22 : decode cX6_days 22 = .ok (.invokestatic 67, 3) := by decide +kernel
theorem dX6_days_25 : decode cX6_days 25 = .ok (.iload 4, 2) := by decide +kernel
theorem dX6_days_27 : decode cX6_days 27 = .ok (.invokestatic 128, 3) := by decide +kernel
theorem dX6_days_30 : decode cX6_days 30 = .ok (.ifCond .ne 12, 3) := by decide +kernel
theorem dX6_days_33 : decode cX6_days 33 = .ok (.iload 4, 2) := by decide +kernel
theorem dX6_days_35 : decode cX6_days 35 = .ok (.bipush 10, 2) := by decide +kernel
theorem dX6_days_37 : decode cX6_days 37 = .ok (.bipush 12, 2) := by decide +kernel
theorem dX6_days_39 : decode cX6_days 39 = .ok (.invokestatic 67, 3) := by decide +kernel
theorem dX6_days_42 : decode cX6_days 42 = .ok (.aload 5, 2) := by decide +kernel
theorem dX6_days_44 : decode cX6_days 44 = .ok (.getfield 99, 3) := by decide +kernel
theorem dX6_days_47 : decode cX6_days 47 = .ok (.iload 4, 2) := by decide +kernel
theorem dX6_days_49 : decode cX6_days 49 = .ok (.iload_n 2, 1) := by decide +kernel
theorem dX6_days_50 : decode cX6_days 50 = .ok (.iload_n 3, 1) := by decide +kernel
theorem dX6_days_51 : decode cX6_days 51 = .ok (.invokevirtual 132, 3) := by decide +kernel
theorem dX6_days_54 : decode cX6_days 54 = .ok (.ireturn, 1) := by decide +kernel
theorem dX6_lease_0 : decode cX6_lease 0 = .ok (.aload_n 0, 1) := by decide +kernel
theorem dX6_lease_1 : decode cX6_lease 1 = .ok (.iload_n 1, 1) := by decide +kernel
theorem dX6_lease_2 : decode cX6_lease 2 = .ok (.invokevirtual 84, 3) := by decide +kernel
theorem dX6_lease_5 : decode cX6_lease 5 = .ok (.astore 4, 2) := by decide +kernel
theorem dX6_lease_7 : decode cX6_lease 7 = .ok (.iload_n 2, 1) := by decide +kernel
theorem dX6_lease_8 : decode cX6_lease 8 = .ok (.iconst 0, 1) := by decide +kernel
theorem dX6_lease_9 : decode cX6_lease 9 = .ok (.sipush 9999, 3) := by decide +kernel
theorem dX6_lease_12 : decode cX6_lease 12 = .ok (.invokestatic 67, 3) := by decide +kernel
theorem dX6_lease_15 : decode cX6_lease 15 = .ok (.iload_n 3, 1) := by decide +kernel
theorem dX6_lease_16 : decode cX6_lease 16 = .ok (.iload_n 2, 1) := by decide +kernel
theorem dX6_lease_17 : decode cX6_lease 17 = .ok (.sipush 9999, 3) := by decide +kernel
theorem dX6_lease_20 : decode cX6_lease 20 = .ok (.invokestatic 67, 3) := by decide +kernel
theorem dX6_lease_23 : decode cX6_lease 23 = .ok (.aload 4, 2) := by decide +kernel
theorem dX6_lease_25 : decode cX6_lease 25 = .ok (.getfield 136, 3) := by decide +kernel
theorem dX6_lease_28 : decode cX6_lease 28 = .ok (.iconst (-1), 1) := by decide +kernel
theorem dX6_lease_29 : decode cX6_lease 29 = .ok (.if_icmp .ne 13, 3) := by decide +kernel
theorem dX6_lease_32 : decode cX6_lease 32 = .ok (.new 77, 3) := by decide +kernel
theorem dX6_lease_35 : decode cX6_lease 35 = .ok (.dup, 1) := by decide +kernel
theorem dX6_lease_36 : decode cX6_lease 36 = .ok (.ldc 139, 2) := by decide +kernel
theorem dX6_lease_38 : decode cX6_lease 38 = .ok (.invokespecial 81, 3) := by decide +kernel
theorem dX6_lease_41 : decode cX6_lease 41 = .ok (.athrow, 1) := by decide +kernel
theorem dX6_lease_42 : decode cX6_lease 42 = .ok (.aload 4, 2) := by decide +kernel
theorem dX6_lease_44 : decode cX6_lease 44 = .ok (.invokestatic 88, 3) := by decide +kernel
theorem dX6_lease_47 : decode cX6_lease 47 = .ok (.aload 4, 2) := by decide +kernel
theorem dX6_lease_49 : decode cX6_lease 49 = .ok (.getfield 141, 3) := by decide +kernel
theorem dX6_lease_52 : decode cX6_lease 52 = .ok (.invokevirtual 145, 3) := by decide +kernel
theorem dX6_lease_55 : decode cX6_lease 55 = .ok (.ifCond .eq 13, 3) := by decide +kernel
theorem dX6_lease_58 : decode cX6_lease 58 = .ok (.new 77, 3) := by decide +kernel
theorem dX6_lease_61 : decode cX6_lease 61 = .ok (.dup, 1) := by decide +kernel
theorem dX6_lease_62 : decode cX6_lease 62 = .ok (.ldc 148, 2) := by decide +kernel
theorem dX6_lease_64 : decode cX6_lease 64 = .ok (.invokespecial 81, 3) := by decide +kernel
theorem dX6_lease_67 : decode cX6_lease 67 = .ok (.athrow, 1) := by decide +kernel
theorem dX6_lease_68 : decode cX6_lease 68 = .ok (.aload 4, 2) := by decide +kernel
theorem dX6_lease_70 : decode cX6_lease 70 = .ok (.getfield 141, 3) := by decide +kernel
theorem dX6_lease_73 : decode cX6_lease 73 = .ok (.iload_n 2, 1) := by decide +kernel
theorem dX6_lease_74 : decode cX6_lease 74 = .ok (.iload_n 3, 1) := by decide +kernel
theorem dX6_lease_75 : decode cX6_lease 75 = .ok (.invokevirtual 150, 3) := by decide +kernel
theorem dX6_lease_78 : decode cX6_lease 78 = .ok (.return_, 1) := by decide +kernel
theorem dX6_free_0 : decode cX6_free 0 = .ok (.iload_n 1, 1) := by decide +kernel
theorem dX6_free_1 : decode cX6_free 1 = .ok (.iconst 0, 1) := by decide +kernel
theorem dX6_free_2 : decode cX6_free 2 = .ok (.bipush 30, 2) := by decide +kernel
theorem dX6_free_4 : decode cX6_free 4 = .ok (.invokestatic 67, 3) := by decide +kernel
theorem dX6_free_7 : decode cX6_free 7 = .ok (.aload_n 0, 1) := by decide +kernel
theorem dX6_free_8 : decode cX6_free 8 = .ok (.getfield 50, 3) := by decide +kernel
theorem dX6_free_11 : decode cX6_free 11 = .ok (.istore_n 2, 1) := by decide +kernel
theorem dX6_free_12 : decode cX6_free 12 = .ok (.aload_n 0, 1) := by decide +kernel
theorem dX6_free_13 : decode cX6_free 13 = .ok (.iload_n 1, 1) := by decide +kernel
theorem dX6_free_14 : decode cX6_free 14 = .ok (.putfield 50, 3) := by decide +kernel
theorem dX6_free_17 : decode cX6_free 17 = .ok (.iload_n 2, 1) := by decide +kernel
theorem dX6_free_18 : decode cX6_free 18 = .ok (.ireturn, 1) := by decide +kernel
theorem dX6_payer_0 : decode cX6_payer 0 = .ok (.aload_n 0, 1) := by decide +kernel
theorem dX6_payer_1 : decode cX6_payer 1 = .ok (.iload_n 1, 1) := by decide +kernel
theorem dX6_payer_2 : decode cX6_payer 2 = .ok (.invokevirtual 84, 3) := by decide +kernel
theorem dX6_payer_5 : decode cX6_payer 5 = .ok (.astore_n 3, 1) := by decide +kernel
theorem dX6_payer_6 : decode cX6_payer 6 = .ok (.iload_n 2, 1) := by decide +kernel
theorem dX6_payer_7 : decode cX6_payer 7 = .ok (.iconst 0, 1) := by decide +kernel
theorem dX6_payer_8 : decode cX6_payer 8 = .ok (.sipush 9999, 3) := by decide +kernel
theorem dX6_payer_11 : decode cX6_payer 11 = .ok (.invokestatic 67, 3) := by decide +kernel
theorem dX6_payer_14 : decode cX6_payer 14 = .ok (.aload_n 3, 1) := by decide +kernel
theorem dX6_payer_15 : decode cX6_payer 15 = .ok (.getfield 99, 3) := by decide +kernel
theorem dX6_payer_18 : decode cX6_payer 18 = .ok (.bipush 11, 2) := by decide +kernel
theorem dX6_payer_20 : decode cX6_payer 20 = .ok (.iload_n 2, 1) := by decide +kernel
theorem dX6_payer_21 : decode cX6_payer 21 = .ok (.aload_n 0, 1) := by decide +kernel
theorem dX6_payer_22 : decode cX6_payer 22 = .ok (.getfield 50, 3) := by decide +kernel
theorem dX6_payer_25 : decode cX6_payer 25 = .ok (.isub, 1) := by decide +kernel
theorem dX6_payer_26 : decode cX6_payer 26 = .ok (.iload_n 2, 1) := by decide +kernel
theorem dX6_payer_27 : decode cX6_payer 27 = .ok (.invokevirtual 132, 3) := by decide +kernel
theorem dX6_payer_30 : decode cX6_payer 30 = .ok (.aload_n 0, 1) := by decide +kernel
theorem dX6_payer_31 : decode cX6_payer 31 = .ok (.getfield 50, 3) := by decide +kernel
theorem dX6_payer_34 : decode cX6_payer 34 = .ok (.iconst 1, 1) := by decide +kernel
theorem dX6_payer_35 : decode cX6_payer 35 = .ok (.iadd, 1) := by decide +kernel
theorem dX6_payer_36 : decode cX6_payer 36 = .ok (.if_icmp .ne 5, 3) := by decide +kernel
theorem dX6_payer_39 : decode cX6_payer 39 = .ok (.iconst 2, 1) := by decide +kernel
theorem dX6_payer_40 : decode cX6_payer 40 = .ok (.ireturn, 1) := by decide +kernel
theorem dX6_payer_41 : decode cX6_payer 41 = .ok (.aload_n 3, 1) := by decide +kernel
theorem dX6_payer_42 : decode cX6_payer 42 = .ok (.getfield 136, 3) := by decide +kernel
theorem dX6_payer_45 : decode cX6_payer 45 = .ok (.iconst (-1), 1) := by decide +kernel
theorem dX6_payer_46 : decode cX6_payer 46 = .ok (.if_icmp .eq 14, 3) := by decide +kernel
theorem dX6_payer_49 : decode cX6_payer 49 = .ok (.aload_n 3, 1) := by decide +kernel
theorem dX6_payer_50 : decode cX6_payer 50 = .ok (.getfield 141, 3) := by decide +kernel
theorem dX6_payer_53 : decode cX6_payer 53 = .ok (.iload_n 2, 1) := by decide +kernel
theorem dX6_payer_54 : decode cX6_payer 54 = .ok (.invokevirtual 153, 3) := by decide +kernel
theorem dX6_payer_57 : decode cX6_payer 57 = .ok (.ifCond .eq 7, 3) := by decide +kernel
theorem dX6_payer_60 : decode cX6_payer 60 = .ok (.iconst 0, 1) := by decide +kernel
theorem dX6_payer_61 : decode cX6_payer 61 = .ok (.goto 4, 3) := by decide +kernel
theorem dX6_payer_64 : decode cX6_payer 64 = .ok (.iconst 1, 1) := by decide +kernel
theorem dX6_payer_65 : decode cX6_payer 65 = .ok (.ireturn, 1) := by decide +kernel
theorem dX6_quota_0 : decode cX6_quota 0 = .ok (.iload_n 1, 1) := by decide +kernel
theorem dX6_quota_1 : decode cX6_quota 1 = .ok (.invokestatic 71, 3) := by decide +kernel
theorem dX6_quota_4 : decode cX6_quota 4 = .ok (.iload_n 2, 1) := by decide +kernel
theorem dX6_quota_5 : decode cX6_quota 5 = .ok (.invokestatic 56, 3) := by decide +kernel
theorem dX6_quota_8 : decode cX6_quota 8 = .ok (.iload_n 3, 1) := by decide +kernel
theorem dX6_quota_9 : decode cX6_quota 9 = .ok (.iconst 0, 1) := by decide +kernel
theorem dX6_quota_10 : decode cX6_quota 10 = .ok (.bipush 9, 2) := by decide +kernel
theorem dX6_quota_12 : decode cX6_quota 12 = .ok (.invokestatic 67, 3) := by decide +kernel
theorem dX6_quota_15 : decode cX6_quota 15 = .ok (.aload_n 0, 1) := by decide +kernel
theorem dX6_quota_16 : decode cX6_quota 16 = .ok (.getfield 14, 3) := by decide +kernel
theorem dX6_quota_19 : decode cX6_quota 19 = .ok (.iload_n 1, 1) := by decide +kernel
theorem dX6_quota_20 : decode cX6_quota 20 = .ok (.aaload, 1) := by decide +kernel
theorem dX6_quota_21 : decode cX6_quota 21 = .ok (.iload_n 2, 1) := by decide +kernel
theorem dX6_quota_22 : decode cX6_quota 22 = .ok (.iaload, 1) := by decide +kernel
theorem dX6_quota_23 : decode cX6_quota 23 = .ok (.istore 4, 2) := by decide +kernel
theorem dX6_quota_25 : decode cX6_quota 25 = .ok (.aload_n 0, 1) := by decide +kernel
theorem dX6_quota_26 : decode cX6_quota 26 = .ok (.getfield 14, 3) := by decide +kernel
theorem dX6_quota_29 : decode cX6_quota 29 = .ok (.iload_n 1, 1) := by decide +kernel
theorem dX6_quota_30 : decode cX6_quota 30 = .ok (.aaload, 1) := by decide +kernel
theorem dX6_quota_31 : decode cX6_quota 31 = .ok (.iload_n 2, 1) := by decide +kernel
theorem dX6_quota_32 : decode cX6_quota 32 = .ok (.iload_n 3, 1) := by decide +kernel
theorem dX6_quota_33 : decode cX6_quota 33 = .ok (.iastore, 1) := by decide +kernel
theorem dX6_quota_34 : decode cX6_quota 34 = .ok (.iload 4, 2) := by decide +kernel
theorem dX6_quota_36 : decode cX6_quota 36 = .ok (.ireturn, 1) := by decide +kernel
theorem dX6_handIn_0 : decode cX6_handIn 0 = .ok (.aload_n 0, 1) := by decide +kernel
theorem dX6_handIn_1 : decode cX6_handIn 1 = .ok (.iload_n 1, 1) := by decide +kernel
theorem dX6_handIn_2 : decode cX6_handIn 2 = .ok (.invokevirtual 84, 3) := by decide +kernel
theorem dX6_handIn_5 : decode cX6_handIn 5 = .ok (.astore_n 2, 1) := by decide +kernel
theorem dX6_handIn_6 : decode cX6_handIn 6 = .ok (.aload_n 2, 1) := by decide +kernel
theorem dX6_handIn_7 : decode cX6_handIn 7 = .ok (.invokestatic 88, 3) := by decide +kernel
theorem dX6_handIn_10 : decode cX6_handIn 10 = .ok (.aload_n 2, 1) := by decide +kernel
theorem dX6_handIn_11 : decode cX6_handIn 11 = .ok (.getfield 141, 3) := by decide +kernel
theorem dX6_handIn_14 : decode cX6_handIn 14 = .ok (.aload_n 0, 1) := by decide +kernel
theorem dX6_handIn_15 : decode cX6_handIn 15 = .ok (.getfield 47, 3) := by decide +kernel
theorem dX6_handIn_18 : decode cX6_handIn 18 = .ok (.invokevirtual 153, 3) := by decide +kernel
theorem dX6_handIn_21 : decode cX6_handIn 21 = .ok (.ifCond .ne 13, 3) := by decide +kernel
theorem dX6_handIn_24 : decode cX6_handIn 24 = .ok (.new 77, 3) := by decide +kernel
theorem dX6_handIn_27 : decode cX6_handIn 27 = .ok (.dup, 1) := by decide +kernel
theorem dX6_handIn_28 : decode cX6_handIn 28 = .ok (.ldc 156, 2) := by decide +kernel
theorem dX6_handIn_30 : decode cX6_handIn 30 = .ok (.invokespecial 81, 3) := by decide +kernel
theorem dX6_handIn_33 : decode cX6_handIn 33 = .ok (.athrow, 1) := by decide +kernel
theorem dX6_handIn_34 : decode cX6_handIn 34 = .ok (.aload_n 2, 1) := by decide +kernel
theorem dX6_handIn_35 : decode cX6_handIn 35 = .ok (.getfield 99, 3) := by decide +kernel
theorem dX6_handIn_38 : decode cX6_handIn 38 = .ok (.aload_n 0, 1) := by decide +kernel
theorem dX6_handIn_39 : decode cX6_handIn 39 = .ok (.getfield 47, 3) := by decide +kernel
theorem dX6_handIn_42 : decode cX6_handIn 42 = .ok (.invokevirtual 121, 3) := by decide +kernel
theorem dX6_handIn_45 : decode cX6_handIn 45 = .ok (.istore_n 3, 1) := by decide +kernel
theorem dX6_handIn_46 : decode cX6_handIn 46 = .ok (.iload_n 3, 1) := by decide +kernel
theorem dX6_handIn_47 : decode cX6_handIn 47 = .ok (.invokestatic 128, 3) := by decide +kernel
theorem dX6_handIn_50 : decode cX6_handIn 50 = .ok (.ifCond .ne 13, 3) := by decide +kernel
theorem dX6_handIn_53 : decode cX6_handIn 53 = .ok (.new 77, 3) := by decide +kernel
theorem dX6_handIn_56 : decode cX6_handIn 56 = .ok (.dup, 1) := by decide +kernel
theorem dX6_handIn_57 : decode cX6_handIn 57 = .ok (.ldc 158, 2) := by decide +kernel
theorem dX6_handIn_59 : decode cX6_handIn 59 = .ok (.invokespecial 81, 3) := by decide +kernel
theorem dX6_handIn_62 : decode cX6_handIn 62 = .ok (.athrow, 1) := by decide +kernel
theorem dX6_handIn_63 : decode cX6_handIn 63 = .ok (.aload_n 2, 1) := by decide +kernel
theorem dX6_handIn_64 : decode cX6_handIn 64 = .ok (.getfield 160, 3) := by decide +kernel
theorem dX6_handIn_67 : decode cX6_handIn 67 = .ok (.iconst (-1), 1) := by decide +kernel
theorem dX6_handIn_68 : decode cX6_handIn 68 = .ok (.if_icmp .eq 13, 3) := by decide +kernel
theorem dX6_handIn_71 : decode cX6_handIn 71 = .ok (.new 77, 3) := by decide +kernel
theorem dX6_handIn_74 : decode cX6_handIn 74 = .ok (.dup, 1) := by decide +kernel
theorem dX6_handIn_75 : decode cX6_handIn 75 = .ok (.ldc 163, 2) := by decide +kernel
theorem dX6_handIn_77 : decode cX6_handIn 77 = .ok (.invokespecial 81, 3) := by decide +kernel
theorem dX6_handIn_80 : decode cX6_handIn 80 = .ok (.athrow, 1) := by decide +kernel
theorem dX6_handIn_81 : decode cX6_handIn 81 = .ok (.aload_n 0, 1) := by decide +kernel
theorem dX6_handIn_82 : decode cX6_handIn 82 = .ok (.aload_n 2, 1) := by decide +kernel
theorem dX6_handIn_83 : decode cX6_handIn 83 = .ok (.getfield 136, 3) := by decide +kernel
theorem dX6_handIn_86 : decode cX6_handIn 86 = .ok (.iload_n 3, 1) := by decide +kernel
theorem dX6_handIn_87 : decode cX6_handIn 87 = .ok (.invokevirtual 165, 3) := by decide +kernel
theorem dX6_handIn_90 : decode cX6_handIn 90 = .ok (.istore 4, 2) := by decide +kernel
theorem dX6_handIn_92 : decode cX6_handIn 92 = .ok (.iload 4, 2) := by decide +kernel
theorem dX6_handIn_94 : decode cX6_handIn 94 = .ok (.ifCond .gt 13, 3) := by decide +kernel
theorem dX6_handIn_97 : decode cX6_handIn 97 = .ok (.new 77, 3) := by decide +kernel
theorem dX6_handIn_100 : decode cX6_handIn 100 = .ok (.dup, 1) := by decide +kernel
theorem dX6_handIn_101 : decode cX6_handIn 101 = .ok (.ldc 169, 2) := by decide +kernel
theorem dX6_handIn_103 : decode cX6_handIn 103 = .ok (.invokespecial 81, 3) := by decide +kernel
theorem dX6_handIn_106 : decode cX6_handIn 106 = .ok (.athrow, 1) := by decide +kernel
theorem dX6_handIn_107 : decode cX6_handIn 107 = .ok (.aload_n 2, 1) := by decide +kernel
theorem dX6_handIn_108 : decode cX6_handIn 108 = .ok (.getfield 141, 3) := by decide +kernel
theorem dX6_handIn_111 : decode cX6_handIn 111 = .ok (.aload_n 0, 1) := by decide +kernel
theorem dX6_handIn_112 : decode cX6_handIn 112 = .ok (.getfield 47, 3) := by decide +kernel
theorem dX6_handIn_115 : decode cX6_handIn 115 = .ok (.invokevirtual 171, 3) := by decide +kernel
theorem dX6_handIn_118 : decode cX6_handIn 118 = .ok (.aload_n 2, 1) := by decide +kernel
theorem dX6_handIn_119 : decode cX6_handIn 119 = .ok (.aload_n 0, 1) := by decide +kernel
theorem dX6_handIn_120 : decode cX6_handIn 120 = .ok (.getfield 47, 3) := by decide +kernel
theorem dX6_handIn_123 : decode cX6_handIn 123 = .ok (.putfield 174, 3) := by decide +kernel
theorem dX6_handIn_126 : decode cX6_handIn 126 = .ok (.aload_n 2, 1) := by decide +kernel
theorem dX6_handIn_127 : decode cX6_handIn 127 = .ok (.iload_n 3, 1) := by decide +kernel
theorem dX6_handIn_128 : decode cX6_handIn 128 = .ok (.putfield 177, 3) := by decide +kernel
theorem dX6_handIn_131 : decode cX6_handIn 131 = .ok (.iload 4, 2) := by decide +kernel
theorem dX6_handIn_133 : decode cX6_handIn 133 = .ok (.iconst 1, 1) := by decide +kernel
theorem dX6_handIn_134 : decode cX6_handIn 134 = .ok (.isub, 1) := by decide +kernel
theorem dX6_handIn_135 : decode cX6_handIn 135 = .ok (.ireturn, 1) := by decide +kernel
theorem dX6_damage_0 : decode cX6_damage 0 = .ok (.aload_n 0, 1) := by decide +kernel
theorem dX6_damage_1 : decode cX6_damage 1 = .ok (.iload_n 1, 1) := by decide +kernel
theorem dX6_damage_2 : decode cX6_damage 2 = .ok (.invokevirtual 84, 3) := by decide +kernel
theorem dX6_damage_5 : decode cX6_damage 5 = .ok (.astore 4, 2) := by decide +kernel
theorem dX6_damage_7 : decode cX6_damage 7 = .ok (.iload_n 2, 1) := by decide +kernel
theorem dX6_damage_8 : decode cX6_damage 8 = .ok (.invokestatic 180, 3) := by decide +kernel
theorem dX6_damage_11 : decode cX6_damage 11 = .ok (.iload_n 3, 1) := by decide +kernel
theorem dX6_damage_12 : decode cX6_damage 12 = .ok (.iconst 1, 1) := by decide +kernel
theorem dX6_damage_13 : decode cX6_damage 13 = .ok (.bipush 20, 2) := by decide +kernel
theorem dX6_damage_15 : decode cX6_damage 15 = .ok (.invokestatic 67, 3) := by decide +kernel
theorem dX6_damage_18 : decode cX6_damage 18 = .ok (.aload 4, 2) := by decide +kernel
theorem dX6_damage_20 : decode cX6_damage 20 = .ok (.invokestatic 88, 3) := by decide +kernel
theorem dX6_damage_23 : decode cX6_damage 23 = .ok (.aload 4, 2) := by decide +kernel
theorem dX6_damage_25 : decode cX6_damage 25 = .ok (.getfield 183, 3) := by decide +kernel
theorem dX6_damage_28 : decode cX6_damage 28 = .ok (.invokevirtual 187, 3) := by decide +kernel
theorem dX6_damage_31 : decode cX6_damage 31 = .ok (.ifCond .eq 13, 3) := by decide +kernel
theorem dX6_damage_34 : decode cX6_damage 34 = .ok (.new 77, 3) := by decide +kernel
theorem dX6_damage_37 : decode cX6_damage 37 = .ok (.dup, 1) := by decide +kernel
theorem dX6_damage_38 : decode cX6_damage 38 = .ok (.ldc 190, 2) := by decide +kernel
theorem dX6_damage_40 : decode cX6_damage 40 = .ok (.invokespecial 81, 3) := by decide +kernel
theorem dX6_damage_43 : decode cX6_damage 43 = .ok (.athrow, 1) := by decide +kernel
theorem dX6_damage_44 : decode cX6_damage 44 = .ok (.aload 4, 2) := by decide +kernel
theorem dX6_damage_46 : decode cX6_damage 46 = .ok (.getfield 183, 3) := by decide +kernel
theorem dX6_damage_49 : decode cX6_damage 49 = .ok (.iload_n 2, 1) := by decide +kernel
theorem dX6_damage_50 : decode cX6_damage 50 = .ok (.iload_n 3, 1) := by decide +kernel
theorem dX6_damage_51 : decode cX6_damage 51 = .ok (.invokevirtual 192, 3) := by decide +kernel
theorem dX6_damage_54 : decode cX6_damage 54 = .ok (.aload 4, 2) := by decide +kernel
theorem dX6_damage_56 : decode cX6_damage 56 = .ok (.getfield 183, 3) := by decide +kernel
theorem dX6_damage_59 : decode cX6_damage 59 = .ok (.aload_n 0, 1) := by decide +kernel
theorem dX6_damage_60 : decode cX6_damage 60 = .ok (.getfield 17, 3) := by decide +kernel
theorem dX6_damage_63 : decode cX6_damage 63 = .ok (.invokevirtual 193, 3) := by decide +kernel
theorem dX6_damage_66 : decode cX6_damage 66 = .ok (.ireturn, 1) := by decide +kernel
theorem dX6_standard_0 : decode cX6_standard 0 = .ok (.iload_n 1, 1) := by decide +kernel
theorem dX6_standard_1 : decode cX6_standard 1 = .ok (.invokestatic 180, 3) := by decide +kernel
theorem dX6_standard_4 : decode cX6_standard 4 = .ok (.iload_n 2, 1) := by decide +kernel
theorem dX6_standard_5 : decode cX6_standard 5 = .ok (.iconst 0, 1) := by decide +kernel
theorem dX6_standard_6 : decode cX6_standard 6 = .ok (.bipush 20, 2) := by decide +kernel
theorem dX6_standard_8 : decode cX6_standard 8 = .ok (.invokestatic 67, 3) := by decide +kernel
theorem dX6_standard_11 : decode cX6_standard 11 = .ok (.aload_n 0, 1) := by decide +kernel
theorem dX6_standard_12 : decode cX6_standard 12 = .ok (.getfield 17, 3) := by decide +kernel
theorem dX6_standard_15 : decode cX6_standard 15 = .ok (.iload_n 1, 1) := by decide +kernel
theorem dX6_standard_16 : decode cX6_standard 16 = .ok (.iaload, 1) := by decide +kernel
theorem dX6_standard_17 : decode cX6_standard 17 = .ok (.istore_n 3, 1) := by decide +kernel
theorem dX6_standard_18 : decode cX6_standard 18 = .ok (.aload_n 0, 1) := by decide +kernel
theorem dX6_standard_19 : decode cX6_standard 19 = .ok (.getfield 17, 3) := by decide +kernel
theorem dX6_standard_22 : decode cX6_standard 22 = .ok (.iload_n 1, 1) := by decide +kernel
theorem dX6_standard_23 : decode cX6_standard 23 = .ok (.iload_n 2, 1) := by decide +kernel
theorem dX6_standard_24 : decode cX6_standard 24 = .ok (.iastore, 1) := by decide +kernel
theorem dX6_standard_25 : decode cX6_standard 25 = .ok (.iload_n 3, 1) := by decide +kernel
theorem dX6_standard_26 : decode cX6_standard 26 = .ok (.ireturn, 1) := by decide +kernel
theorem dX6_limit_0 : decode cX6_limit 0 = .ok (.iload_n 1, 1) := by decide +kernel
theorem dX6_limit_1 : decode cX6_limit 1 = .ok (.iconst 0, 1) := by decide +kernel
theorem dX6_limit_2 : decode cX6_limit 2 = .ok (.sipush 9999, 3) := by decide +kernel
theorem dX6_limit_5 : decode cX6_limit 5 = .ok (.invokestatic 67, 3) := by decide +kernel
theorem dX6_limit_8 : decode cX6_limit 8 = .ok (.aload_n 0, 1) := by decide +kernel
theorem dX6_limit_9 : decode cX6_limit 9 = .ok (.getfield 53, 3) := by decide +kernel
theorem dX6_limit_12 : decode cX6_limit 12 = .ok (.istore_n 2, 1) := by decide +kernel
theorem dX6_limit_13 : decode cX6_limit 13 = .ok (.aload_n 0, 1) := by decide +kernel
theorem dX6_limit_14 : decode cX6_limit 14 = .ok (.iload_n 1, 1) := by decide +kernel
theorem dX6_limit_15 : decode cX6_limit 15 = .ok (.putfield 53, 3) := by decide +kernel
theorem dX6_limit_18 : decode cX6_limit 18 = .ok (.iload_n 2, 1) := by decide +kernel
theorem dX6_limit_19 : decode cX6_limit 19 = .ok (.ireturn, 1) := by decide +kernel
theorem dX6_mend_0 : decode cX6_mend 0 = .ok (.aload_n 0, 1) := by decide +kernel
theorem dX6_mend_1 : decode cX6_mend 1 = .ok (.iload_n 1, 1) := by decide +kernel
theorem dX6_mend_2 : decode cX6_mend 2 = .ok (.invokevirtual 84, 3) := by decide +kernel
theorem dX6_mend_5 : decode cX6_mend 5 = .ok (.astore_n 2, 1) := by decide +kernel
theorem dX6_mend_6 : decode cX6_mend 6 = .ok (.aload_n 2, 1) := by decide +kernel
theorem dX6_mend_7 : decode cX6_mend 7 = .ok (.invokestatic 88, 3) := by decide +kernel
theorem dX6_mend_10 : decode cX6_mend 10 = .ok (.aload_n 2, 1) := by decide +kernel
theorem dX6_mend_11 : decode cX6_mend 11 = .ok (.getfield 183, 3) := by decide +kernel
theorem dX6_mend_14 : decode cX6_mend 14 = .ok (.aload_n 0, 1) := by decide +kernel
theorem dX6_mend_15 : decode cX6_mend 15 = .ok (.getfield 17, 3) := by decide +kernel
theorem dX6_mend_18 : decode cX6_mend 18 = .ok (.invokevirtual 193, 3) := by decide +kernel
theorem dX6_mend_21 : decode cX6_mend 21 = .ok (.istore_n 3, 1) := by decide +kernel
theorem dX6_mend_22 : decode cX6_mend 22 = .ok (.iload_n 3, 1) := by decide +kernel
theorem dX6_mend_23 : decode cX6_mend 23 = .ok (.ifCond .ne 13, 3) := by decide +kernel
theorem dX6_mend_26 : decode cX6_mend 26 = .ok (.new 77, 3) := by decide +kernel
theorem dX6_mend_29 : decode cX6_mend 29 = .ok (.dup, 1) := by decide +kernel
theorem dX6_mend_30 : decode cX6_mend 30 = .ok (.ldc 197, 2) := by decide +kernel
theorem dX6_mend_32 : decode cX6_mend 32 = .ok (.invokespecial 81, 3) := by decide +kernel
theorem dX6_mend_35 : decode cX6_mend 35 = .ok (.athrow, 1) := by decide +kernel
theorem dX6_mend_36 : decode cX6_mend 36 = .ok (.iload_n 3, 1) := by decide +kernel
theorem dX6_mend_37 : decode cX6_mend 37 = .ok (.aload_n 0, 1) := by decide +kernel
theorem dX6_mend_38 : decode cX6_mend 38 = .ok (.getfield 53, 3) := by decide +kernel
theorem dX6_mend_41 : decode cX6_mend 41 = .ok (.if_icmp .le 13, 3) := by decide +kernel
theorem dX6_mend_44 : decode cX6_mend 44 = .ok (.new 77, 3) := by decide +kernel
theorem dX6_mend_47 : decode cX6_mend 47 = .ok (.dup, 1) := by decide +kernel
theorem dX6_mend_48 : decode cX6_mend 48 = .ok (.ldc 199, 2) := by decide +kernel
theorem dX6_mend_50 : decode cX6_mend 50 = .ok (.invokespecial 81, 3) := by decide +kernel
theorem dX6_mend_53 : decode cX6_mend 53 = .ok (.athrow, 1) := by decide +kernel
theorem dX6_mend_54 : decode cX6_mend 54 = .ok (.aload_n 2, 1) := by decide +kernel
theorem dX6_mend_55 : decode cX6_mend 55 = .ok (.getfield 183, 3) := by decide +kernel
theorem dX6_mend_58 : decode cX6_mend 58 = .ok (.invokevirtual 201, 3) := by decide +kernel
theorem dX6_mend_61 : decode cX6_mend 61 = .ok (.iload_n 3, 1) := by decide +kernel
theorem dX6_mend_62 : decode cX6_mend 62 = .ok (.ireturn, 1) := by decide +kernel
theorem dX6_book_0 : decode cX6_book 0 = .ok (.iload_n 1, 1) := by decide +kernel
theorem dX6_book_1 : decode cX6_book 1 = .ok (.invokestatic 56, 3) := by decide +kernel
theorem dX6_book_4 : decode cX6_book 4 = .ok (.iload_n 2, 1) := by decide +kernel
theorem dX6_book_5 : decode cX6_book 5 = .ok (.invokestatic 74, 3) := by decide +kernel
theorem dX6_book_8 : decode cX6_book 8 = .ok (.iload_n 3, 1) := by decide +kernel
theorem dX6_book_9 : decode cX6_book 9 = .ok (.iconst 1, 1) := by decide +kernel
theorem dX6_book_10 : decode cX6_book 10 = .ok (.bipush 9, 2) := by decide +kernel
theorem dX6_book_12 : decode cX6_book 12 = .ok (.invokestatic 67, 3) := by decide +kernel
theorem dX6_book_15 : decode cX6_book 15 = .ok (.aload_n 0, 1) := by decide +kernel
theorem dX6_book_16 : decode cX6_book 16 = .ok (.getfield 44, 3) := by decide +kernel
theorem dX6_book_19 : decode cX6_book 19 = .ok (.bipush 20, 2) := by decide +kernel
theorem dX6_book_21 : decode cX6_book 21 = .ok (.if_icmp .lt 13, 3) := by decide +kernel
theorem dX6_book_24 : decode cX6_book 24 = .ok (.new 77, 3) := by decide +kernel
theorem dX6_book_27 : decode cX6_book 27 = .ok (.dup, 1) := by decide +kernel
theorem dX6_book_28 : decode cX6_book 28 = .ok (.ldc 204, 2) := by decide +kernel
theorem dX6_book_30 : decode cX6_book 30 = .ok (.invokespecial 81, 3) := by decide +kernel
theorem dX6_book_33 : decode cX6_book 33 = .ok (.athrow, 1) := by decide +kernel
theorem dX6_book_34 : decode cX6_book 34 = .ok (.aload_n 0, 1) := by decide +kernel
theorem dX6_book_35 : decode cX6_book 35 = .ok (.getfield 44, 3) := by decide +kernel
theorem dX6_book_38 : decode cX6_book 38 = .ok (.istore 4, 2) := by decide +kernel
theorem dX6_book_40 : decode cX6_book 40 = .ok (.aload_n 0, 1) := by decide +kernel
theorem dX6_book_41 : decode cX6_book 41 = .ok (.getfield 29, 3) := by decide +kernel
theorem dX6_book_44 : decode cX6_book 44 = .ok (.iload 4, 2) := by decide +kernel
theorem dX6_book_46 : decode cX6_book 46 = .ok (.new 27, 3) := by decide +kernel
theorem dX6_book_49 : decode cX6_book 49 = .ok (.dup, 1) := by decide +kernel
theorem dX6_book_50 : decode cX6_book 50 = .ok (.iload_n 1, 1) := by decide +kernel
theorem dX6_book_51 : decode cX6_book 51 = .ok (.iload_n 2, 1) := by decide +kernel
theorem dX6_book_52 : decode cX6_book 52 = .ok (.iload_n 3, 1) := by decide +kernel
theorem dX6_book_53 : decode cX6_book 53 = .ok (.invokespecial 206, 3) := by decide +kernel
theorem dX6_book_56 : decode cX6_book 56 = .ok (.aastore, 1) := by decide +kernel
theorem dX6_book_57 : decode cX6_book 57 = .ok (.aload_n 0, 1) := by decide +kernel
theorem dX6_book_58 : decode cX6_book 58 = .ok (.dup, 1) := by decide +kernel
theorem dX6_book_59 : decode cX6_book 59 = .ok (.getfield 44, 3) := by decide +kernel
theorem dX6_book_62 : decode cX6_book 62 = .ok (.iconst 1, 1) := by decide +kernel
theorem dX6_book_63 : decode cX6_book 63 = .ok (.iadd, 1) := by decide +kernel
theorem dX6_book_64 : decode cX6_book 64 = .ok (.putfield 44, 3) := by decide +kernel
theorem dX6_book_67 : decode cX6_book 67 = .ok (.iload 4, 2) := by decide +kernel
theorem dX6_book_69 : decode cX6_book 69 = .ok (.ireturn, 1) := by decide +kernel
theorem dX6_serve_0 : decode cX6_serve 0 = .ok (.iconst 0, 1) := by decide +kernel
theorem dX6_serve_1 : decode cX6_serve 1 = .ok (.istore_n 1, 1) := by decide +kernel
theorem dX6_serve_2 : decode cX6_serve 2 = .ok (.iconst 0, 1) := by decide +kernel
theorem dX6_serve_3 : decode cX6_serve 3 = .ok (.istore_n 2, 1) := by decide +kernel
theorem dX6_serve_4 : decode cX6_serve 4 = .ok (.iload_n 2, 1) := by decide +kernel
theorem dX6_serve_5 : decode cX6_serve 5 = .ok (.aload_n 0, 1) := by decide +kernel
theorem dX6_serve_6 : decode cX6_serve 6 = .ok (.getfield 29, 3) := by decide +kernel
theorem dX6_serve_9 : decode cX6_serve 9 = .ok (.arraylength, 1) := by decide +kernel
theorem dX6_serve_10 : decode cX6_serve 10 = .ok (.if_icmp .ge 49, 3) := by decide +kernel
theorem dX6_serve_13 : decode cX6_serve 13 = .ok (.aload_n 0, 1) := by decide +kernel
theorem dX6_serve_14 : decode cX6_serve 14 = .ok (.getfield 29, 3) := by decide +kernel
theorem dX6_serve_17 : decode cX6_serve 17 = .ok (.iload_n 2, 1) := by decide +kernel
theorem dX6_serve_18 : decode cX6_serve 18 = .ok (.aaload, 1) := by decide +kernel
theorem dX6_serve_19 : decode cX6_serve 19 = .ok (.astore_n 3, 1) := by decide +kernel
theorem dX6_serve_20 : decode cX6_serve 20 = .ok (.aload_n 3, 1) := by decide +kernel
theorem dX6_serve_21 : decode cX6_serve 21 = .ok (.ifnull 32, 3) := by decide +kernel
theorem dX6_serve_24 : decode cX6_serve 24 = .ok (.aload_n 3, 1) := by decide +kernel
theorem dX6_serve_25 : decode cX6_serve 25 = .ok (.getfield 207, 3) := by decide +kernel
theorem dX6_serve_28 : decode cX6_serve 28 = .ok (.istore 4, 2) := by decide +kernel
theorem dX6_serve_30 : decode cX6_serve 30 = .ok (.iload 4, 2) := by decide +kernel
theorem dX6_serve_32 : decode cX6_serve 32 = .ok (.iconst 3, 1) := by decide +kernel
theorem dX6_serve_33 : decode cX6_serve 33 = .ok (.if_icmp .ge 20, 3) := by decide +kernel
theorem dX6_serve_36 : decode cX6_serve 36 = .ok (.iload_n 1, 1) := by decide +kernel
theorem dX6_serve_37 : decode cX6_serve 37 = .ok (.aload_n 0, 1) := by decide +kernel
theorem dX6_serve_38 : decode cX6_serve 38 = .ok (.aload_n 3, 1) := by decide +kernel
theorem dX6_serve_39 : decode cX6_serve 39 = .ok (.iload_n 2, 1) := by decide +kernel
theorem dX6_serve_40 : decode cX6_serve 40 = .ok (.iload 4, 2) := by decide +kernel
theorem dX6_serve_42 : decode cX6_serve 42 = .ok (.invokevirtual 208, 3) := by decide +kernel
theorem dX6_serve_45 : decode cX6_serve 45 = .ok (.iadd, 1) := by decide +kernel
theorem dX6_serve_46 : decode cX6_serve 46 = .ok (.istore_n 1, 1) := by decide +kernel
theorem dX6_serve_47 : decode cX6_serve 47 = .ok (.iinc 4 1, 3) := by decide +kernel
theorem dX6_serve_50 : decode cX6_serve 50 = .ok (.goto (-20), 3) := by decide +kernel
theorem dX6_serve_53 : decode cX6_serve 53 = .ok (.iinc 2 1, 3) := by decide +kernel
theorem dX6_serve_56 : decode cX6_serve 56 = .ok (.goto (-52), 3) := by decide +kernel
theorem dX6_serve_59 : decode cX6_serve 59 = .ok (.iload_n 1, 1) := by decide +kernel
theorem dX6_serve_60 : decode cX6_serve 60 = .ok (.ireturn, 1) := by decide +kernel
theorem dX6_end_0 : decode cX6_end 0 = .ok (.aload_n 0, 1) := by decide +kernel
theorem dX6_end_1 : decode cX6_end 1 = .ok (.iload_n 1, 1) := by decide +kernel
theorem dX6_end_2 : decode cX6_end 2 = .ok (.invokevirtual 212, 3) := by decide +kernel
theorem dX6_end_5 : decode cX6_end 5 = .ok (.astore_n 2, 1) := by decide +kernel
theorem dX6_end_6 : decode cX6_end 6 = .ok (.aload_n 2, 1) := by decide +kernel
theorem dX6_end_7 : decode cX6_end 7 = .ok (.getfield 216, 3) := by decide +kernel
theorem dX6_end_10 : decode cX6_end 10 = .ok (.ifCond .eq 13, 3) := by decide +kernel
theorem dX6_end_13 : decode cX6_end 13 = .ok (.new 77, 3) := by decide +kernel
theorem dX6_end_16 : decode cX6_end 16 = .ok (.dup, 1) := by decide +kernel
theorem dX6_end_17 : decode cX6_end 17 = .ok (.ldc 219, 2) := by decide +kernel
theorem dX6_end_19 : decode cX6_end 19 = .ok (.invokespecial 81, 3) := by decide +kernel
theorem dX6_end_22 : decode cX6_end 22 = .ok (.athrow, 1) := by decide +kernel
theorem dX6_end_23 : decode cX6_end 23 = .ok (.aload_n 2, 1) := by decide +kernel
theorem dX6_end_24 : decode cX6_end 24 = .ok (.iconst 1, 1) := by decide +kernel
theorem dX6_end_25 : decode cX6_end 25 = .ok (.putfield 216, 3) := by decide +kernel
theorem dX6_end_28 : decode cX6_end 28 = .ok (.aload_n 0, 1) := by decide +kernel
theorem dX6_end_29 : decode cX6_end 29 = .ok (.getfield 23, 3) := by decide +kernel
theorem dX6_end_32 : decode cX6_end 32 = .ok (.astore_n 3, 1) := by decide +kernel
theorem dX6_end_33 : decode cX6_end 33 = .ok (.aload_n 3, 1) := by decide +kernel
theorem dX6_end_34 : decode cX6_end 34 = .ok (.arraylength, 1) := by decide +kernel
theorem dX6_end_35 : decode cX6_end 35 = .ok (.istore 4, 2) := by decide +kernel
theorem dX6_end_37 : decode cX6_end 37 = .ok (.iconst 0, 1) := by decide +kernel
theorem dX6_end_38 : decode cX6_end 38 = .ok (.istore 5, 2) := by decide +kernel
theorem dX6_end_40 : decode cX6_end 40 = .ok (.iload 5, 2) := by decide +kernel
theorem dX6_end_42 : decode cX6_end 42 = .ok (.iload 4, 2) := by decide +kernel
theorem dX6_end_44 : decode cX6_end 44 = .ok (.if_icmp .ge 41, 3) := by decide +kernel
theorem dX6_end_47 : decode cX6_end 47 = .ok (.aload_n 3, 1) := by decide +kernel
theorem dX6_end_48 : decode cX6_end 48 = .ok (.iload 5, 2) := by decide +kernel
theorem dX6_end_50 : decode cX6_end 50 = .ok (.aaload, 1) := by decide +kernel
theorem dX6_end_51 : decode cX6_end 51 = .ok (.astore 6, 2) := by decide +kernel
theorem dX6_end_53 : decode cX6_end 53 = .ok (.aload 6, 2) := by decide +kernel
theorem dX6_end_55 : decode cX6_end 55 = .ok (.ifnull 24, 3) := by decide +kernel
theorem dX6_end_58 : decode cX6_end 58 = .ok (.aload 6, 2) := by decide +kernel
theorem dX6_end_60 : decode cX6_end 60 = .ok (.getfield 160, 3) := by decide +kernel
theorem dX6_end_63 : decode cX6_end 63 = .ok (.iload_n 1, 1) := by decide +kernel
theorem dX6_end_64 : decode cX6_end 64 = .ok (.if_icmp .ne 15, 3) := by decide +kernel
theorem dX6_end_67 : decode cX6_end 67 = .ok (.aload 6, 2) := by decide +kernel
theorem dX6_end_69 : decode cX6_end 69 = .ok (.iconst (-1), 1) := by decide +kernel
theorem dX6_end_70 : decode cX6_end 70 = .ok (.putfield 160, 3) := by decide +kernel
theorem dX6_end_73 : decode cX6_end 73 = .ok (.aload 6, 2) := by decide +kernel
theorem dX6_end_75 : decode cX6_end 75 = .ok (.iconst 1, 1) := by decide +kernel
theorem dX6_end_76 : decode cX6_end 76 = .ok (.putfield 92, 3) := by decide +kernel
theorem dX6_end_79 : decode cX6_end 79 = .ok (.iinc 5 1, 3) := by decide +kernel
theorem dX6_end_82 : decode cX6_end 82 = .ok (.goto (-42), 3) := by decide +kernel
theorem dX6_end_85 : decode cX6_end 85 = .ok (.aload_n 2, 1) := by decide +kernel
theorem dX6_end_86 : decode cX6_end 86 = .ok (.getfield 221, 3) := by decide +kernel
theorem dX6_end_89 : decode cX6_end 89 = .ok (.ireturn, 1) := by decide +kernel
theorem dX6_bring_0 : decode cX6_bring 0 = .ok (.iload_n 1, 1) := by decide +kernel
theorem dX6_bring_1 : decode cX6_bring 1 = .ok (.invokestatic 74, 3) := by decide +kernel
theorem dX6_bring_4 : decode cX6_bring 4 = .ok (.aload_n 0, 1) := by decide +kernel
theorem dX6_bring_5 : decode cX6_bring 5 = .ok (.iload_n 1, 1) := by decide +kernel
theorem dX6_bring_6 : decode cX6_bring 6 = .ok (.invokevirtual 224, 3) := by decide +kernel
theorem dX6_bring_9 : decode cX6_bring 9 = .ok (.aload_n 0, 1) := by decide +kernel
theorem dX6_bring_10 : decode cX6_bring 10 = .ok (.getfield 36, 3) := by decide +kernel
theorem dX6_bring_13 : decode cX6_bring 13 = .ok (.getfield 227, 3) := by decide +kernel
theorem dX6_bring_16 : decode cX6_bring 16 = .ok (.ireturn, 1) := by decide +kernel
theorem dX6_brings_0 : decode cX6_brings 0 = .ok (.iload_n 1, 1) := by decide +kernel
theorem dX6_brings_1 : decode cX6_brings 1 = .ok (.invokestatic 74, 3) := by decide +kernel
theorem dX6_brings_4 : decode cX6_brings 4 = .ok (.iload_n 2, 1) := by decide +kernel
theorem dX6_brings_5 : decode cX6_brings 5 = .ok (.ifCond .ge 13, 3) := by decide +kernel
theorem dX6_brings_8 : decode cX6_brings 8 = .ok (.new 230, 3) := by decide +kernel
theorem dX6_brings_11 : decode cX6_brings 11 = .ok (.dup, 1) := by decide +kernel
theorem dX6_brings_12 : decode cX6_brings 12 = .ok (.ldc 232, 2) := by decide +kernel
theorem dX6_brings_14 : decode cX6_brings 14 = .ok (.invokespecial 234, 3) := by decide +kernel
theorem dX6_brings_17 : decode cX6_brings 17 = .ok (.athrow, 1) := by decide +kernel
theorem dX6_brings_18 : decode cX6_brings 18 = .ok (.aload_n 0, 1) := by decide +kernel
theorem dX6_brings_19 : decode cX6_brings 19 = .ok (.iload_n 1, 1) := by decide +kernel
theorem dX6_brings_20 : decode cX6_brings 20 = .ok (.invokevirtual 224, 3) := by decide +kernel
theorem dX6_brings_23 : decode cX6_brings 23 = .ok (.aload_n 0, 1) := by decide +kernel
theorem dX6_brings_24 : decode cX6_brings 24 = .ok (.getfield 36, 3) := by decide +kernel
theorem dX6_brings_27 : decode cX6_brings 27 = .ok (.iload_n 2, 1) := by decide +kernel
theorem dX6_brings_28 : decode cX6_brings 28 = .ok (.invokevirtual 235, 3) := by decide +kernel
theorem dX6_brings_31 : decode cX6_brings 31 = .ok (.ireturn, 1) := by decide +kernel
theorem dX6_boxIs_0 : decode cX6_boxIs 0 = .ok (.aload_n 0, 1) := by decide +kernel
theorem dX6_boxIs_1 : decode cX6_boxIs 1 = .ok (.iload_n 1, 1) := by decide +kernel
theorem dX6_boxIs_2 : decode cX6_boxIs 2 = .ok (.invokevirtual 84, 3) := by decide +kernel
theorem dX6_boxIs_5 : decode cX6_boxIs 5 = .ok (.astore_n 3, 1) := by decide +kernel
theorem dX6_boxIs_6 : decode cX6_boxIs 6 = .ok (.iload_n 2, 1) := by decide +kernel
theorem dX6_boxIs_7 : decode cX6_boxIs 7 = .ok (.tableswitch 111 0 7 #[45, 50, 55, 63, 71, 76, 88, 96], 45) := by decide +kernel
theorem dX6_boxIs_52 : decode cX6_boxIs 52 = .ok (.aload_n 3, 1) := by decide +kernel
theorem dX6_boxIs_53 : decode cX6_boxIs 53 = .ok (.getfield 125, 3) := by decide +kernel
theorem dX6_boxIs_56 : decode cX6_boxIs 56 = .ok (.ireturn, 1) := by decide +kernel
theorem dX6_boxIs_57 : decode cX6_boxIs 57 = .ok (.aload_n 3, 1) := by decide +kernel
theorem dX6_boxIs_58 : decode cX6_boxIs 58 = .ok (.getfield 136, 3) := by decide +kernel
theorem dX6_boxIs_61 : decode cX6_boxIs 61 = .ok (.ireturn, 1) := by decide +kernel
theorem dX6_boxIs_62 : decode cX6_boxIs 62 = .ok (.aload_n 3, 1) := by decide +kernel
theorem dX6_boxIs_63 : decode cX6_boxIs 63 = .ok (.invokevirtual 238, 3) := by decide +kernel
theorem dX6_boxIs_66 : decode cX6_boxIs 66 = .ok (.invokestatic 241, 3) := by decide +kernel
theorem dX6_boxIs_69 : decode cX6_boxIs 69 = .ok (.ireturn, 1) := by decide +kernel
theorem dX6_boxIs_70 : decode cX6_boxIs 70 = .ok (.aload_n 3, 1) := by decide +kernel
theorem dX6_boxIs_71 : decode cX6_boxIs 71 = .ok (.getfield 92, 3) := by decide +kernel
theorem dX6_boxIs_74 : decode cX6_boxIs 74 = .ok (.invokestatic 241, 3) := by decide +kernel
theorem dX6_boxIs_77 : decode cX6_boxIs 77 = .ok (.ireturn, 1) := by decide +kernel
theorem dX6_boxIs_78 : decode cX6_boxIs 78 = .ok (.aload_n 3, 1) := by decide +kernel
theorem dX6_boxIs_79 : decode cX6_boxIs 79 = .ok (.getfield 160, 3) := by decide +kernel
theorem dX6_boxIs_82 : decode cX6_boxIs 82 = .ok (.ireturn, 1) := by decide +kernel
theorem dX6_boxIs_83 : decode cX6_boxIs 83 = .ok (.aload_n 3, 1) := by decide +kernel
theorem dX6_boxIs_84 : decode cX6_boxIs 84 = .ok (.getfield 183, 3) := by decide +kernel
theorem dX6_boxIs_87 : decode cX6_boxIs 87 = .ok (.aload_n 0, 1) := by decide +kernel
theorem dX6_boxIs_88 : decode cX6_boxIs 88 = .ok (.getfield 17, 3) := by decide +kernel
theorem dX6_boxIs_91 : decode cX6_boxIs 91 = .ok (.invokevirtual 193, 3) := by decide +kernel
theorem dX6_boxIs_94 : decode cX6_boxIs 94 = .ok (.ireturn, 1) := by decide +kernel
theorem dX6_boxIs_95 : decode cX6_boxIs 95 = .ok (.aload_n 3, 1) := by decide +kernel
theorem dX6_boxIs_96 : decode cX6_boxIs 96 = .ok (.getfield 99, 3) := by decide +kernel
theorem dX6_boxIs_99 : decode cX6_boxIs 99 = .ok (.getfield 118, 3) := by decide +kernel
theorem dX6_boxIs_102 : decode cX6_boxIs 102 = .ok (.ireturn, 1) := by decide +kernel
theorem dX6_boxIs_103 : decode cX6_boxIs 103 = .ok (.aload_n 3, 1) := by decide +kernel
theorem dX6_boxIs_104 : decode cX6_boxIs 104 = .ok (.getfield 141, 3) := by decide +kernel
theorem dX6_boxIs_107 : decode cX6_boxIs 107 = .ok (.aload_n 0, 1) := by decide +kernel
theorem dX6_boxIs_108 : decode cX6_boxIs 108 = .ok (.getfield 47, 3) := by decide +kernel
theorem dX6_boxIs_111 : decode cX6_boxIs 111 = .ok (.invokevirtual 153, 3) := by decide +kernel
theorem dX6_boxIs_114 : decode cX6_boxIs 114 = .ok (.invokestatic 241, 3) := by decide +kernel
theorem dX6_boxIs_117 : decode cX6_boxIs 117 = .ok (.ireturn, 1) := by decide +kernel
theorem dX6_boxIs_118 : decode cX6_boxIs 118 = .ok (.new 60, 3) := by decide +kernel
theorem dX6_boxIs_121 : decode cX6_boxIs 121 = .ok (.dup, 1) := by decide +kernel
theorem dX6_boxIs_122 : decode cX6_boxIs 122 = .ok (.ldc 245, 2) := by decide +kernel
theorem dX6_boxIs_124 : decode cX6_boxIs 124 = .ok (.invokespecial 64, 3) := by decide +kernel
theorem dX6_boxIs_127 : decode cX6_boxIs 127 = .ok (.athrow, 1) := by decide +kernel
theorem dX6_lacks_0 : decode cX6_lacks 0 = .ok (.aload_n 0, 1) := by decide +kernel
theorem dX6_lacks_1 : decode cX6_lacks 1 = .ok (.iload_n 1, 1) := by decide +kernel
theorem dX6_lacks_2 : decode cX6_lacks 2 = .ok (.invokevirtual 212, 3) := by decide +kernel
theorem dX6_lacks_5 : decode cX6_lacks 5 = .ok (.invokevirtual 247, 3) := by decide +kernel
theorem dX6_lacks_8 : decode cX6_lacks 8 = .ok (.ireturn, 1) := by decide +kernel
theorem dX6_pass_0 : decode cX6_pass 0 = .ok (.iload_n 1, 1) := by decide +kernel
theorem dX6_pass_1 : decode cX6_pass 1 = .ok (.iconst 1, 1) := by decide +kernel
theorem dX6_pass_2 : decode cX6_pass 2 = .ok (.sipush 400, 3) := by decide +kernel
theorem dX6_pass_5 : decode cX6_pass 5 = .ok (.invokestatic 67, 3) := by decide +kernel
theorem dX6_pass_8 : decode cX6_pass 8 = .ok (.aload_n 0, 1) := by decide +kernel
theorem dX6_pass_9 : decode cX6_pass 9 = .ok (.getfield 47, 3) := by decide +kernel
theorem dX6_pass_12 : decode cX6_pass 12 = .ok (.iload_n 1, 1) := by decide +kernel
theorem dX6_pass_13 : decode cX6_pass 13 = .ok (.iadd, 1) := by decide +kernel
theorem dX6_pass_14 : decode cX6_pass 14 = .ok (.sipush 9999, 3) := by decide +kernel
theorem dX6_pass_17 : decode cX6_pass 17 = .ok (.if_icmp .le 13, 3) := by decide +kernel
theorem dX6_pass_20 : decode cX6_pass 20 = .ok (.new 77, 3) := by decide +kernel
theorem dX6_pass_23 : decode cX6_pass 23 = .ok (.dup, 1) := by decide +kernel
theorem dX6_pass_24 : decode cX6_pass 24 = .ok (.ldc 251, 2) := by decide +kernel
theorem dX6_pass_26 : decode cX6_pass 26 = .ok (.invokespecial 81, 3) := by decide +kernel
theorem dX6_pass_29 : decode cX6_pass 29 = .ok (.athrow, 1) := by decide +kernel
theorem dX6_pass_30 : decode cX6_pass 30 = .ok (.aload_n 0, 1) := by decide +kernel
theorem dX6_pass_31 : decode cX6_pass 31 = .ok (.dup, 1) := by decide +kernel
theorem dX6_pass_32 : decode cX6_pass 32 = .ok (.getfield 47, 3) := by decide +kernel
theorem dX6_pass_35 : decode cX6_pass 35 = .ok (.iload_n 1, 1) := by decide +kernel
theorem dX6_pass_36 : decode cX6_pass 36 = .ok (.iadd, 1) := by decide +kernel
theorem dX6_pass_37 : decode cX6_pass 37 = .ok (.putfield 47, 3) := by decide +kernel
theorem dX6_pass_40 : decode cX6_pass 40 = .ok (.aload_n 0, 1) := by decide +kernel
theorem dX6_pass_41 : decode cX6_pass 41 = .ok (.getfield 47, 3) := by decide +kernel
theorem dX6_pass_44 : decode cX6_pass 44 = .ok (.ireturn, 1) := by decide +kernel
theorem dX6_isPort_0 : decode cX6_isPort 0 = .ok (.iload_n 0, 1) := by decide +kernel
theorem dX6_isPort_1 : decode cX6_isPort 1 = .ok (.ifCond .lt 13, 3) := by decide +kernel
theorem dX6_isPort_4 : decode cX6_isPort 4 = .ok (.iload_n 0, 1) := by decide +kernel
theorem dX6_isPort_5 : decode cX6_isPort 5 = .ok (.bipush 6, 2) := by decide +kernel
theorem dX6_isPort_7 : decode cX6_isPort 7 = .ok (.if_icmp .ge 7, 3) := by decide +kernel
theorem dX6_isPort_10 : decode cX6_isPort 10 = .ok (.iconst 1, 1) := by decide +kernel
theorem dX6_isPort_11 : decode cX6_isPort 11 = .ok (.goto 4, 3) := by decide +kernel
theorem dX6_isPort_14 : decode cX6_isPort 14 = .ok (.iconst 0, 1) := by decide +kernel
theorem dX6_isPort_15 : decode cX6_isPort 15 = .ok (.ireturn, 1) := by decide +kernel
theorem dX6_isLessor_0 : decode cX6_isLessor 0 = .ok (.iload_n 0, 1) := by decide +kernel
theorem dX6_isLessor_1 : decode cX6_isLessor 1 = .ok (.ifCond .lt 12, 3) := by decide +kernel
theorem dX6_isLessor_4 : decode cX6_isLessor 4 = .ok (.iload_n 0, 1) := by decide +kernel
theorem dX6_isLessor_5 : decode cX6_isLessor 5 = .ok (.iconst 3, 1) := by decide +kernel
theorem dX6_isLessor_6 : decode cX6_isLessor 6 = .ok (.if_icmp .ge 7, 3) := by decide +kernel
theorem dX6_isLessor_9 : decode cX6_isLessor 9 = .ok (.iconst 1, 1) := by decide +kernel
theorem dX6_isLessor_10 : decode cX6_isLessor 10 = .ok (.goto 4, 3) := by decide +kernel
theorem dX6_isLessor_13 : decode cX6_isLessor 13 = .ok (.iconst 0, 1) := by decide +kernel
theorem dX6_isLessor_14 : decode cX6_isLessor 14 = .ok (.ireturn, 1) := by decide +kernel
theorem dX6_needPort_0 : decode cX6_needPort 0 = .ok (.iload_n 0, 1) := by decide +kernel
theorem dX6_needPort_1 : decode cX6_needPort 1 = .ok (.invokestatic 128, 3) := by decide +kernel
theorem dX6_needPort_4 : decode cX6_needPort 4 = .ok (.ifCond .ne 13, 3) := by decide +kernel
theorem dX6_needPort_7 : decode cX6_needPort 7 = .ok (.new 230, 3) := by decide +kernel
theorem dX6_needPort_10 : decode cX6_needPort 10 = .ok (.dup, 1) := by decide +kernel
theorem dX6_needPort_11 : decode cX6_needPort 11 = .ok (.ldc 253, 2) := by decide +kernel
theorem dX6_needPort_13 : decode cX6_needPort 13 = .ok (.invokespecial 234, 3) := by decide +kernel
theorem dX6_needPort_16 : decode cX6_needPort 16 = .ok (.athrow, 1) := by decide +kernel
theorem dX6_needPort_17 : decode cX6_needPort 17 = .ok (.return_, 1) := by decide +kernel
theorem dX6_needLessor_0 : decode cX6_needLessor 0 = .ok (.iload_n 0, 1) := by decide +kernel
theorem dX6_needLessor_1 : decode cX6_needLessor 1 = .ok (.invokestatic 255, 3) := by decide +kernel
theorem dX6_needLessor_4 : decode cX6_needLessor 4 = .ok (.ifCond .ne 14, 3) := by decide +kernel
theorem dX6_needLessor_7 : decode cX6_needLessor 7 = .ok (.new 230, 3) := by decide +kernel
theorem dX6_needLessor_10 : decode cX6_needLessor 10 = .ok (.dup, 1) := by decide +kernel
theorem dX6_needLessor_11 : decode cX6_needLessor 11 = .ok (.ldc_w 258, 3) := by decide +kernel
theorem dX6_needLessor_14 : decode cX6_needLessor 14 = .ok (.invokespecial 234, 3) := by decide +kernel
theorem dX6_needLessor_17 : decode cX6_needLessor 17 = .ok (.athrow, 1) := by decide +kernel
theorem dX6_needLessor_18 : decode cX6_needLessor 18 = .ok (.return_, 1) := by decide +kernel
theorem dX6_needCode_0 : decode cX6_needCode 0 = .ok (.iload_n 0, 1) := by decide +kernel
theorem dX6_needCode_1 : decode cX6_needCode 1 = .ok (.ifCond .lt 8, 3) := by decide +kernel
theorem dX6_needCode_4 : decode cX6_needCode 4 = .ok (.iload_n 0, 1) := by decide +kernel
theorem dX6_needCode_5 : decode cX6_needCode 5 = .ok (.iconst 5, 1) := by decide +kernel
theorem dX6_needCode_6 : decode cX6_needCode 6 = .ok (.if_icmp .lt 14, 3) := by decide +kernel
theorem dX6_needCode_9 : decode cX6_needCode 9 = .ok (.new 230, 3) := by decide +kernel
theorem dX6_needCode_12 : decode cX6_needCode 12 = .ok (.dup, 1) := by decide +kernel
theorem dX6_needCode_13 : decode cX6_needCode 13 = .ok (.ldc_w 260, 3) := by decide +kernel
theorem dX6_needCode_16 : decode cX6_needCode 16 = .ok (.invokespecial 234, 3) := by decide +kernel
theorem dX6_needCode_19 : decode cX6_needCode 19 = .ok (.athrow, 1) := by decide +kernel
theorem dX6_needCode_20 : decode cX6_needCode 20 = .ok (.return_, 1) := by decide +kernel
theorem dX6_needKind_0 : decode cX6_needKind 0 = .ok (.iload_n 0, 1) := by decide +kernel
theorem dX6_needKind_1 : decode cX6_needKind 1 = .ok (.iconst 0, 1) := by decide +kernel
theorem dX6_needKind_2 : decode cX6_needKind 2 = .ok (.iconst 2, 1) := by decide +kernel
theorem dX6_needKind_3 : decode cX6_needKind 3 = .ok (.invokestatic 67, 3) := by decide +kernel
theorem dX6_needKind_6 : decode cX6_needKind 6 = .ok (.return_, 1) := by decide +kernel
theorem dX6_needRange_0 : decode cX6_needRange 0 = .ok (.iload_n 0, 1) := by decide +kernel
theorem dX6_needRange_1 : decode cX6_needRange 1 = .ok (.iload_n 1, 1) := by decide +kernel
theorem dX6_needRange_2 : decode cX6_needRange 2 = .ok (.if_icmp .lt 8, 3) := by decide +kernel
theorem dX6_needRange_5 : decode cX6_needRange 5 = .ok (.iload_n 0, 1) := by decide +kernel
theorem dX6_needRange_6 : decode cX6_needRange 6 = .ok (.iload_n 2, 1) := by decide +kernel
theorem dX6_needRange_7 : decode cX6_needRange 7 = .ok (.if_icmp .le 14, 3) := by decide +kernel
theorem dX6_needRange_10 : decode cX6_needRange 10 = .ok (.new 60, 3) := by decide +kernel
theorem dX6_needRange_13 : decode cX6_needRange 13 = .ok (.dup, 1) := by decide +kernel
theorem dX6_needRange_14 : decode cX6_needRange 14 = .ok (.ldc_w 262, 3) := by decide +kernel
theorem dX6_needRange_17 : decode cX6_needRange 17 = .ok (.invokespecial 64, 3) := by decide +kernel
theorem dX6_needRange_20 : decode cX6_needRange 20 = .ok (.athrow, 1) := by decide +kernel
theorem dX6_needRange_21 : decode cX6_needRange 21 = .ok (.return_, 1) := by decide +kernel
theorem dX6_needNotGone_0 : decode cX6_needNotGone 0 = .ok (.aload_n 0, 1) := by decide +kernel
theorem dX6_needNotGone_1 : decode cX6_needNotGone 1 = .ok (.invokevirtual 238, 3) := by decide +kernel
theorem dX6_needNotGone_4 : decode cX6_needNotGone 4 = .ok (.ifCond .eq 14, 3) := by decide +kernel
theorem dX6_needNotGone_7 : decode cX6_needNotGone 7 = .ok (.new 77, 3) := by decide +kernel
theorem dX6_needNotGone_10 : decode cX6_needNotGone 10 = .ok (.dup, 1) := by decide +kernel
theorem dX6_needNotGone_11 : decode cX6_needNotGone 11 = .ok (.ldc_w 264, 3) := by decide +kernel
theorem dX6_needNotGone_14 : decode cX6_needNotGone 14 = .ok (.invokespecial 81, 3) := by decide +kernel
theorem dX6_needNotGone_17 : decode cX6_needNotGone 17 = .ok (.athrow, 1) := by decide +kernel
theorem dX6_needNotGone_18 : decode cX6_needNotGone 18 = .ok (.return_, 1) := by decide +kernel
theorem dX6_boxAt_0 : decode cX6_boxAt 0 = .ok (.iload_n 1, 1) := by decide +kernel
theorem dX6_boxAt_1 : decode cX6_boxAt 1 = .ok (.ifCond .lt 21, 3) := by decide +kernel
theorem dX6_boxAt_4 : decode cX6_boxAt 4 = .ok (.iload_n 1, 1) := by decide +kernel
theorem dX6_boxAt_5 : decode cX6_boxAt 5 = .ok (.aload_n 0, 1) := by decide +kernel
theorem dX6_boxAt_6 : decode cX6_boxAt 6 = .ok (.getfield 23, 3) := by decide +kernel
theorem dX6_boxAt_9 : decode cX6_boxAt 9 = .ok (.arraylength, 1) := by decide +kernel
theorem dX6_boxAt_10 : decode cX6_boxAt 10 = .ok (.if_icmp .ge 12, 3) := by decide +kernel
theorem dX6_boxAt_13 : decode cX6_boxAt 13 = .ok (.aload_n 0, 1) := by decide +kernel
theorem dX6_boxAt_14 : decode cX6_boxAt 14 = .ok (.getfield 23, 3) := by decide +kernel
theorem dX6_boxAt_17 : decode cX6_boxAt 17 = .ok (.iload_n 1, 1) := by decide +kernel
theorem dX6_boxAt_18 : decode cX6_boxAt 18 = .ok (.aaload, 1) := by decide +kernel
theorem dX6_boxAt_19 : decode cX6_boxAt 19 = .ok (.goto 4, 3) := by decide +kernel
theorem dX6_boxAt_22 : decode cX6_boxAt 22 = .ok (.aconst_null, 1) := by decide +kernel
theorem dX6_boxAt_23 : decode cX6_boxAt 23 = .ok (.astore_n 2, 1) := by decide +kernel
theorem dX6_boxAt_24 : decode cX6_boxAt 24 = .ok (.aload_n 2, 1) := by decide +kernel
theorem dX6_boxAt_25 : decode cX6_boxAt 25 = .ok (.ifnonnull 14, 3) := by decide +kernel
theorem dX6_boxAt_28 : decode cX6_boxAt 28 = .ok (.new 230, 3) := by decide +kernel
theorem dX6_boxAt_31 : decode cX6_boxAt 31 = .ok (.dup, 1) := by decide +kernel
theorem dX6_boxAt_32 : decode cX6_boxAt 32 = .ok (.ldc_w 266, 3) := by decide +kernel
theorem dX6_boxAt_35 : decode cX6_boxAt 35 = .ok (.invokespecial 234, 3) := by decide +kernel
theorem dX6_boxAt_38 : decode cX6_boxAt 38 = .ok (.athrow, 1) := by decide +kernel
theorem dX6_boxAt_39 : decode cX6_boxAt 39 = .ok (.aload_n 2, 1) := by decide +kernel
theorem dX6_boxAt_40 : decode cX6_boxAt 40 = .ok (.areturn, 1) := by decide +kernel
theorem dX6_bookingAt_0 : decode cX6_bookingAt 0 = .ok (.iload_n 1, 1) := by decide +kernel
theorem dX6_bookingAt_1 : decode cX6_bookingAt 1 = .ok (.ifCond .lt 21, 3) := by decide +kernel
theorem dX6_bookingAt_4 : decode cX6_bookingAt 4 = .ok (.iload_n 1, 1) := by decide +kernel
theorem dX6_bookingAt_5 : decode cX6_bookingAt 5 = .ok (.aload_n 0, 1) := by decide +kernel
theorem dX6_bookingAt_6 : decode cX6_bookingAt 6 = .ok (.getfield 29, 3) := by decide +kernel
theorem dX6_bookingAt_9 : decode cX6_bookingAt 9 = .ok (.arraylength, 1) := by decide +kernel
theorem dX6_bookingAt_10 : decode cX6_bookingAt 10 = .ok (.if_icmp .ge 12, 3) := by decide +kernel
theorem dX6_bookingAt_13 : decode cX6_bookingAt 13 = .ok (.aload_n 0, 1) := by decide +kernel
theorem dX6_bookingAt_14 : decode cX6_bookingAt 14 = .ok (.getfield 29, 3) := by decide +kernel
theorem dX6_bookingAt_17 : decode cX6_bookingAt 17 = .ok (.iload_n 1, 1) := by decide +kernel
theorem dX6_bookingAt_18 : decode cX6_bookingAt 18 = .ok (.aaload, 1) := by decide +kernel
theorem dX6_bookingAt_19 : decode cX6_bookingAt 19 = .ok (.goto 4, 3) := by decide +kernel
theorem dX6_bookingAt_22 : decode cX6_bookingAt 22 = .ok (.aconst_null, 1) := by decide +kernel
theorem dX6_bookingAt_23 : decode cX6_bookingAt 23 = .ok (.astore_n 2, 1) := by decide +kernel
theorem dX6_bookingAt_24 : decode cX6_bookingAt 24 = .ok (.aload_n 2, 1) := by decide +kernel
theorem dX6_bookingAt_25 : decode cX6_bookingAt 25 = .ok (.ifnonnull 14, 3) := by decide +kernel
theorem dX6_bookingAt_28 : decode cX6_bookingAt 28 = .ok (.new 230, 3) := by decide +kernel
theorem dX6_bookingAt_31 : decode cX6_bookingAt 31 = .ok (.dup, 1) := by decide +kernel
theorem dX6_bookingAt_32 : decode cX6_bookingAt 32 = .ok (.ldc_w 268, 3) := by decide +kernel
theorem dX6_bookingAt_35 : decode cX6_bookingAt 35 = .ok (.invokespecial 234, 3) := by decide +kernel
theorem dX6_bookingAt_38 : decode cX6_bookingAt 38 = .ok (.athrow, 1) := by decide +kernel
theorem dX6_bookingAt_39 : decode cX6_bookingAt 39 = .ok (.aload_n 2, 1) := by decide +kernel
theorem dX6_bookingAt_40 : decode cX6_bookingAt 40 = .ok (.areturn, 1) := by decide +kernel
theorem dX6_asNumber_0 : decode cX6_asNumber 0 = .ok (.iload_n 0, 1) := by decide +kernel
theorem dX6_asNumber_1 : decode cX6_asNumber 1 = .ok (.ifCond .eq 7, 3) := by decide +kernel
theorem dX6_asNumber_4 : decode cX6_asNumber 4 = .ok (.iconst 1, 1) := by decide +kernel
theorem dX6_asNumber_5 : decode cX6_asNumber 5 = .ok (.goto 4, 3) := by decide +kernel
theorem dX6_asNumber_8 : decode cX6_asNumber 8 = .ok (.iconst 0, 1) := by decide +kernel
theorem dX6_asNumber_9 : decode cX6_asNumber 9 = .ok (.ireturn, 1) := by decide +kernel
theorem dX6_quotaLeft_0 : decode cX6_quotaLeft 0 = .ok (.iload_n 1, 1) := by decide +kernel
theorem dX6_quotaLeft_1 : decode cX6_quotaLeft 1 = .ok (.invokestatic 255, 3) := by decide +kernel
theorem dX6_quotaLeft_4 : decode cX6_quotaLeft 4 = .ok (.ifCond .eq 10, 3) := by decide +kernel
theorem dX6_quotaLeft_7 : decode cX6_quotaLeft 7 = .ok (.iload_n 2, 1) := by decide +kernel
theorem dX6_quotaLeft_8 : decode cX6_quotaLeft 8 = .ok (.invokestatic 128, 3) := by decide +kernel
theorem dX6_quotaLeft_11 : decode cX6_quotaLeft 11 = .ok (.ifCond .ne 5, 3) := by decide +kernel
theorem dX6_quotaLeft_14 : decode cX6_quotaLeft 14 = .ok (.iconst 0, 1) := by decide +kernel
theorem dX6_quotaLeft_15 : decode cX6_quotaLeft 15 = .ok (.ireturn, 1) := by decide +kernel
theorem dX6_quotaLeft_16 : decode cX6_quotaLeft 16 = .ok (.iconst 0, 1) := by decide +kernel
theorem dX6_quotaLeft_17 : decode cX6_quotaLeft 17 = .ok (.istore_n 3, 1) := by decide +kernel
theorem dX6_quotaLeft_18 : decode cX6_quotaLeft 18 = .ok (.aload_n 0, 1) := by decide +kernel
theorem dX6_quotaLeft_19 : decode cX6_quotaLeft 19 = .ok (.getfield 23, 3) := by decide +kernel
theorem dX6_quotaLeft_22 : decode cX6_quotaLeft 22 = .ok (.astore 4, 2) := by decide +kernel
theorem dX6_quotaLeft_24 : decode cX6_quotaLeft 24 = .ok (.aload 4, 2) := by decide +kernel
theorem dX6_quotaLeft_26 : decode cX6_quotaLeft 26 = .ok (.arraylength, 1) := by decide +kernel
theorem dX6_quotaLeft_27 : decode cX6_quotaLeft 27 = .ok (.istore 5, 2) := by decide +kernel
theorem dX6_quotaLeft_29 : decode cX6_quotaLeft 29 = .ok (.iconst 0, 1) := by decide +kernel
theorem dX6_quotaLeft_30 : decode cX6_quotaLeft 30 = .ok (.istore 6, 2) := by decide +kernel
theorem dX6_quotaLeft_32 : decode cX6_quotaLeft 32 = .ok (.iload 6, 2) := by decide +kernel
theorem dX6_quotaLeft_34 : decode cX6_quotaLeft 34 = .ok (.iload 5, 2) := by decide +kernel
theorem dX6_quotaLeft_36 : decode cX6_quotaLeft 36 = .ok (.if_icmp .ge 68, 3) := by decide +kernel
theorem dX6_quotaLeft_39 : decode cX6_quotaLeft 39 = .ok (.aload 4, 2) := by decide +kernel
theorem dX6_quotaLeft_41 : decode cX6_quotaLeft 41 = .ok (.iload 6, 2) := by decide +kernel
theorem dX6_quotaLeft_43 : decode cX6_quotaLeft 43 = .ok (.aaload, 1) := by decide +kernel
theorem dX6_quotaLeft_44 : decode cX6_quotaLeft 44 = .ok (.astore 7, 2) := by decide +kernel
theorem dX6_quotaLeft_46 : decode cX6_quotaLeft 46 = .ok (.aload 7, 2) := by decide +kernel
theorem dX6_quotaLeft_48 : decode cX6_quotaLeft 48 = .ok (.ifnull 50, 3) := by decide +kernel
theorem dX6_quotaLeft_51 : decode cX6_quotaLeft 51 = .ok (.aload 7, 2) := by decide +kernel
theorem dX6_quotaLeft_53 : decode cX6_quotaLeft 53 = .ok (.invokevirtual 238, 3) := by decide +kernel
theorem dX6_quotaLeft_56 : decode cX6_quotaLeft 56 = .ok (.ifCond .eq 42, 3) := by decide +kernel
theorem dX6_quotaLeft_59 : decode cX6_quotaLeft 59 = .ok (.aload 7, 2) := by decide +kernel
theorem dX6_quotaLeft_61 : decode cX6_quotaLeft 61 = .ok (.getfield 136, 3) := by decide +kernel
theorem dX6_quotaLeft_64 : decode cX6_quotaLeft 64 = .ok (.iload_n 1, 1) := by decide +kernel
theorem dX6_quotaLeft_65 : decode cX6_quotaLeft 65 = .ok (.if_icmp .ne 33, 3) := by decide +kernel
theorem dX6_quotaLeft_68 : decode cX6_quotaLeft 68 = .ok (.aload 7, 2) := by decide +kernel
theorem dX6_quotaLeft_70 : decode cX6_quotaLeft 70 = .ok (.getfield 177, 3) := by decide +kernel
theorem dX6_quotaLeft_73 : decode cX6_quotaLeft 73 = .ok (.iload_n 2, 1) := by decide +kernel
theorem dX6_quotaLeft_74 : decode cX6_quotaLeft 74 = .ok (.if_icmp .ne 24, 3) := by decide +kernel
theorem dX6_quotaLeft_77 : decode cX6_quotaLeft 77 = .ok (.aload 7, 2) := by decide +kernel
theorem dX6_quotaLeft_79 : decode cX6_quotaLeft 79 = .ok (.getfield 174, 3) := by decide +kernel
theorem dX6_quotaLeft_82 : decode cX6_quotaLeft 82 = .ok (.bipush 30, 2) := by decide +kernel
theorem dX6_quotaLeft_84 : decode cX6_quotaLeft 84 = .ok (.idiv, 1) := by decide +kernel
theorem dX6_quotaLeft_85 : decode cX6_quotaLeft 85 = .ok (.aload_n 0, 1) := by decide +kernel
theorem dX6_quotaLeft_86 : decode cX6_quotaLeft 86 = .ok (.getfield 47, 3) := by decide +kernel
theorem dX6_quotaLeft_89 : decode cX6_quotaLeft 89 = .ok (.bipush 30, 2) := by decide +kernel
theorem dX6_quotaLeft_91 : decode cX6_quotaLeft 91 = .ok (.idiv, 1) := by decide +kernel
theorem dX6_quotaLeft_92 : decode cX6_quotaLeft 92 = .ok (.if_icmp .ne 6, 3) := by decide +kernel
theorem dX6_quotaLeft_95 : decode cX6_quotaLeft 95 = .ok (.iinc 3 1, 3) := by decide +kernel
theorem dX6_quotaLeft_98 : decode cX6_quotaLeft 98 = .ok (.iinc 6 1, 3) := by decide +kernel
theorem dX6_quotaLeft_101 : decode cX6_quotaLeft 101 = .ok (.goto (-69), 3) := by decide +kernel
theorem dX6_quotaLeft_104 : decode cX6_quotaLeft 104 = .ok (.aload_n 0, 1) := by decide +kernel
theorem dX6_quotaLeft_105 : decode cX6_quotaLeft 105 = .ok (.getfield 14, 3) := by decide +kernel
theorem dX6_quotaLeft_108 : decode cX6_quotaLeft 108 = .ok (.iload_n 1, 1) := by decide +kernel
theorem dX6_quotaLeft_109 : decode cX6_quotaLeft 109 = .ok (.aaload, 1) := by decide +kernel
theorem dX6_quotaLeft_110 : decode cX6_quotaLeft 110 = .ok (.iload_n 2, 1) := by decide +kernel
theorem dX6_quotaLeft_111 : decode cX6_quotaLeft 111 = .ok (.iaload, 1) := by decide +kernel
theorem dX6_quotaLeft_112 : decode cX6_quotaLeft 112 = .ok (.iload_n 3, 1) := by decide +kernel
theorem dX6_quotaLeft_113 : decode cX6_quotaLeft 113 = .ok (.isub, 1) := by decide +kernel
theorem dX6_quotaLeft_114 : decode cX6_quotaLeft 114 = .ok (.ireturn, 1) := by decide +kernel
theorem dX6_giveBoxes_0 : decode cX6_giveBoxes 0 = .ok (.iconst 0, 1) := by decide +kernel
theorem dX6_giveBoxes_1 : decode cX6_giveBoxes 1 = .ok (.istore 4, 2) := by decide +kernel
theorem dX6_giveBoxes_3 : decode cX6_giveBoxes 3 = .ok (.aload_n 0, 1) := by decide +kernel
theorem dX6_giveBoxes_4 : decode cX6_giveBoxes 4 = .ok (.getfield 23, 3) := by decide +kernel
theorem dX6_giveBoxes_7 : decode cX6_giveBoxes 7 = .ok (.astore 5, 2) := by decide +kernel
theorem dX6_giveBoxes_9 : decode cX6_giveBoxes 9 = .ok (.aload 5, 2) := by decide +kernel
theorem dX6_giveBoxes_11 : decode cX6_giveBoxes 11 = .ok (.arraylength, 1) := by decide +kernel
theorem dX6_giveBoxes_12 : decode cX6_giveBoxes 12 = .ok (.istore 6, 2) := by decide +kernel
theorem dX6_giveBoxes_14 : decode cX6_giveBoxes 14 = .ok (.iconst 0, 1) := by decide +kernel
theorem dX6_giveBoxes_15 : decode cX6_giveBoxes 15 = .ok (.istore 7, 2) := by decide +kernel
theorem dX6_giveBoxes_17 : decode cX6_giveBoxes 17 = .ok (.iload 7, 2) := by decide +kernel
theorem dX6_giveBoxes_19 : decode cX6_giveBoxes 19 = .ok (.iload 6, 2) := by decide +kernel
theorem dX6_giveBoxes_21 : decode cX6_giveBoxes 21 = .ok (.if_icmp .ge 87, 3) := by decide +kernel
theorem dX6_giveBoxes_24 : decode cX6_giveBoxes 24 = .ok (.aload 5, 2) := by decide +kernel
theorem dX6_giveBoxes_26 : decode cX6_giveBoxes 26 = .ok (.iload 7, 2) := by decide +kernel
theorem dX6_giveBoxes_28 : decode cX6_giveBoxes 28 = .ok (.aaload, 1) := by decide +kernel
theorem dX6_giveBoxes_29 : decode cX6_giveBoxes 29 = .ok (.astore 8, 2) := by decide +kernel
theorem dX6_giveBoxes_31 : decode cX6_giveBoxes 31 = .ok (.aload_n 1, 1) := by decide +kernel
theorem dX6_giveBoxes_32 : decode cX6_giveBoxes 32 = .ok (.invokevirtual 247, 3) := by decide +kernel
theorem dX6_giveBoxes_35 : decode cX6_giveBoxes 35 = .ok (.ifCond .gt 6, 3) := by decide +kernel
theorem dX6_giveBoxes_38 : decode cX6_giveBoxes 38 = .ok (.iload 4, 2) := by decide +kernel
theorem dX6_giveBoxes_40 : decode cX6_giveBoxes 40 = .ok (.ireturn, 1) := by decide +kernel
theorem dX6_giveBoxes_41 : decode cX6_giveBoxes 41 = .ok (.aload 8, 2) := by decide +kernel
theorem dX6_giveBoxes_43 : decode cX6_giveBoxes 43 = .ok (.ifnull 59, 3) := by decide +kernel
theorem dX6_giveBoxes_46 : decode cX6_giveBoxes 46 = .ok (.aload 8, 2) := by decide +kernel
theorem dX6_giveBoxes_48 : decode cX6_giveBoxes 48 = .ok (.getfield 125, 3) := by decide +kernel
theorem dX6_giveBoxes_51 : decode cX6_giveBoxes 51 = .ok (.iload_n 3, 1) := by decide +kernel
theorem dX6_giveBoxes_52 : decode cX6_giveBoxes 52 = .ok (.if_icmp .ne 50, 3) := by decide +kernel
theorem dX6_giveBoxes_55 : decode cX6_giveBoxes 55 = .ok (.aload_n 0, 1) := by decide +kernel
theorem dX6_giveBoxes_56 : decode cX6_giveBoxes 56 = .ok (.aload 8, 2) := by decide +kernel
theorem dX6_giveBoxes_58 : decode cX6_giveBoxes 58 = .ok (.invokevirtual 270, 3) := by decide +kernel
theorem dX6_giveBoxes_61 : decode cX6_giveBoxes 61 = .ok (.ifCond .eq 41, 3) := by decide +kernel
theorem dX6_giveBoxes_64 : decode cX6_giveBoxes 64 = .ok (.aload 8, 2) := by decide +kernel
theorem dX6_giveBoxes_66 : decode cX6_giveBoxes 66 = .ok (.getfield 99, 3) := by decide +kernel
theorem dX6_giveBoxes_69 : decode cX6_giveBoxes 69 = .ok (.aload_n 0, 1) := by decide +kernel
theorem dX6_giveBoxes_70 : decode cX6_giveBoxes 70 = .ok (.getfield 47, 3) := by decide +kernel
theorem dX6_giveBoxes_73 : decode cX6_giveBoxes 73 = .ok (.invokevirtual 121, 3) := by decide +kernel
theorem dX6_giveBoxes_76 : decode cX6_giveBoxes 76 = .ok (.aload_n 1, 1) := by decide +kernel
theorem dX6_giveBoxes_77 : decode cX6_giveBoxes 77 = .ok (.getfield 274, 3) := by decide +kernel
theorem dX6_giveBoxes_80 : decode cX6_giveBoxes 80 = .ok (.if_icmp .ne 22, 3) := by decide +kernel
theorem dX6_giveBoxes_83 : decode cX6_giveBoxes 83 = .ok (.aload 8, 2) := by decide +kernel
theorem dX6_giveBoxes_85 : decode cX6_giveBoxes 85 = .ok (.iload_n 2, 1) := by decide +kernel
theorem dX6_giveBoxes_86 : decode cX6_giveBoxes 86 = .ok (.putfield 160, 3) := by decide +kernel
theorem dX6_giveBoxes_89 : decode cX6_giveBoxes 89 = .ok (.aload_n 1, 1) := by decide +kernel
theorem dX6_giveBoxes_90 : decode cX6_giveBoxes 90 = .ok (.dup, 1) := by decide +kernel
theorem dX6_giveBoxes_91 : decode cX6_giveBoxes 91 = .ok (.getfield 221, 3) := by decide +kernel
theorem dX6_giveBoxes_94 : decode cX6_giveBoxes 94 = .ok (.iconst 1, 1) := by decide +kernel
theorem dX6_giveBoxes_95 : decode cX6_giveBoxes 95 = .ok (.iadd, 1) := by decide +kernel
theorem dX6_giveBoxes_96 : decode cX6_giveBoxes 96 = .ok (.putfield 221, 3) := by decide +kernel
theorem dX6_giveBoxes_99 : decode cX6_giveBoxes 99 = .ok (.iinc 4 1, 3) := by decide +kernel
theorem dX6_giveBoxes_102 : decode cX6_giveBoxes 102 = .ok (.iinc 7 1, 3) := by decide +kernel
theorem dX6_giveBoxes_105 : decode cX6_giveBoxes 105 = .ok (.goto (-88), 3) := by decide +kernel
theorem dX6_giveBoxes_108 : decode cX6_giveBoxes 108 = .ok (.iload 4, 2) := by decide +kernel
theorem dX6_giveBoxes_110 : decode cX6_giveBoxes 110 = .ok (.ireturn, 1) := by decide +kernel
theorem dX6_canServe_0 : decode cX6_canServe 0 = .ok (.aload_n 1, 1) := by decide +kernel
theorem dX6_canServe_1 : decode cX6_canServe 1 = .ok (.invokevirtual 238, 3) := by decide +kernel
theorem dX6_canServe_4 : decode cX6_canServe 4 = .ok (.ifCond .ne 47, 3) := by decide +kernel
theorem dX6_canServe_7 : decode cX6_canServe 7 = .ok (.aload_n 1, 1) := by decide +kernel
theorem dX6_canServe_8 : decode cX6_canServe 8 = .ok (.getfield 160, 3) := by decide +kernel
theorem dX6_canServe_11 : decode cX6_canServe 11 = .ok (.iconst (-1), 1) := by decide +kernel
theorem dX6_canServe_12 : decode cX6_canServe 12 = .ok (.if_icmp .ne 39, 3) := by decide +kernel
theorem dX6_canServe_15 : decode cX6_canServe 15 = .ok (.aload_n 1, 1) := by decide +kernel
theorem dX6_canServe_16 : decode cX6_canServe 16 = .ok (.getfield 92, 3) := by decide +kernel
theorem dX6_canServe_19 : decode cX6_canServe 19 = .ok (.ifCond .ne 32, 3) := by decide +kernel
theorem dX6_canServe_22 : decode cX6_canServe 22 = .ok (.aload_n 1, 1) := by decide +kernel
theorem dX6_canServe_23 : decode cX6_canServe 23 = .ok (.getfield 96, 3) := by decide +kernel
theorem dX6_canServe_26 : decode cX6_canServe 26 = .ok (.aload_n 0, 1) := by decide +kernel
theorem dX6_canServe_27 : decode cX6_canServe 27 = .ok (.getfield 47, 3) := by decide +kernel
theorem dX6_canServe_30 : decode cX6_canServe 30 = .ok (.if_icmp .lt 21, 3) := by decide +kernel
theorem dX6_canServe_33 : decode cX6_canServe 33 = .ok (.aload_n 1, 1) := by decide +kernel
theorem dX6_canServe_34 : decode cX6_canServe 34 = .ok (.getfield 183, 3) := by decide +kernel
theorem dX6_canServe_37 : decode cX6_canServe 37 = .ok (.aload_n 0, 1) := by decide +kernel
theorem dX6_canServe_38 : decode cX6_canServe 38 = .ok (.getfield 17, 3) := by decide +kernel
theorem dX6_canServe_41 : decode cX6_canServe 41 = .ok (.invokevirtual 193, 3) := by decide +kernel
theorem dX6_canServe_44 : decode cX6_canServe 44 = .ok (.ifCond .ne 7, 3) := by decide +kernel
theorem dX6_canServe_47 : decode cX6_canServe 47 = .ok (.iconst 1, 1) := by decide +kernel
theorem dX6_canServe_48 : decode cX6_canServe 48 = .ok (.goto 4, 3) := by decide +kernel
theorem dX6_canServe_51 : decode cX6_canServe 51 = .ok (.iconst 0, 1) := by decide +kernel
theorem dX6_canServe_52 : decode cX6_canServe 52 = .ok (.ireturn, 1) := by decide +kernel
theorem dX6_lackingAt_0 : decode cX6_lackingAt 0 = .ok (.iconst 0, 1) := by decide +kernel
theorem dX6_lackingAt_1 : decode cX6_lackingAt 1 = .ok (.istore_n 3, 1) := by decide +kernel
theorem dX6_lackingAt_2 : decode cX6_lackingAt 2 = .ok (.aload_n 0, 1) := by decide +kernel
theorem dX6_lackingAt_3 : decode cX6_lackingAt 3 = .ok (.getfield 29, 3) := by decide +kernel
theorem dX6_lackingAt_6 : decode cX6_lackingAt 6 = .ok (.astore 4, 2) := by decide +kernel
theorem dX6_lackingAt_8 : decode cX6_lackingAt 8 = .ok (.aload 4, 2) := by decide +kernel
theorem dX6_lackingAt_10 : decode cX6_lackingAt 10 = .ok (.arraylength, 1) := by decide +kernel
theorem dX6_lackingAt_11 : decode cX6_lackingAt 11 = .ok (.istore 5, 2) := by decide +kernel
theorem dX6_lackingAt_13 : decode cX6_lackingAt 13 = .ok (.iconst 0, 1) := by decide +kernel
theorem dX6_lackingAt_14 : decode cX6_lackingAt 14 = .ok (.istore 6, 2) := by decide +kernel
theorem dX6_lackingAt_16 : decode cX6_lackingAt 16 = .ok (.iload 6, 2) := by decide +kernel
theorem dX6_lackingAt_18 : decode cX6_lackingAt 18 = .ok (.iload 5, 2) := by decide +kernel
theorem dX6_lackingAt_20 : decode cX6_lackingAt 20 = .ok (.if_icmp .ge 47, 3) := by decide +kernel
theorem dX6_lackingAt_23 : decode cX6_lackingAt 23 = .ok (.aload 4, 2) := by decide +kernel
theorem dX6_lackingAt_25 : decode cX6_lackingAt 25 = .ok (.iload 6, 2) := by decide +kernel
theorem dX6_lackingAt_27 : decode cX6_lackingAt 27 = .ok (.aaload, 1) := by decide +kernel
theorem dX6_lackingAt_28 : decode cX6_lackingAt 28 = .ok (.astore 7, 2) := by decide +kernel
theorem dX6_lackingAt_30 : decode cX6_lackingAt 30 = .ok (.aload 7, 2) := by decide +kernel
theorem dX6_lackingAt_32 : decode cX6_lackingAt 32 = .ok (.ifnull 29, 3) := by decide +kernel
theorem dX6_lackingAt_35 : decode cX6_lackingAt 35 = .ok (.aload 7, 2) := by decide +kernel
theorem dX6_lackingAt_37 : decode cX6_lackingAt 37 = .ok (.getfield 274, 3) := by decide +kernel
theorem dX6_lackingAt_40 : decode cX6_lackingAt 40 = .ok (.iload_n 1, 1) := by decide +kernel
theorem dX6_lackingAt_41 : decode cX6_lackingAt 41 = .ok (.if_icmp .ne 20, 3) := by decide +kernel
theorem dX6_lackingAt_44 : decode cX6_lackingAt 44 = .ok (.aload 7, 2) := by decide +kernel
theorem dX6_lackingAt_46 : decode cX6_lackingAt 46 = .ok (.getfield 207, 3) := by decide +kernel
theorem dX6_lackingAt_49 : decode cX6_lackingAt 49 = .ok (.iload_n 2, 1) := by decide +kernel
theorem dX6_lackingAt_50 : decode cX6_lackingAt 50 = .ok (.if_icmp .ne 11, 3) := by decide +kernel
theorem dX6_lackingAt_53 : decode cX6_lackingAt 53 = .ok (.iload_n 3, 1) := by decide +kernel
theorem dX6_lackingAt_54 : decode cX6_lackingAt 54 = .ok (.aload 7, 2) := by decide +kernel
theorem dX6_lackingAt_56 : decode cX6_lackingAt 56 = .ok (.invokevirtual 247, 3) := by decide +kernel
theorem dX6_lackingAt_59 : decode cX6_lackingAt 59 = .ok (.iadd, 1) := by decide +kernel
theorem dX6_lackingAt_60 : decode cX6_lackingAt 60 = .ok (.istore_n 3, 1) := by decide +kernel
theorem dX6_lackingAt_61 : decode cX6_lackingAt 61 = .ok (.iinc 6 1, 3) := by decide +kernel
theorem dX6_lackingAt_64 : decode cX6_lackingAt 64 = .ok (.goto (-48), 3) := by decide +kernel
theorem dX6_lackingAt_67 : decode cX6_lackingAt 67 = .ok (.iload_n 3, 1) := by decide +kernel
theorem dX6_lackingAt_68 : decode cX6_lackingAt 68 = .ok (.ireturn, 1) := by decide +kernel
theorem dX6_makePlan_0 : decode cX6_makePlan 0 = .ok (.aload_n 0, 1) := by decide +kernel
theorem dX6_makePlan_1 : decode cX6_makePlan 1 = .ok (.getfield 36, 3) := by decide +kernel
theorem dX6_makePlan_4 : decode cX6_makePlan 4 = .ok (.invokevirtual 277, 3) := by decide +kernel
theorem dX6_makePlan_7 : decode cX6_makePlan 7 = .ok (.iconst 0, 1) := by decide +kernel
theorem dX6_makePlan_8 : decode cX6_makePlan 8 = .ok (.istore_n 2, 1) := by decide +kernel
theorem dX6_makePlan_9 : decode cX6_makePlan 9 = .ok (.iload_n 2, 1) := by decide +kernel
theorem dX6_makePlan_10 : decode cX6_makePlan 10 = .ok (.bipush 6, 2) := by decide +kernel
theorem dX6_makePlan_12 : decode cX6_makePlan 12 = .ok (.if_icmp .ge 23, 3) := by decide +kernel
theorem dX6_makePlan_15 : decode cX6_makePlan 15 = .ok (.aload_n 0, 1) := by decide +kernel
theorem dX6_makePlan_16 : decode cX6_makePlan 16 = .ok (.getfield 36, 3) := by decide +kernel
theorem dX6_makePlan_19 : decode cX6_makePlan 19 = .ok (.iload_n 2, 1) := by decide +kernel
theorem dX6_makePlan_20 : decode cX6_makePlan 20 = .ok (.aload_n 0, 1) := by decide +kernel
theorem dX6_makePlan_21 : decode cX6_makePlan 21 = .ok (.iload_n 2, 1) := by decide +kernel
theorem dX6_makePlan_22 : decode cX6_makePlan 22 = .ok (.iload_n 1, 1) := by decide +kernel
theorem dX6_makePlan_23 : decode cX6_makePlan 23 = .ok (.invokevirtual 278, 3) := by decide +kernel
theorem dX6_makePlan_26 : decode cX6_makePlan 26 = .ok (.invokevirtual 281, 3) := by decide +kernel
theorem dX6_makePlan_29 : decode cX6_makePlan 29 = .ok (.iinc 2 1, 3) := by decide +kernel
theorem dX6_makePlan_32 : decode cX6_makePlan 32 = .ok (.goto (-23), 3) := by decide +kernel
theorem dX6_makePlan_35 : decode cX6_makePlan 35 = .ok (.aload_n 0, 1) := by decide +kernel
theorem dX6_makePlan_36 : decode cX6_makePlan 36 = .ok (.getfield 36, 3) := by decide +kernel
theorem dX6_makePlan_39 : decode cX6_makePlan 39 = .ok (.getfield 284, 3) := by decide +kernel
theorem dX6_makePlan_42 : decode cX6_makePlan 42 = .ok (.iconst 5, 1) := by decide +kernel
theorem dX6_makePlan_43 : decode cX6_makePlan 43 = .ok (.if_icmp .le 14, 3) := by decide +kernel
theorem dX6_makePlan_46 : decode cX6_makePlan 46 = .ok (.new 77, 3) := by decide +kernel
theorem dX6_makePlan_49 : decode cX6_makePlan 49 = .ok (.dup, 1) := by decide +kernel
theorem dX6_makePlan_50 : decode cX6_makePlan 50 = .ok (.ldc_w 287, 3) := by decide +kernel
theorem dX6_makePlan_53 : decode cX6_makePlan 53 = .ok (.invokespecial 81, 3) := by decide +kernel
theorem dX6_makePlan_56 : decode cX6_makePlan 56 = .ok (.athrow, 1) := by decide +kernel
theorem dX6_makePlan_57 : decode cX6_makePlan 57 = .ok (.iconst 0, 1) := by decide +kernel
theorem dX6_makePlan_58 : decode cX6_makePlan 58 = .ok (.istore_n 2, 1) := by decide +kernel
theorem dX6_makePlan_59 : decode cX6_makePlan 59 = .ok (.iload_n 2, 1) := by decide +kernel
theorem dX6_makePlan_60 : decode cX6_makePlan 60 = .ok (.aload_n 0, 1) := by decide +kernel
theorem dX6_makePlan_61 : decode cX6_makePlan 61 = .ok (.getfield 23, 3) := by decide +kernel
theorem dX6_makePlan_64 : decode cX6_makePlan 64 = .ok (.arraylength, 1) := by decide +kernel
theorem dX6_makePlan_65 : decode cX6_makePlan 65 = .ok (.if_icmp .ge 55, 3) := by decide +kernel
theorem dX6_makePlan_68 : decode cX6_makePlan 68 = .ok (.aload_n 0, 1) := by decide +kernel
theorem dX6_makePlan_69 : decode cX6_makePlan 69 = .ok (.getfield 23, 3) := by decide +kernel
theorem dX6_makePlan_72 : decode cX6_makePlan 72 = .ok (.iload_n 2, 1) := by decide +kernel
theorem dX6_makePlan_73 : decode cX6_makePlan 73 = .ok (.aaload, 1) := by decide +kernel
theorem dX6_makePlan_74 : decode cX6_makePlan 74 = .ok (.astore_n 3, 1) := by decide +kernel
theorem dX6_makePlan_75 : decode cX6_makePlan 75 = .ok (.aload_n 3, 1) := by decide +kernel
theorem dX6_makePlan_76 : decode cX6_makePlan 76 = .ok (.ifnull 38, 3) := by decide +kernel
theorem dX6_makePlan_79 : decode cX6_makePlan 79 = .ok (.aload_n 3, 1) := by decide +kernel
theorem dX6_makePlan_80 : decode cX6_makePlan 80 = .ok (.getfield 125, 3) := by decide +kernel
theorem dX6_makePlan_83 : decode cX6_makePlan 83 = .ok (.iload_n 1, 1) := by decide +kernel
theorem dX6_makePlan_84 : decode cX6_makePlan 84 = .ok (.if_icmp .ne 30, 3) := by decide +kernel
theorem dX6_makePlan_87 : decode cX6_makePlan 87 = .ok (.aload_n 0, 1) := by decide +kernel
theorem dX6_makePlan_88 : decode cX6_makePlan 88 = .ok (.aload_n 3, 1) := by decide +kernel
theorem dX6_makePlan_89 : decode cX6_makePlan 89 = .ok (.invokevirtual 270, 3) := by decide +kernel
theorem dX6_makePlan_92 : decode cX6_makePlan 92 = .ok (.ifCond .eq 22, 3) := by decide +kernel
theorem dX6_makePlan_95 : decode cX6_makePlan 95 = .ok (.aload_n 0, 1) := by decide +kernel
theorem dX6_makePlan_96 : decode cX6_makePlan 96 = .ok (.getfield 36, 3) := by decide +kernel
theorem dX6_makePlan_99 : decode cX6_makePlan 99 = .ok (.iload_n 2, 1) := by decide +kernel
theorem dX6_makePlan_100 : decode cX6_makePlan 100 = .ok (.aload_n 3, 1) := by decide +kernel
theorem dX6_makePlan_101 : decode cX6_makePlan 101 = .ok (.getfield 99, 3) := by decide +kernel
theorem dX6_makePlan_104 : decode cX6_makePlan 104 = .ok (.aload_n 0, 1) := by decide +kernel
theorem dX6_makePlan_105 : decode cX6_makePlan 105 = .ok (.getfield 47, 3) := by decide +kernel
theorem dX6_makePlan_108 : decode cX6_makePlan 108 = .ok (.invokevirtual 121, 3) := by decide +kernel
theorem dX6_makePlan_111 : decode cX6_makePlan 111 = .ok (.invokevirtual 289, 3) := by decide +kernel
theorem dX6_makePlan_114 : decode cX6_makePlan 114 = .ok (.iinc 2 1, 3) := by decide +kernel
theorem dX6_makePlan_117 : decode cX6_makePlan 117 = .ok (.goto (-58), 3) := by decide +kernel
theorem dX6_makePlan_120 : decode cX6_makePlan 120 = .ok (.aload_n 0, 1) := by decide +kernel
theorem dX6_makePlan_121 : decode cX6_makePlan 121 = .ok (.getfield 36, 3) := by decide +kernel
theorem dX6_makePlan_124 : decode cX6_makePlan 124 = .ok (.aload_n 0, 1) := by decide +kernel
theorem dX6_makePlan_125 : decode cX6_makePlan 125 = .ok (.getfield 11, 3) := by decide +kernel
theorem dX6_makePlan_128 : decode cX6_makePlan 128 = .ok (.invokevirtual 292, 3) := by decide +kernel
theorem dX6_makePlan_131 : decode cX6_makePlan 131 = .ok (.return_, 1) := by decide +kernel
end
section
theorem dX7_init_0 : decode cX7_init 0 = .ok (.aload_n 0, 1) := by decide +kernel
theorem dX7_init_1 : decode cX7_init 1 = .ok (.invokespecial 1, 3) := by decide +kernel
theorem dX7_init_4 : decode cX7_init 4 = .ok (.aload_n 0, 1) := by decide +kernel
theorem dX7_init_5 : decode cX7_init 5 = .ok (.bipush 36, 2) := by decide +kernel
theorem dX7_init_7 : decode cX7_init 7 = .ok (.newarray .int, 2) := by decide +kernel
theorem dX7_init_9 : decode cX7_init 9 = .ok (.putfield 7, 3) := by decide +kernel
theorem dX7_init_12 : decode cX7_init 12 = .ok (.aload_n 0, 1) := by decide +kernel
theorem dX7_init_13 : decode cX7_init 13 = .ok (.bipush 40, 2) := by decide +kernel
theorem dX7_init_15 : decode cX7_init 15 = .ok (.newarray .int, 2) := by decide +kernel
theorem dX7_init_17 : decode cX7_init 17 = .ok (.putfield 13, 3) := by decide +kernel
theorem dX7_init_20 : decode cX7_init 20 = .ok (.aload_n 0, 1) := by decide +kernel
theorem dX7_init_21 : decode cX7_init 21 = .ok (.bipush 40, 2) := by decide +kernel
theorem dX7_init_23 : decode cX7_init 23 = .ok (.newarray .int, 2) := by decide +kernel
theorem dX7_init_25 : decode cX7_init 25 = .ok (.putfield 16, 3) := by decide +kernel
theorem dX7_init_28 : decode cX7_init 28 = .ok (.aload_n 0, 1) := by decide +kernel
theorem dX7_init_29 : decode cX7_init 29 = .ok (.bipush 40, 2) := by decide +kernel
theorem dX7_init_31 : decode cX7_init 31 = .ok (.newarray .int, 2) := by decide +kernel
theorem dX7_init_33 : decode cX7_init 33 = .ok (.putfield 19, 3) := by decide +kernel
theorem dX7_init_36 : decode cX7_init 36 = .ok (.aload_n 0, 1) := by decide +kernel
theorem dX7_init_37 : decode cX7_init 37 = .ok (.bipush 40, 2) := by decide +kernel
theorem dX7_init_39 : decode cX7_init 39 = .ok (.newarray .boolean, 2) := by decide +kernel
theorem dX7_init_41 : decode cX7_init 41 = .ok (.putfield 22, 3) := by decide +kernel
theorem dX7_init_44 : decode cX7_init 44 = .ok (.aload_n 0, 1) := by decide +kernel
theorem dX7_init_45 : decode cX7_init 45 = .ok (.bipush 40, 2) := by decide +kernel
theorem dX7_init_47 : decode cX7_init 47 = .ok (.newarray .int, 2) := by decide +kernel
theorem dX7_init_49 : decode cX7_init 49 = .ok (.putfield 26, 3) := by decide +kernel
theorem dX7_init_52 : decode cX7_init 52 = .ok (.aload_n 0, 1) := by decide +kernel
theorem dX7_init_53 : decode cX7_init 53 = .ok (.bipush 40, 2) := by decide +kernel
theorem dX7_init_55 : decode cX7_init 55 = .ok (.newarray .int, 2) := by decide +kernel
theorem dX7_init_57 : decode cX7_init 57 = .ok (.putfield 29, 3) := by decide +kernel
theorem dX7_init_60 : decode cX7_init 60 = .ok (.aload_n 0, 1) := by decide +kernel
theorem dX7_init_61 : decode cX7_init 61 = .ok (.sipush 1200, 3) := by decide +kernel
theorem dX7_init_64 : decode cX7_init 64 = .ok (.newarray .int, 2) := by decide +kernel
theorem dX7_init_66 : decode cX7_init 66 = .ok (.putfield 32, 3) := by decide +kernel
theorem dX7_init_69 : decode cX7_init 69 = .ok (.aload_n 0, 1) := by decide +kernel
theorem dX7_init_70 : decode cX7_init 70 = .ok (.sipush 1200, 3) := by decide +kernel
theorem dX7_init_73 : decode cX7_init 73 = .ok (.newarray .int, 2) := by decide +kernel
theorem dX7_init_75 : decode cX7_init 75 = .ok (.putfield 35, 3) := by decide +kernel
theorem dX7_init_78 : decode cX7_init 78 = .ok (.aload_n 0, 1) := by decide +kernel
theorem dX7_init_79 : decode cX7_init 79 = .ok (.sipush 1200, 3) := by decide +kernel
theorem dX7_init_82 : decode cX7_init 82 = .ok (.newarray .int, 2) := by decide +kernel
theorem dX7_init_84 : decode cX7_init 84 = .ok (.putfield 38, 3) := by decide +kernel
theorem dX7_init_87 : decode cX7_init 87 = .ok (.aload_n 0, 1) := by decide +kernel
theorem dX7_init_88 : decode cX7_init 88 = .ok (.bipush 40, 2) := by decide +kernel
theorem dX7_init_90 : decode cX7_init 90 = .ok (.newarray .int, 2) := by decide +kernel
theorem dX7_init_92 : decode cX7_init 92 = .ok (.putfield 41, 3) := by decide +kernel
theorem dX7_init_95 : decode cX7_init 95 = .ok (.aload_n 0, 1) := by decide +kernel
theorem dX7_init_96 : decode cX7_init 96 = .ok (.sipush 400, 3) := by decide +kernel
theorem dX7_init_99 : decode cX7_init 99 = .ok (.newarray .int, 2) := by decide +kernel
theorem dX7_init_101 : decode cX7_init 101 = .ok (.putfield 44, 3) := by decide +kernel
theorem dX7_init_104 : decode cX7_init 104 = .ok (.aload_n 0, 1) := by decide +kernel
theorem dX7_init_105 : decode cX7_init 105 = .ok (.sipush 400, 3) := by decide +kernel
theorem dX7_init_108 : decode cX7_init 108 = .ok (.newarray .int, 2) := by decide +kernel
theorem dX7_init_110 : decode cX7_init 110 = .ok (.putfield 47, 3) := by decide +kernel
theorem dX7_init_113 : decode cX7_init 113 = .ok (.aload_n 0, 1) := by decide +kernel
theorem dX7_init_114 : decode cX7_init 114 = .ok (.bipush 40, 2) := by decide +kernel
theorem dX7_init_116 : decode cX7_init 116 = .ok (.newarray .int, 2) := by decide +kernel
theorem dX7_init_118 : decode cX7_init 118 = .ok (.putfield 50, 3) := by decide +kernel
theorem dX7_init_121 : decode cX7_init 121 = .ok (.aload_n 0, 1) := by decide +kernel
theorem dX7_init_122 : decode cX7_init 122 = .ok (.iconst 5, 1) := by decide +kernel
theorem dX7_init_123 : decode cX7_init 123 = .ok (.putfield 53, 3) := by decide +kernel
theorem dX7_init_126 : decode cX7_init 126 = .ok (.aload_n 0, 1) := by decide +kernel
theorem dX7_init_127 : decode cX7_init 127 = .ok (.bipush 18, 2) := by decide +kernel
theorem dX7_init_129 : decode cX7_init 129 = .ok (.newarray .int, 2) := by decide +kernel
theorem dX7_init_131 : decode cX7_init 131 = .ok (.putfield 57, 3) := by decide +kernel
theorem dX7_init_134 : decode cX7_init 134 = .ok (.aload_n 0, 1) := by decide +kernel
theorem dX7_init_135 : decode cX7_init 135 = .ok (.bipush 18, 2) := by decide +kernel
theorem dX7_init_137 : decode cX7_init 137 = .ok (.newarray .int, 2) := by decide +kernel
theorem dX7_init_139 : decode cX7_init 139 = .ok (.putfield 60, 3) := by decide +kernel
theorem dX7_init_142 : decode cX7_init 142 = .ok (.aload_n 0, 1) := by decide +kernel
theorem dX7_init_143 : decode cX7_init 143 = .ok (.bipush 18, 2) := by decide +kernel
theorem dX7_init_145 : decode cX7_init 145 = .ok (.newarray .int, 2) := by decide +kernel
theorem dX7_init_147 : decode cX7_init 147 = .ok (.putfield 63, 3) := by decide +kernel
theorem dX7_init_150 : decode cX7_init 150 = .ok (.aload_n 0, 1) := by decide +kernel
theorem dX7_init_151 : decode cX7_init 151 = .ok (.sipush 480, 3) := by decide +kernel
theorem dX7_init_154 : decode cX7_init 154 = .ok (.newarray .int, 2) := by decide +kernel
theorem dX7_init_156 : decode cX7_init 156 = .ok (.putfield 66, 3) := by decide +kernel
theorem dX7_init_159 : decode cX7_init 159 = .ok (.aload_n 0, 1) := by decide +kernel
theorem dX7_init_160 : decode cX7_init 160 = .ok (.sipush 480, 3) := by decide +kernel
theorem dX7_init_163 : decode cX7_init 163 = .ok (.newarray .int, 2) := by decide +kernel
theorem dX7_init_165 : decode cX7_init 165 = .ok (.putfield 69, 3) := by decide +kernel
theorem dX7_init_168 : decode cX7_init 168 = .ok (.aload_n 0, 1) := by decide +kernel
theorem dX7_init_169 : decode cX7_init 169 = .ok (.bipush 40, 2) := by decide +kernel
theorem dX7_init_171 : decode cX7_init 171 = .ok (.newarray .int, 2) := by decide +kernel
theorem dX7_init_173 : decode cX7_init 173 = .ok (.putfield 72, 3) := by decide +kernel
theorem dX7_init_176 : decode cX7_init 176 = .ok (.aload_n 0, 1) := by decide +kernel
theorem dX7_init_177 : decode cX7_init 177 = .ok (.iconst 5, 1) := by decide +kernel
theorem dX7_init_178 : decode cX7_init 178 = .ok (.newarray .int, 2) := by decide +kernel
theorem dX7_init_180 : decode cX7_init 180 = .ok (.putfield 75, 3) := by decide +kernel
theorem dX7_init_183 : decode cX7_init 183 = .ok (.aload_n 0, 1) := by decide +kernel
theorem dX7_init_184 : decode cX7_init 184 = .ok (.sipush 500, 3) := by decide +kernel
theorem dX7_init_187 : decode cX7_init 187 = .ok (.putfield 78, 3) := by decide +kernel
theorem dX7_init_190 : decode cX7_init 190 = .ok (.aload_n 0, 1) := by decide +kernel
theorem dX7_init_191 : decode cX7_init 191 = .ok (.bipush 20, 2) := by decide +kernel
theorem dX7_init_193 : decode cX7_init 193 = .ok (.newarray .int, 2) := by decide +kernel
theorem dX7_init_195 : decode cX7_init 195 = .ok (.putfield 81, 3) := by decide +kernel
theorem dX7_init_198 : decode cX7_init 198 = .ok (.aload_n 0, 1) := by decide +kernel
theorem dX7_init_199 : decode cX7_init 199 = .ok (.bipush 20, 2) := by decide +kernel
theorem dX7_init_201 : decode cX7_init 201 = .ok (.newarray .int, 2) := by decide +kernel
theorem dX7_init_203 : decode cX7_init 203 = .ok (.putfield 84, 3) := by decide +kernel
theorem dX7_init_206 : decode cX7_init 206 = .ok (.aload_n 0, 1) := by decide +kernel
theorem dX7_init_207 : decode cX7_init 207 = .ok (.bipush 20, 2) := by decide +kernel
theorem dX7_init_209 : decode cX7_init 209 = .ok (.newarray .int, 2) := by decide +kernel
theorem dX7_init_211 : decode cX7_init 211 = .ok (.putfield 87, 3) := by decide +kernel
theorem dX7_init_214 : decode cX7_init 214 = .ok (.aload_n 0, 1) := by decide +kernel
theorem dX7_init_215 : decode cX7_init 215 = .ok (.bipush 20, 2) := by decide +kernel
theorem dX7_init_217 : decode cX7_init 217 = .ok (.newarray .boolean, 2) := by decide +kernel
theorem dX7_init_219 : decode cX7_init 219 = .ok (.putfield 90, 3) := by decide +kernel
theorem dX7_init_222 : decode cX7_init 222 = .ok (.aload_n 0, 1) := by decide +kernel
theorem dX7_init_223 : decode cX7_init 223 = .ok (.iconst 5, 1) := by decide +kernel
theorem dX7_init_224 : decode cX7_init 224 = .ok (.newarray .int, 2) := by decide +kernel
theorem dX7_init_226 : decode cX7_init 226 = .ok (.putfield 93, 3) := by decide +kernel
theorem dX7_init_229 : decode cX7_init 229 = .ok (.aload_n 0, 1) := by decide +kernel
theorem dX7_init_230 : decode cX7_init 230 = .ok (.bipush 40, 2) := by decide +kernel
theorem dX7_init_232 : decode cX7_init 232 = .ok (.newarray .int, 2) := by decide +kernel
theorem dX7_init_234 : decode cX7_init 234 = .ok (.putfield 96, 3) := by decide +kernel
theorem dX7_init_237 : decode cX7_init 237 = .ok (.aload_n 0, 1) := by decide +kernel
theorem dX7_init_238 : decode cX7_init 238 = .ok (.bipush 40, 2) := by decide +kernel
theorem dX7_init_240 : decode cX7_init 240 = .ok (.newarray .int, 2) := by decide +kernel
theorem dX7_init_242 : decode cX7_init 242 = .ok (.putfield 99, 3) := by decide +kernel
theorem dX7_init_245 : decode cX7_init 245 = .ok (.aload_n 0, 1) := by decide +kernel
theorem dX7_init_246 : decode cX7_init 246 = .ok (.iconst 5, 1) := by decide +kernel
theorem dX7_init_247 : decode cX7_init 247 = .ok (.newarray .int, 2) := by decide +kernel
theorem dX7_init_249 : decode cX7_init 249 = .ok (.putfield 102, 3) := by decide +kernel
theorem dX7_init_252 : decode cX7_init 252 = .ok (.aload_n 0, 1) := by decide +kernel
theorem dX7_init_253 : decode cX7_init 253 = .ok (.bipush 32, 2) := by decide +kernel
theorem dX7_init_255 : decode cX7_init 255 = .ok (.newarray .int, 2) := by decide +kernel
theorem dX7_init_257 : decode cX7_init 257 = .ok (.putfield 105, 3) := by decide +kernel
theorem dX7_init_260 : decode cX7_init 260 = .ok (.iconst 0, 1) := by decide +kernel
theorem dX7_init_261 : decode cX7_init 261 = .ok (.istore_n 1, 1) := by decide +kernel
theorem dX7_init_262 : decode cX7_init 262 = .ok (.iload_n 1, 1) := by decide +kernel
theorem dX7_init_263 : decode cX7_init 263 = .ok (.bipush 36, 2) := by decide +kernel
theorem dX7_init_265 : decode cX7_init 265 = .ok (.if_icmp .ge 32, 3) := by decide +kernel
theorem dX7_init_268 : decode cX7_init 268 = .ok (.aload_n 0, 1) := by decide +kernel
theorem dX7_init_269 : decode cX7_init 269 = .ok (.getfield 7, 3) := by decide +kernel
theorem dX7_init_272 : decode cX7_init 272 = .ok (.iload_n 1, 1) := by decide +kernel
theorem dX7_init_273 : decode cX7_init 273 = .ok (.iload_n 1, 1) := by decide +kernel
theorem dX7_init_274 : decode cX7_init 274 = .ok (.bipush 6, 2) := by decide +kernel
theorem dX7_init_276 : decode cX7_init 276 = .ok (.idiv, 1) := by decide +kernel
theorem dX7_init_277 : decode cX7_init 277 = .ok (.iload_n 1, 1) := by decide +kernel
theorem dX7_init_278 : decode cX7_init 278 = .ok (.bipush 6, 2) := by decide +kernel
theorem dX7_init_280 : decode cX7_init 280 = .ok (.irem, 1) := by decide +kernel
theorem dX7_init_281 : decode cX7_init 281 = .ok (.if_icmp .ne 7, 3) := by decide +kernel
theorem dX7_init_284 : decode cX7_init 284 = .ok (.iconst 0, 1) := by decide +kernel
theorem dX7_init_285 : decode cX7_init 285 = .ok (.goto 5, 3) := by decide +kernel
theorem dX7_init_288 : decode cX7_init 288 = .ok (.bipush 100, 2) := by decide +kernel
theorem dX7_init_290 : decode cX7_init 290 = .ok (.iastore, 1) := by decide +kernel
theorem dX7_init_291 : decode cX7_init 291 = .ok (.iinc 1 1, 3) := by decide +kernel
theorem dX7_init_294 : decode cX7_init 294 = .ok (.goto (-32), 3) := by decide +kernel
theorem dX7_init_297 : decode cX7_init 297 = .ok (.iconst 0, 1) := by decide +kernel
theorem dX7_init_298 : decode cX7_init 298 = .ok (.istore_n 1, 1) := by decide +kernel
theorem dX7_init_299 : decode cX7_init 299 = .ok (.iload_n 1, 1) := by decide +kernel
theorem dX7_init_300 : decode cX7_init 300 = .ok (.bipush 18, 2) := by decide +kernel
theorem dX7_init_302 : decode cX7_init 302 = .ok (.if_icmp .ge 16, 3) := by decide +kernel
theorem dX7_init_305 : decode cX7_init 305 = .ok (.aload_n 0, 1) := by decide +kernel
theorem dX7_init_306 : decode cX7_init 306 = .ok (.getfield 57, 3) := by decide +kernel
theorem dX7_init_309 : decode cX7_init 309 = .ok (.iload_n 1, 1) := by decide +kernel
theorem dX7_init_310 : decode cX7_init 310 = .ok (.iconst 2, 1) := by decide +kernel
theorem dX7_init_311 : decode cX7_init 311 = .ok (.iastore, 1) := by decide +kernel
theorem dX7_init_312 : decode cX7_init 312 = .ok (.iinc 1 1, 3) := by decide +kernel
theorem dX7_init_315 : decode cX7_init 315 = .ok (.goto (-16), 3) := by decide +kernel
theorem dX7_init_318 : decode cX7_init 318 = .ok (.iconst 0, 1) := by decide +kernel
theorem dX7_init_319 : decode cX7_init 319 = .ok (.istore_n 1, 1) := by decide +kernel
theorem dX7_init_320 : decode cX7_init 320 = .ok (.iload_n 1, 1) := by decide +kernel
theorem dX7_init_321 : decode cX7_init 321 = .ok (.iconst 5, 1) := by decide +kernel
theorem dX7_init_322 : decode cX7_init 322 = .ok (.if_icmp .ge 16, 3) := by decide +kernel
theorem dX7_init_325 : decode cX7_init 325 = .ok (.aload_n 0, 1) := by decide +kernel
theorem dX7_init_326 : decode cX7_init 326 = .ok (.getfield 75, 3) := by decide +kernel
theorem dX7_init_329 : decode cX7_init 329 = .ok (.iload_n 1, 1) := by decide +kernel
theorem dX7_init_330 : decode cX7_init 330 = .ok (.iconst 3, 1) := by decide +kernel
theorem dX7_init_331 : decode cX7_init 331 = .ok (.iastore, 1) := by decide +kernel
theorem dX7_init_332 : decode cX7_init 332 = .ok (.iinc 1 1, 3) := by decide +kernel
theorem dX7_init_335 : decode cX7_init 335 = .ok (.goto (-15), 3) := by decide +kernel
theorem dX7_init_338 : decode cX7_init 338 = .ok (.return_, 1) := by decide +kernel
theorem dX7_thrown_0 : decode cX7_thrown 0 = .ok (.aload_n 0, 1) := by decide +kernel
theorem dX7_thrown_1 : decode cX7_thrown 1 = .ok (.getfield 108, 3) := by decide +kernel
theorem dX7_thrown_4 : decode cX7_thrown 4 = .ok (.ireturn, 1) := by decide +kernel
theorem dX7_holds_0 : decode cX7_holds 0 = .ok (.aload_n 0, 1) := by decide +kernel
theorem dX7_holds_1 : decode cX7_holds 1 = .ok (.iload_n 1, 1) := by decide +kernel
theorem dX7_holds_2 : decode cX7_holds 2 = .ok (.putfield 108, 3) := by decide +kernel
theorem dX7_holds_5 : decode cX7_holds 5 = .ok (.iload_n 1, 1) := by decide +kernel
theorem dX7_holds_6 : decode cX7_holds 6 = .ok (.ifCond .ne 7, 3) := by decide +kernel
theorem dX7_holds_9 : decode cX7_holds 9 = .ok (.iconst 1, 1) := by decide +kernel
theorem dX7_holds_10 : decode cX7_holds 10 = .ok (.goto 4, 3) := by decide +kernel
theorem dX7_holds_13 : decode cX7_holds 13 = .ok (.iconst 0, 1) := by decide +kernel
theorem dX7_holds_14 : decode cX7_holds 14 = .ok (.ireturn, 1) := by decide +kernel
theorem dX7_isIn_0 : decode cX7_isIn 0 = .ok (.iload_n 0, 1) := by decide +kernel
theorem dX7_isIn_1 : decode cX7_isIn 1 = .ok (.iload_n 1, 1) := by decide +kernel
theorem dX7_isIn_2 : decode cX7_isIn 2 = .ok (.if_icmp .lt 12, 3) := by decide +kernel
theorem dX7_isIn_5 : decode cX7_isIn 5 = .ok (.iload_n 0, 1) := by decide +kernel
theorem dX7_isIn_6 : decode cX7_isIn 6 = .ok (.iload_n 2, 1) := by decide +kernel
theorem dX7_isIn_7 : decode cX7_isIn 7 = .ok (.if_icmp .gt 7, 3) := by decide +kernel
theorem dX7_isIn_10 : decode cX7_isIn 10 = .ok (.iconst 1, 1) := by decide +kernel
theorem dX7_isIn_11 : decode cX7_isIn 11 = .ok (.goto 4, 3) := by decide +kernel
theorem dX7_isIn_14 : decode cX7_isIn 14 = .ok (.iconst 0, 1) := by decide +kernel
theorem dX7_isIn_15 : decode cX7_isIn 15 = .ok (.ireturn, 1) := by decide +kernel
theorem dX7_isPort_0 : decode cX7_isPort 0 = .ok (.iload_n 0, 1) := by decide +kernel
theorem dX7_isPort_1 : decode cX7_isPort 1 = .ok (.iconst 0, 1) := by decide +kernel
theorem dX7_isPort_2 : decode cX7_isPort 2 = .ok (.iconst 5, 1) := by decide +kernel
theorem dX7_isPort_3 : decode cX7_isPort 3 = .ok (.invokestatic 111, 3) := by decide +kernel
theorem dX7_isPort_6 : decode cX7_isPort 6 = .ok (.ireturn, 1) := by decide +kernel
theorem dX7_isKind_0 : decode cX7_isKind 0 = .ok (.iload_n 0, 1) := by decide +kernel
theorem dX7_isKind_1 : decode cX7_isKind 1 = .ok (.iconst 0, 1) := by decide +kernel
theorem dX7_isKind_2 : decode cX7_isKind 2 = .ok (.iconst 2, 1) := by decide +kernel
theorem dX7_isKind_3 : decode cX7_isKind 3 = .ok (.invokestatic 111, 3) := by decide +kernel
theorem dX7_isKind_6 : decode cX7_isKind 6 = .ok (.ireturn, 1) := by decide +kernel
theorem dX7_isDay_0 : decode cX7_isDay 0 = .ok (.iload_n 0, 1) := by decide +kernel
theorem dX7_isDay_1 : decode cX7_isDay 1 = .ok (.iconst 0, 1) := by decide +kernel
theorem dX7_isDay_2 : decode cX7_isDay 2 = .ok (.sipush 9999, 3) := by decide +kernel
theorem dX7_isDay_5 : decode cX7_isDay 5 = .ok (.invokestatic 111, 3) := by decide +kernel
theorem dX7_isDay_8 : decode cX7_isDay 8 = .ok (.ireturn, 1) := by decide +kernel
theorem dX7_isBox_0 : decode cX7_isBox 0 = .ok (.iload_n 1, 1) := by decide +kernel
theorem dX7_isBox_1 : decode cX7_isBox 1 = .ok (.iconst 0, 1) := by decide +kernel
theorem dX7_isBox_2 : decode cX7_isBox 2 = .ok (.aload_n 0, 1) := by decide +kernel
theorem dX7_isBox_3 : decode cX7_isBox 3 = .ok (.getfield 115, 3) := by decide +kernel
theorem dX7_isBox_6 : decode cX7_isBox 6 = .ok (.iconst 1, 1) := by decide +kernel
theorem dX7_isBox_7 : decode cX7_isBox 7 = .ok (.isub, 1) := by decide +kernel
theorem dX7_isBox_8 : decode cX7_isBox 8 = .ok (.invokestatic 111, 3) := by decide +kernel
theorem dX7_isBox_11 : decode cX7_isBox 11 = .ok (.ireturn, 1) := by decide +kernel
theorem dX7_isGone_0 : decode cX7_isGone 0 = .ok (.aload_n 0, 1) := by decide +kernel
theorem dX7_isGone_1 : decode cX7_isGone 1 = .ok (.getfield 26, 3) := by decide +kernel
theorem dX7_isGone_4 : decode cX7_isGone 4 = .ok (.iload_n 1, 1) := by decide +kernel
theorem dX7_isGone_5 : decode cX7_isGone 5 = .ok (.iaload, 1) := by decide +kernel
theorem dX7_isGone_6 : decode cX7_isGone 6 = .ok (.iconst (-1), 1) := by decide +kernel
theorem dX7_isGone_7 : decode cX7_isGone 7 = .ok (.if_icmp .eq 7, 3) := by decide +kernel
theorem dX7_isGone_10 : decode cX7_isGone 10 = .ok (.iconst 1, 1) := by decide +kernel
theorem dX7_isGone_11 : decode cX7_isGone 11 = .ok (.goto 4, 3) := by decide +kernel
theorem dX7_isGone_14 : decode cX7_isGone 14 = .ok (.iconst 0, 1) := by decide +kernel
theorem dX7_isGone_15 : decode cX7_isGone 15 = .ok (.ireturn, 1) := by decide +kernel
theorem dX7_cost_0 : decode cX7_cost 0 = .ok (.iload_n 1, 1) := by decide +kernel
theorem dX7_cost_1 : decode cX7_cost 1 = .ok (.invokestatic 118, 3) := by decide +kernel
theorem dX7_cost_4 : decode cX7_cost 4 = .ok (.ifCond .eq 14, 3) := by decide +kernel
theorem dX7_cost_7 : decode cX7_cost 7 = .ok (.iload_n 2, 1) := by decide +kernel
theorem dX7_cost_8 : decode cX7_cost 8 = .ok (.invokestatic 118, 3) := by decide +kernel
theorem dX7_cost_11 : decode cX7_cost 11 = .ok (.ifCond .eq 7, 3) := by decide +kernel
theorem dX7_cost_14 : decode cX7_cost 14 = .ok (.iconst 1, 1) := by decide +kernel
theorem dX7_cost_15 : decode cX7_cost 15 = .ok (.goto 4, 3) := by decide +kernel
theorem dX7_cost_18 : decode cX7_cost 18 = .ok (.iconst 0, 1) := by decide +kernel
theorem dX7_cost_19 : decode cX7_cost 19 = .ok (.istore 4, 2) := by decide +kernel
theorem dX7_cost_21 : decode cX7_cost 21 = .ok (.aload_n 0, 1) := by decide +kernel
theorem dX7_cost_22 : decode cX7_cost 22 = .ok (.iload 4, 2) := by decide +kernel
theorem dX7_cost_24 : decode cX7_cost 24 = .ok (.ifCond .ne 7, 3) := by decide +kernel
theorem dX7_cost_27 : decode cX7_cost 27 = .ok (.iconst 1, 1) := by decide +kernel
theorem dX7_cost_28 : decode cX7_cost 28 = .ok (.goto 20, 3) := by decide +kernel
theorem dX7_cost_31 : decode cX7_cost 31 = .ok (.iload_n 1, 1) := by decide +kernel
theorem dX7_cost_32 : decode cX7_cost 32 = .ok (.iload_n 2, 1) := by decide +kernel
theorem dX7_cost_33 : decode cX7_cost 33 = .ok (.if_icmp .eq 10, 3) := by decide +kernel
theorem dX7_cost_36 : decode cX7_cost 36 = .ok (.iload_n 3, 1) := by decide +kernel
theorem dX7_cost_37 : decode cX7_cost 37 = .ok (.invokestatic 122, 3) := by decide +kernel
theorem dX7_cost_40 : decode cX7_cost 40 = .ok (.ifCond .ne 7, 3) := by decide +kernel
theorem dX7_cost_43 : decode cX7_cost 43 = .ok (.iconst 2, 1) := by decide +kernel
theorem dX7_cost_44 : decode cX7_cost 44 = .ok (.goto 4, 3) := by decide +kernel
theorem dX7_cost_47 : decode cX7_cost 47 = .ok (.iconst 0, 1) := by decide +kernel
theorem dX7_cost_48 : decode cX7_cost 48 = .ok (.invokevirtual 125, 3) := by decide +kernel
theorem dX7_cost_51 : decode cX7_cost 51 = .ok (.ifCond .ne 5, 3) := by decide +kernel
theorem dX7_cost_54 : decode cX7_cost 54 = .ok (.iconst 0, 1) := by decide +kernel
theorem dX7_cost_55 : decode cX7_cost 55 = .ok (.ireturn, 1) := by decide +kernel
theorem dX7_cost_56 : decode cX7_cost 56 = .ok (.aload_n 0, 1) := by decide +kernel
theorem dX7_cost_57 : decode cX7_cost 57 = .ok (.getfield 7, 3) := by decide +kernel
theorem dX7_cost_60 : decode cX7_cost 60 = .ok (.bipush 6, 2) := by decide +kernel
theorem dX7_cost_62 : decode cX7_cost 62 = .ok (.iload_n 1, 1) := by decide +kernel
theorem dX7_cost_63 : decode cX7_cost 63 = .ok (.imul, 1) := by decide +kernel
theorem dX7_cost_64 : decode cX7_cost 64 = .ok (.iload_n 2, 1) := by decide +kernel
theorem dX7_cost_65 : decode cX7_cost 65 = .ok (.iadd, 1) := by decide +kernel
theorem dX7_cost_66 : decode cX7_cost 66 = .ok (.iaload, 1) := by decide +kernel
theorem dX7_cost_67 : decode cX7_cost 67 = .ok (.istore 5, 2) := by decide +kernel
theorem dX7_cost_69 : decode cX7_cost 69 = .ok (.aload_n 0, 1) := by decide +kernel
theorem dX7_cost_70 : decode cX7_cost 70 = .ok (.getfield 7, 3) := by decide +kernel
theorem dX7_cost_73 : decode cX7_cost 73 = .ok (.bipush 6, 2) := by decide +kernel
theorem dX7_cost_75 : decode cX7_cost 75 = .ok (.iload_n 1, 1) := by decide +kernel
theorem dX7_cost_76 : decode cX7_cost 76 = .ok (.imul, 1) := by decide +kernel
theorem dX7_cost_77 : decode cX7_cost 77 = .ok (.iload_n 2, 1) := by decide +kernel
theorem dX7_cost_78 : decode cX7_cost 78 = .ok (.iadd, 1) := by decide +kernel
theorem dX7_cost_79 : decode cX7_cost 79 = .ok (.iload_n 3, 1) := by decide +kernel
theorem dX7_cost_80 : decode cX7_cost 80 = .ok (.iastore, 1) := by decide +kernel
theorem dX7_cost_81 : decode cX7_cost 81 = .ok (.iload 5, 2) := by decide +kernel
theorem dX7_cost_83 : decode cX7_cost 83 = .ok (.ireturn, 1) := by decide +kernel
theorem dX7_box_0 : decode cX7_box 0 = .ok (.iload_n 2, 1) := by decide +kernel
theorem dX7_box_1 : decode cX7_box 1 = .ok (.iconst (-1), 1) := by decide +kernel
theorem dX7_box_2 : decode cX7_box 2 = .ok (.iconst 2, 1) := by decide +kernel
theorem dX7_box_3 : decode cX7_box 3 = .ok (.invokestatic 111, 3) := by decide +kernel
theorem dX7_box_6 : decode cX7_box 6 = .ok (.istore 4, 2) := by decide +kernel
theorem dX7_box_8 : decode cX7_box 8 = .ok (.aload_n 0, 1) := by decide +kernel
theorem dX7_box_9 : decode cX7_box 9 = .ok (.iload 4, 2) := by decide +kernel
theorem dX7_box_11 : decode cX7_box 11 = .ok (.ifCond .ne 7, 3) := by decide +kernel
theorem dX7_box_14 : decode cX7_box 14 = .ok (.iconst 1, 1) := by decide +kernel
theorem dX7_box_15 : decode cX7_box 15 = .ok (.goto 35, 3) := by decide +kernel
theorem dX7_box_18 : decode cX7_box 18 = .ok (.iload_n 1, 1) := by decide +kernel
theorem dX7_box_19 : decode cX7_box 19 = .ok (.invokestatic 128, 3) := by decide +kernel
theorem dX7_box_22 : decode cX7_box 22 = .ok (.ifCond .eq 10, 3) := by decide +kernel
theorem dX7_box_25 : decode cX7_box 25 = .ok (.iload_n 3, 1) := by decide +kernel
theorem dX7_box_26 : decode cX7_box 26 = .ok (.invokestatic 122, 3) := by decide +kernel
theorem dX7_box_29 : decode cX7_box 29 = .ok (.ifCond .ne 7, 3) := by decide +kernel
theorem dX7_box_32 : decode cX7_box 32 = .ok (.iconst 2, 1) := by decide +kernel
theorem dX7_box_33 : decode cX7_box 33 = .ok (.goto 17, 3) := by decide +kernel
theorem dX7_box_36 : decode cX7_box 36 = .ok (.aload_n 0, 1) := by decide +kernel
theorem dX7_box_37 : decode cX7_box 37 = .ok (.getfield 115, 3) := by decide +kernel
theorem dX7_box_40 : decode cX7_box 40 = .ok (.bipush 40, 2) := by decide +kernel
theorem dX7_box_42 : decode cX7_box 42 = .ok (.if_icmp .ne 7, 3) := by decide +kernel
theorem dX7_box_45 : decode cX7_box 45 = .ok (.iconst 3, 1) := by decide +kernel
theorem dX7_box_46 : decode cX7_box 46 = .ok (.goto 4, 3) := by decide +kernel
theorem dX7_box_49 : decode cX7_box 49 = .ok (.iconst 0, 1) := by decide +kernel
theorem dX7_box_50 : decode cX7_box 50 = .ok (.invokevirtual 125, 3) := by decide +kernel
theorem dX7_box_53 : decode cX7_box 53 = .ok (.ifCond .ne 5, 3) := by decide +kernel
theorem dX7_box_56 : decode cX7_box 56 = .ok (.iconst 0, 1) := by decide +kernel
theorem dX7_box_57 : decode cX7_box 57 = .ok (.ireturn, 1) := by decide +kernel
theorem dX7_box_58 : decode cX7_box 58 = .ok (.aload_n 0, 1) := by decide +kernel
theorem dX7_box_59 : decode cX7_box 59 = .ok (.getfield 13, 3) := by decide +kernel
theorem dX7_box_62 : decode cX7_box 62 = .ok (.aload_n 0, 1) := by decide +kernel
theorem dX7_box_63 : decode cX7_box 63 = .ok (.getfield 115, 3) := by decide +kernel
theorem dX7_box_66 : decode cX7_box 66 = .ok (.iload_n 1, 1) := by decide +kernel
theorem dX7_box_67 : decode cX7_box 67 = .ok (.iastore, 1) := by decide +kernel
theorem dX7_box_68 : decode cX7_box 68 = .ok (.aload_n 0, 1) := by decide +kernel
theorem dX7_box_69 : decode cX7_box 69 = .ok (.getfield 16, 3) := by decide +kernel
theorem dX7_box_72 : decode cX7_box 72 = .ok (.aload_n 0, 1) := by decide +kernel
theorem dX7_box_73 : decode cX7_box 73 = .ok (.getfield 115, 3) := by decide +kernel
theorem dX7_box_76 : decode cX7_box 76 = .ok (.iload_n 2, 1) := by decide +kernel
theorem dX7_box_77 : decode cX7_box 77 = .ok (.iastore, 1) := by decide +kernel
theorem dX7_box_78 : decode cX7_box 78 = .ok (.aload_n 0, 1) := by decide +kernel
theorem dX7_box_79 : decode cX7_box 79 = .ok (.getfield 19, 3) := by decide +kernel
theorem dX7_box_82 : decode cX7_box 82 = .ok (.aload_n 0, 1) := by decide +kernel
theorem dX7_box_83 : decode cX7_box 83 = .ok (.getfield 115, 3) := by decide +kernel
theorem dX7_box_86 : decode cX7_box 86 = .ok (.iload_n 3, 1) := by decide +kernel
theorem dX7_box_87 : decode cX7_box 87 = .ok (.iastore, 1) := by decide +kernel
theorem dX7_box_88 : decode cX7_box 88 = .ok (.aload_n 0, 1) := by decide +kernel
theorem dX7_box_89 : decode cX7_box 89 = .ok (.getfield 26, 3) := by decide +kernel
theorem dX7_box_92 : decode cX7_box 92 = .ok (.aload_n 0, 1) := by decide +kernel
theorem dX7_box_93 : decode cX7_box 93 = .ok (.getfield 115, 3) := by decide +kernel
theorem dX7_box_96 : decode cX7_box 96 = .ok (.iconst (-1), 1) := by decide +kernel
theorem dX7_box_97 : decode cX7_box 97 = .ok (.iastore, 1) := by decide +kernel
theorem dX7_box_98 : decode cX7_box 98 = .ok (.aload_n 0, 1) := by decide +kernel
theorem dX7_box_99 : decode cX7_box 99 = .ok (.getfield 29, 3) := by decide +kernel
theorem dX7_box_102 : decode cX7_box 102 = .ok (.aload_n 0, 1) := by decide +kernel
theorem dX7_box_103 : decode cX7_box 103 = .ok (.getfield 115, 3) := by decide +kernel
theorem dX7_box_106 : decode cX7_box 106 = .ok (.iconst (-1), 1) := by decide +kernel
theorem dX7_box_107 : decode cX7_box 107 = .ok (.iastore, 1) := by decide +kernel
theorem dX7_box_108 : decode cX7_box 108 = .ok (.aload_n 0, 1) := by decide +kernel
theorem dX7_box_109 : decode cX7_box 109 = .ok (.dup, 1) := by decide +kernel
theorem dX7_box_110 : decode cX7_box 110 = .ok (.getfield 115, 3) := by decide +kernel
theorem dX7_box_113 : decode cX7_box 113 = .ok (.iconst 1, 1) := by decide +kernel
theorem dX7_box_114 : decode cX7_box 114 = .ok (.iadd, 1) := by decide +kernel
theorem dX7_box_115 : decode cX7_box 115 = .ok (.putfield 115, 3) := by decide +kernel
theorem dX7_box_118 : decode cX7_box 118 = .ok (.aload_n 0, 1) := by decide +kernel
theorem dX7_box_119 : decode cX7_box 119 = .ok (.getfield 115, 3) := by decide +kernel
theorem dX7_box_122 : decode cX7_box 122 = .ok (.iconst 1, 1) := by decide +kernel
theorem dX7_box_123 : decode cX7_box 123 = .ok (.isub, 1) := by decide +kernel
theorem dX7_box_124 : decode cX7_box 124 = .ok (.ireturn, 1) := by decide +kernel
theorem dX7_wash_0 : decode cX7_wash 0 = .ok (.aload_n 0, 1) := by decide +kernel
theorem dX7_wash_1 : decode cX7_wash 1 = .ok (.iload_n 1, 1) := by decide +kernel
theorem dX7_wash_2 : decode cX7_wash 2 = .ok (.invokevirtual 131, 3) := by decide +kernel
theorem dX7_wash_5 : decode cX7_wash 5 = .ok (.istore_n 3, 1) := by decide +kernel
theorem dX7_wash_6 : decode cX7_wash 6 = .ok (.aload_n 0, 1) := by decide +kernel
theorem dX7_wash_7 : decode cX7_wash 7 = .ok (.iload_n 3, 1) := by decide +kernel
theorem dX7_wash_8 : decode cX7_wash 8 = .ok (.ifCond .ne 7, 3) := by decide +kernel
theorem dX7_wash_11 : decode cX7_wash 11 = .ok (.iconst 1, 1) := by decide +kernel
theorem dX7_wash_12 : decode cX7_wash 12 = .ok (.goto 27, 3) := by decide +kernel
theorem dX7_wash_15 : decode cX7_wash 15 = .ok (.iload_n 2, 1) := by decide +kernel
theorem dX7_wash_16 : decode cX7_wash 16 = .ok (.invokestatic 122, 3) := by decide +kernel
theorem dX7_wash_19 : decode cX7_wash 19 = .ok (.ifCond .ne 7, 3) := by decide +kernel
theorem dX7_wash_22 : decode cX7_wash 22 = .ok (.iconst 2, 1) := by decide +kernel
theorem dX7_wash_23 : decode cX7_wash 23 = .ok (.goto 16, 3) := by decide +kernel
theorem dX7_wash_26 : decode cX7_wash 26 = .ok (.aload_n 0, 1) := by decide +kernel
theorem dX7_wash_27 : decode cX7_wash 27 = .ok (.iload_n 1, 1) := by decide +kernel
theorem dX7_wash_28 : decode cX7_wash 28 = .ok (.invokevirtual 134, 3) := by decide +kernel
theorem dX7_wash_31 : decode cX7_wash 31 = .ok (.ifCond .eq 7, 3) := by decide +kernel
theorem dX7_wash_34 : decode cX7_wash 34 = .ok (.iconst 3, 1) := by decide +kernel
theorem dX7_wash_35 : decode cX7_wash 35 = .ok (.goto 4, 3) := by decide +kernel
theorem dX7_wash_38 : decode cX7_wash 38 = .ok (.iconst 0, 1) := by decide +kernel
theorem dX7_wash_39 : decode cX7_wash 39 = .ok (.invokevirtual 125, 3) := by decide +kernel
theorem dX7_wash_42 : decode cX7_wash 42 = .ok (.ifCond .ne 5, 3) := by decide +kernel
theorem dX7_wash_45 : decode cX7_wash 45 = .ok (.iconst 0, 1) := by decide +kernel
theorem dX7_wash_46 : decode cX7_wash 46 = .ok (.ireturn, 1) := by decide +kernel
theorem dX7_wash_47 : decode cX7_wash 47 = .ok (.aload_n 0, 1) := by decide +kernel
theorem dX7_wash_48 : decode cX7_wash 48 = .ok (.getfield 22, 3) := by decide +kernel
theorem dX7_wash_51 : decode cX7_wash 51 = .ok (.iload_n 1, 1) := by decide +kernel
theorem dX7_wash_52 : decode cX7_wash 52 = .ok (.baload, 1) := by decide +kernel
theorem dX7_wash_53 : decode cX7_wash 53 = .ok (.istore 4, 2) := by decide +kernel
theorem dX7_wash_55 : decode cX7_wash 55 = .ok (.aload_n 0, 1) := by decide +kernel
theorem dX7_wash_56 : decode cX7_wash 56 = .ok (.getfield 22, 3) := by decide +kernel
theorem dX7_wash_59 : decode cX7_wash 59 = .ok (.iload_n 1, 1) := by decide +kernel
theorem dX7_wash_60 : decode cX7_wash 60 = .ok (.iconst 0, 1) := by decide +kernel
theorem dX7_wash_61 : decode cX7_wash 61 = .ok (.bastore, 1) := by decide +kernel
theorem dX7_wash_62 : decode cX7_wash 62 = .ok (.aload_n 0, 1) := by decide +kernel
theorem dX7_wash_63 : decode cX7_wash 63 = .ok (.getfield 19, 3) := by decide +kernel
theorem dX7_wash_66 : decode cX7_wash 66 = .ok (.iload_n 1, 1) := by decide +kernel
theorem dX7_wash_67 : decode cX7_wash 67 = .ok (.iload_n 2, 1) := by decide +kernel
theorem dX7_wash_68 : decode cX7_wash 68 = .ok (.iastore, 1) := by decide +kernel
theorem dX7_wash_69 : decode cX7_wash 69 = .ok (.iload 4, 2) := by decide +kernel
theorem dX7_wash_71 : decode cX7_wash 71 = .ok (.ireturn, 1) := by decide +kernel
theorem dX7_fits_0 : decode cX7_fits 0 = .ok (.iload_n 1, 1) := by decide +kernel
theorem dX7_fits_1 : decode cX7_fits 1 = .ok (.ifCond .ne 23, 3) := by decide +kernel
theorem dX7_fits_4 : decode cX7_fits 4 = .ok (.iload_n 0, 1) := by decide +kernel
theorem dX7_fits_5 : decode cX7_fits 5 = .ok (.bipush 10, 2) := by decide +kernel
theorem dX7_fits_7 : decode cX7_fits 7 = .ok (.if_icmp .eq 9, 3) := by decide +kernel
theorem dX7_fits_10 : decode cX7_fits 10 = .ok (.iload_n 0, 1) := by decide +kernel
theorem dX7_fits_11 : decode cX7_fits 11 = .ok (.bipush 11, 2) := by decide +kernel
theorem dX7_fits_13 : decode cX7_fits 13 = .ok (.if_icmp .ne 7, 3) := by decide +kernel
theorem dX7_fits_16 : decode cX7_fits 16 = .ok (.iconst 1, 1) := by decide +kernel
theorem dX7_fits_17 : decode cX7_fits 17 = .ok (.goto 42, 3) := by decide +kernel
theorem dX7_fits_20 : decode cX7_fits 20 = .ok (.iconst 0, 1) := by decide +kernel
theorem dX7_fits_21 : decode cX7_fits 21 = .ok (.goto 38, 3) := by decide +kernel
theorem dX7_fits_24 : decode cX7_fits 24 = .ok (.iload_n 1, 1) := by decide +kernel
theorem dX7_fits_25 : decode cX7_fits 25 = .ok (.iconst 3, 1) := by decide +kernel
theorem dX7_fits_26 : decode cX7_fits 26 = .ok (.if_icmp .ne 23, 3) := by decide +kernel
theorem dX7_fits_29 : decode cX7_fits 29 = .ok (.iload_n 0, 1) := by decide +kernel
theorem dX7_fits_30 : decode cX7_fits 30 = .ok (.bipush 10, 2) := by decide +kernel
theorem dX7_fits_32 : decode cX7_fits 32 = .ok (.if_icmp .eq 9, 3) := by decide +kernel
theorem dX7_fits_35 : decode cX7_fits 35 = .ok (.iload_n 0, 1) := by decide +kernel
theorem dX7_fits_36 : decode cX7_fits 36 = .ok (.bipush 12, 2) := by decide +kernel
theorem dX7_fits_38 : decode cX7_fits 38 = .ok (.if_icmp .ne 7, 3) := by decide +kernel
theorem dX7_fits_41 : decode cX7_fits 41 = .ok (.iconst 1, 1) := by decide +kernel
theorem dX7_fits_42 : decode cX7_fits 42 = .ok (.goto 17, 3) := by decide +kernel
theorem dX7_fits_45 : decode cX7_fits 45 = .ok (.iconst 0, 1) := by decide +kernel
theorem dX7_fits_46 : decode cX7_fits 46 = .ok (.goto 13, 3) := by decide +kernel
theorem dX7_fits_49 : decode cX7_fits 49 = .ok (.iload_n 0, 1) := by decide +kernel
theorem dX7_fits_50 : decode cX7_fits 50 = .ok (.iload_n 2, 1) := by decide +kernel
theorem dX7_fits_51 : decode cX7_fits 51 = .ok (.if_icmp .ne 7, 3) := by decide +kernel
theorem dX7_fits_54 : decode cX7_fits 54 = .ok (.iconst 1, 1) := by decide +kernel
theorem dX7_fits_55 : decode cX7_fits 55 = .ok (.goto 4, 3) := by decide +kernel
theorem dX7_fits_58 : decode cX7_fits 58 = .ok (.iconst 0, 1) := by decide +kernel
theorem dX7_fits_59 : decode cX7_fits 59 = .ok (.ireturn, 1) := by decide +kernel
theorem dX7_behind_0 : decode cX7_behind 0 = .ok (.iload_n 0, 1) := by decide +kernel
theorem dX7_behind_1 : decode cX7_behind 1 = .ok (.iconst 1, 1) := by decide +kernel
theorem dX7_behind_2 : decode cX7_behind 2 = .ok (.if_icmp .ne 8, 3) := by decide +kernel
theorem dX7_behind_5 : decode cX7_behind 5 = .ok (.bipush 11, 2) := by decide +kernel
theorem dX7_behind_7 : decode cX7_behind 7 = .ok (.goto 14, 3) := by decide +kernel
theorem dX7_behind_10 : decode cX7_behind 10 = .ok (.iload_n 0, 1) := by decide +kernel
theorem dX7_behind_11 : decode cX7_behind 11 = .ok (.iconst 2, 1) := by decide +kernel
theorem dX7_behind_12 : decode cX7_behind 12 = .ok (.if_icmp .ne 8, 3) := by decide +kernel
theorem dX7_behind_15 : decode cX7_behind 15 = .ok (.bipush 12, 2) := by decide +kernel
theorem dX7_behind_17 : decode cX7_behind 17 = .ok (.goto 4, 3) := by decide +kernel
theorem dX7_behind_20 : decode cX7_behind 20 = .ok (.iload_n 1, 1) := by decide +kernel
theorem dX7_behind_21 : decode cX7_behind 21 = .ok (.ireturn, 1) := by decide +kernel
theorem dX7_placeOn_0 : decode cX7_placeOn 0 = .ok (.bipush 10, 2) := by decide +kernel
theorem dX7_placeOn_2 : decode cX7_placeOn 2 = .ok (.istore_n 3, 1) := by decide +kernel
theorem dX7_placeOn_3 : decode cX7_placeOn 3 = .ok (.bipush 30, 2) := by decide +kernel
theorem dX7_placeOn_5 : decode cX7_placeOn 5 = .ok (.iload_n 1, 1) := by decide +kernel
theorem dX7_placeOn_6 : decode cX7_placeOn 6 = .ok (.imul, 1) := by decide +kernel
theorem dX7_placeOn_7 : decode cX7_placeOn 7 = .ok (.istore 4, 2) := by decide +kernel
theorem dX7_placeOn_9 : decode cX7_placeOn 9 = .ok (.iload 4, 2) := by decide +kernel
theorem dX7_placeOn_11 : decode cX7_placeOn 11 = .ok (.bipush 30, 2) := by decide +kernel
theorem dX7_placeOn_13 : decode cX7_placeOn 13 = .ok (.iload_n 1, 1) := by decide +kernel
theorem dX7_placeOn_14 : decode cX7_placeOn 14 = .ok (.imul, 1) := by decide +kernel
theorem dX7_placeOn_15 : decode cX7_placeOn 15 = .ok (.aload_n 0, 1) := by decide +kernel
theorem dX7_placeOn_16 : decode cX7_placeOn 16 = .ok (.getfield 41, 3) := by decide +kernel
theorem dX7_placeOn_19 : decode cX7_placeOn 19 = .ok (.iload_n 1, 1) := by decide +kernel
theorem dX7_placeOn_20 : decode cX7_placeOn 20 = .ok (.iaload, 1) := by decide +kernel
theorem dX7_placeOn_21 : decode cX7_placeOn 21 = .ok (.iadd, 1) := by decide +kernel
theorem dX7_placeOn_22 : decode cX7_placeOn 22 = .ok (.if_icmp .ge 63, 3) := by decide +kernel
theorem dX7_placeOn_25 : decode cX7_placeOn 25 = .ok (.aload_n 0, 1) := by decide +kernel
theorem dX7_placeOn_26 : decode cX7_placeOn 26 = .ok (.getfield 32, 3) := by decide +kernel
theorem dX7_placeOn_29 : decode cX7_placeOn 29 = .ok (.iload 4, 2) := by decide +kernel
theorem dX7_placeOn_31 : decode cX7_placeOn 31 = .ok (.iaload, 1) := by decide +kernel
theorem dX7_placeOn_32 : decode cX7_placeOn 32 = .ok (.iload_n 2, 1) := by decide +kernel
theorem dX7_placeOn_33 : decode cX7_placeOn 33 = .ok (.if_icmp .gt 52, 3) := by decide +kernel
theorem dX7_placeOn_36 : decode cX7_placeOn 36 = .ok (.iload_n 3, 1) := by decide +kernel
theorem dX7_placeOn_37 : decode cX7_placeOn 37 = .ok (.aload_n 0, 1) := by decide +kernel
theorem dX7_placeOn_38 : decode cX7_placeOn 38 = .ok (.getfield 35, 3) := by decide +kernel
theorem dX7_placeOn_41 : decode cX7_placeOn 41 = .ok (.iload 4, 2) := by decide +kernel
theorem dX7_placeOn_43 : decode cX7_placeOn 43 = .ok (.iaload, 1) := by decide +kernel
theorem dX7_placeOn_44 : decode cX7_placeOn 44 = .ok (.aload_n 0, 1) := by decide +kernel
theorem dX7_placeOn_45 : decode cX7_placeOn 45 = .ok (.getfield 38, 3) := by decide +kernel
theorem dX7_placeOn_48 : decode cX7_placeOn 48 = .ok (.iload 4, 2) := by decide +kernel
theorem dX7_placeOn_50 : decode cX7_placeOn 50 = .ok (.iaload, 1) := by decide +kernel
theorem dX7_placeOn_51 : decode cX7_placeOn 51 = .ok (.invokestatic 137, 3) := by decide +kernel
theorem dX7_placeOn_54 : decode cX7_placeOn 54 = .ok (.ifCond .eq 23, 3) := by decide +kernel
theorem dX7_placeOn_57 : decode cX7_placeOn 57 = .ok (.aload_n 0, 1) := by decide +kernel
theorem dX7_placeOn_58 : decode cX7_placeOn 58 = .ok (.getfield 35, 3) := by decide +kernel
theorem dX7_placeOn_61 : decode cX7_placeOn 61 = .ok (.iload 4, 2) := by decide +kernel
theorem dX7_placeOn_63 : decode cX7_placeOn 63 = .ok (.iaload, 1) := by decide +kernel
theorem dX7_placeOn_64 : decode cX7_placeOn 64 = .ok (.aload_n 0, 1) := by decide +kernel
theorem dX7_placeOn_65 : decode cX7_placeOn 65 = .ok (.getfield 38, 3) := by decide +kernel
theorem dX7_placeOn_68 : decode cX7_placeOn 68 = .ok (.iload 4, 2) := by decide +kernel
theorem dX7_placeOn_70 : decode cX7_placeOn 70 = .ok (.iaload, 1) := by decide +kernel
theorem dX7_placeOn_71 : decode cX7_placeOn 71 = .ok (.invokestatic 140, 3) := by decide +kernel
theorem dX7_placeOn_74 : decode cX7_placeOn 74 = .ok (.goto 4, 3) := by decide +kernel
theorem dX7_placeOn_77 : decode cX7_placeOn 77 = .ok (.iload_n 3, 1) := by decide +kernel
theorem dX7_placeOn_78 : decode cX7_placeOn 78 = .ok (.istore_n 3, 1) := by decide +kernel
theorem dX7_placeOn_79 : decode cX7_placeOn 79 = .ok (.iinc 4 1, 3) := by decide +kernel
theorem dX7_placeOn_82 : decode cX7_placeOn 82 = .ok (.goto (-73), 3) := by decide +kernel
theorem dX7_placeOn_85 : decode cX7_placeOn 85 = .ok (.iload_n 3, 1) := by decide +kernel
theorem dX7_placeOn_86 : decode cX7_placeOn 86 = .ok (.ireturn, 1) := by decide +kernel
theorem dX7_doubtful_0 : decode cX7_doubtful 0 = .ok (.bipush 10, 2) := by decide +kernel
theorem dX7_doubtful_2 : decode cX7_doubtful 2 = .ok (.istore_n 2, 1) := by decide +kernel
theorem dX7_doubtful_3 : decode cX7_doubtful 3 = .ok (.iconst 0, 1) := by decide +kernel
theorem dX7_doubtful_4 : decode cX7_doubtful 4 = .ok (.istore_n 3, 1) := by decide +kernel
theorem dX7_doubtful_5 : decode cX7_doubtful 5 = .ok (.bipush 30, 2) := by decide +kernel
theorem dX7_doubtful_7 : decode cX7_doubtful 7 = .ok (.iload_n 1, 1) := by decide +kernel
theorem dX7_doubtful_8 : decode cX7_doubtful 8 = .ok (.imul, 1) := by decide +kernel
theorem dX7_doubtful_9 : decode cX7_doubtful 9 = .ok (.istore 4, 2) := by decide +kernel
theorem dX7_doubtful_11 : decode cX7_doubtful 11 = .ok (.iload 4, 2) := by decide +kernel
theorem dX7_doubtful_13 : decode cX7_doubtful 13 = .ok (.bipush 30, 2) := by decide +kernel
theorem dX7_doubtful_15 : decode cX7_doubtful 15 = .ok (.iload_n 1, 1) := by decide +kernel
theorem dX7_doubtful_16 : decode cX7_doubtful 16 = .ok (.imul, 1) := by decide +kernel
theorem dX7_doubtful_17 : decode cX7_doubtful 17 = .ok (.aload_n 0, 1) := by decide +kernel
theorem dX7_doubtful_18 : decode cX7_doubtful 18 = .ok (.getfield 41, 3) := by decide +kernel
theorem dX7_doubtful_21 : decode cX7_doubtful 21 = .ok (.iload_n 1, 1) := by decide +kernel
theorem dX7_doubtful_22 : decode cX7_doubtful 22 = .ok (.iaload, 1) := by decide +kernel
theorem dX7_doubtful_23 : decode cX7_doubtful 23 = .ok (.iadd, 1) := by decide +kernel
theorem dX7_doubtful_24 : decode cX7_doubtful 24 = .ok (.if_icmp .ge 69, 3) := by decide +kernel
theorem dX7_doubtful_27 : decode cX7_doubtful 27 = .ok (.iload_n 2, 1) := by decide +kernel
theorem dX7_doubtful_28 : decode cX7_doubtful 28 = .ok (.aload_n 0, 1) := by decide +kernel
theorem dX7_doubtful_29 : decode cX7_doubtful 29 = .ok (.getfield 35, 3) := by decide +kernel
theorem dX7_doubtful_32 : decode cX7_doubtful 32 = .ok (.iload 4, 2) := by decide +kernel
theorem dX7_doubtful_34 : decode cX7_doubtful 34 = .ok (.iaload, 1) := by decide +kernel
theorem dX7_doubtful_35 : decode cX7_doubtful 35 = .ok (.aload_n 0, 1) := by decide +kernel
theorem dX7_doubtful_36 : decode cX7_doubtful 36 = .ok (.getfield 38, 3) := by decide +kernel
theorem dX7_doubtful_39 : decode cX7_doubtful 39 = .ok (.iload 4, 2) := by decide +kernel
theorem dX7_doubtful_41 : decode cX7_doubtful 41 = .ok (.iaload, 1) := by decide +kernel
theorem dX7_doubtful_42 : decode cX7_doubtful 42 = .ok (.invokestatic 137, 3) := by decide +kernel
theorem dX7_doubtful_45 : decode cX7_doubtful 45 = .ok (.istore 5, 2) := by decide +kernel
theorem dX7_doubtful_47 : decode cX7_doubtful 47 = .ok (.iload 5, 2) := by decide +kernel
theorem dX7_doubtful_49 : decode cX7_doubtful 49 = .ok (.ifCond .eq 23, 3) := by decide +kernel
theorem dX7_doubtful_52 : decode cX7_doubtful 52 = .ok (.aload_n 0, 1) := by decide +kernel
theorem dX7_doubtful_53 : decode cX7_doubtful 53 = .ok (.getfield 35, 3) := by decide +kernel
theorem dX7_doubtful_56 : decode cX7_doubtful 56 = .ok (.iload 4, 2) := by decide +kernel
theorem dX7_doubtful_58 : decode cX7_doubtful 58 = .ok (.iaload, 1) := by decide +kernel
theorem dX7_doubtful_59 : decode cX7_doubtful 59 = .ok (.aload_n 0, 1) := by decide +kernel
theorem dX7_doubtful_60 : decode cX7_doubtful 60 = .ok (.getfield 38, 3) := by decide +kernel
theorem dX7_doubtful_63 : decode cX7_doubtful 63 = .ok (.iload 4, 2) := by decide +kernel
theorem dX7_doubtful_65 : decode cX7_doubtful 65 = .ok (.iaload, 1) := by decide +kernel
theorem dX7_doubtful_66 : decode cX7_doubtful 66 = .ok (.invokestatic 140, 3) := by decide +kernel
theorem dX7_doubtful_69 : decode cX7_doubtful 69 = .ok (.goto 4, 3) := by decide +kernel
theorem dX7_doubtful_72 : decode cX7_doubtful 72 = .ok (.iload_n 2, 1) := by decide +kernel
theorem dX7_doubtful_73 : decode cX7_doubtful 73 = .ok (.istore_n 2, 1) := by decide +kernel
theorem dX7_doubtful_74 : decode cX7_doubtful 74 = .ok (.iload_n 3, 1) := by decide +kernel
theorem dX7_doubtful_75 : decode cX7_doubtful 75 = .ok (.iload 5, 2) := by decide +kernel
theorem dX7_doubtful_77 : decode cX7_doubtful 77 = .ok (.ifCond .eq 7, 3) := by decide +kernel
theorem dX7_doubtful_80 : decode cX7_doubtful 80 = .ok (.iconst 0, 1) := by decide +kernel
theorem dX7_doubtful_81 : decode cX7_doubtful 81 = .ok (.goto 4, 3) := by decide +kernel
theorem dX7_doubtful_84 : decode cX7_doubtful 84 = .ok (.iconst 1, 1) := by decide +kernel
theorem dX7_doubtful_85 : decode cX7_doubtful 85 = .ok (.iadd, 1) := by decide +kernel
theorem dX7_doubtful_86 : decode cX7_doubtful 86 = .ok (.istore_n 3, 1) := by decide +kernel
theorem dX7_doubtful_87 : decode cX7_doubtful 87 = .ok (.iinc 4 1, 3) := by decide +kernel
theorem dX7_doubtful_90 : decode cX7_doubtful 90 = .ok (.goto (-79), 3) := by decide +kernel
theorem dX7_doubtful_93 : decode cX7_doubtful 93 = .ok (.iload_n 3, 1) := by decide +kernel
theorem dX7_doubtful_94 : decode cX7_doubtful 94 = .ok (.ireturn, 1) := by decide +kernel
theorem dX7_wasTold_0 : decode cX7_wasTold 0 = .ok (.iconst 0, 1) := by decide +kernel
theorem dX7_wasTold_1 : decode cX7_wasTold 1 = .ok (.istore 5, 2) := by decide +kernel
theorem dX7_wasTold_3 : decode cX7_wasTold 3 = .ok (.bipush 30, 2) := by decide +kernel
theorem dX7_wasTold_5 : decode cX7_wasTold 5 = .ok (.iload_n 1, 1) := by decide +kernel
theorem dX7_wasTold_6 : decode cX7_wasTold 6 = .ok (.imul, 1) := by decide +kernel
theorem dX7_wasTold_7 : decode cX7_wasTold 7 = .ok (.istore 6, 2) := by decide +kernel
theorem dX7_wasTold_9 : decode cX7_wasTold 9 = .ok (.iload 6, 2) := by decide +kernel
theorem dX7_wasTold_11 : decode cX7_wasTold 11 = .ok (.bipush 30, 2) := by decide +kernel
theorem dX7_wasTold_13 : decode cX7_wasTold 13 = .ok (.iload_n 1, 1) := by decide +kernel
theorem dX7_wasTold_14 : decode cX7_wasTold 14 = .ok (.imul, 1) := by decide +kernel
theorem dX7_wasTold_15 : decode cX7_wasTold 15 = .ok (.aload_n 0, 1) := by decide +kernel
theorem dX7_wasTold_16 : decode cX7_wasTold 16 = .ok (.getfield 41, 3) := by decide +kernel
theorem dX7_wasTold_19 : decode cX7_wasTold 19 = .ok (.iload_n 1, 1) := by decide +kernel
theorem dX7_wasTold_20 : decode cX7_wasTold 20 = .ok (.iaload, 1) := by decide +kernel
theorem dX7_wasTold_21 : decode cX7_wasTold 21 = .ok (.iadd, 1) := by decide +kernel
theorem dX7_wasTold_22 : decode cX7_wasTold 22 = .ok (.if_icmp .ge 55, 3) := by decide +kernel
theorem dX7_wasTold_25 : decode cX7_wasTold 25 = .ok (.iload 5, 2) := by decide +kernel
theorem dX7_wasTold_27 : decode cX7_wasTold 27 = .ok (.ifCond .ne 37, 3) := by decide +kernel
theorem dX7_wasTold_30 : decode cX7_wasTold 30 = .ok (.aload_n 0, 1) := by decide +kernel
theorem dX7_wasTold_31 : decode cX7_wasTold 31 = .ok (.getfield 32, 3) := by decide +kernel
theorem dX7_wasTold_34 : decode cX7_wasTold 34 = .ok (.iload 6, 2) := by decide +kernel
theorem dX7_wasTold_36 : decode cX7_wasTold 36 = .ok (.iaload, 1) := by decide +kernel
theorem dX7_wasTold_37 : decode cX7_wasTold 37 = .ok (.iload_n 2, 1) := by decide +kernel
theorem dX7_wasTold_38 : decode cX7_wasTold 38 = .ok (.if_icmp .ne 30, 3) := by decide +kernel
theorem dX7_wasTold_41 : decode cX7_wasTold 41 = .ok (.aload_n 0, 1) := by decide +kernel
theorem dX7_wasTold_42 : decode cX7_wasTold 42 = .ok (.getfield 35, 3) := by decide +kernel
theorem dX7_wasTold_45 : decode cX7_wasTold 45 = .ok (.iload 6, 2) := by decide +kernel
theorem dX7_wasTold_47 : decode cX7_wasTold 47 = .ok (.iaload, 1) := by decide +kernel
theorem dX7_wasTold_48 : decode cX7_wasTold 48 = .ok (.iload_n 3, 1) := by decide +kernel
theorem dX7_wasTold_49 : decode cX7_wasTold 49 = .ok (.if_icmp .ne 19, 3) := by decide +kernel
theorem dX7_wasTold_52 : decode cX7_wasTold 52 = .ok (.aload_n 0, 1) := by decide +kernel
theorem dX7_wasTold_53 : decode cX7_wasTold 53 = .ok (.getfield 38, 3) := by decide +kernel
theorem dX7_wasTold_56 : decode cX7_wasTold 56 = .ok (.iload 6, 2) := by decide +kernel
theorem dX7_wasTold_58 : decode cX7_wasTold 58 = .ok (.iaload, 1) := by decide +kernel
theorem dX7_wasTold_59 : decode cX7_wasTold 59 = .ok (.iload 4, 2) := by decide +kernel
theorem dX7_wasTold_61 : decode cX7_wasTold 61 = .ok (.if_icmp .ne 7, 3) := by decide +kernel
theorem dX7_wasTold_64 : decode cX7_wasTold 64 = .ok (.iconst 1, 1) := by decide +kernel
theorem dX7_wasTold_65 : decode cX7_wasTold 65 = .ok (.goto 4, 3) := by decide +kernel
theorem dX7_wasTold_68 : decode cX7_wasTold 68 = .ok (.iconst 0, 1) := by decide +kernel
theorem dX7_wasTold_69 : decode cX7_wasTold 69 = .ok (.istore 5, 2) := by decide +kernel
theorem dX7_wasTold_71 : decode cX7_wasTold 71 = .ok (.iinc 6 1, 3) := by decide +kernel
theorem dX7_wasTold_74 : decode cX7_wasTold 74 = .ok (.goto (-65), 3) := by decide +kernel
theorem dX7_wasTold_77 : decode cX7_wasTold 77 = .ok (.iload 5, 2) := by decide +kernel
theorem dX7_wasTold_79 : decode cX7_wasTold 79 = .ok (.ireturn, 1) := by decide +kernel
theorem dX7_reports_0 : decode cX7_reports 0 = .ok (.aload_n 0, 1) := by decide +kernel
theorem dX7_reports_1 : decode cX7_reports 1 = .ok (.iload_n 1, 1) := by decide +kernel
theorem dX7_reports_2 : decode cX7_reports 2 = .ok (.iload_n 2, 1) := by decide +kernel
theorem dX7_reports_3 : decode cX7_reports 3 = .ok (.iload_n 3, 1) := by decide +kernel
theorem dX7_reports_4 : decode cX7_reports 4 = .ok (.iload 4, 2) := by decide +kernel
theorem dX7_reports_6 : decode cX7_reports 6 = .ok (.invokevirtual 144, 3) := by decide +kernel
theorem dX7_reports_9 : decode cX7_reports 9 = .ok (.ifCond .eq 5, 3) := by decide +kernel
theorem dX7_reports_12 : decode cX7_reports 12 = .ok (.iconst (-1), 1) := by decide +kernel
theorem dX7_reports_13 : decode cX7_reports 13 = .ok (.ireturn, 1) := by decide +kernel
theorem dX7_reports_14 : decode cX7_reports 14 = .ok (.bipush 30, 2) := by decide +kernel
theorem dX7_reports_16 : decode cX7_reports 16 = .ok (.iload_n 1, 1) := by decide +kernel
theorem dX7_reports_17 : decode cX7_reports 17 = .ok (.imul, 1) := by decide +kernel
theorem dX7_reports_18 : decode cX7_reports 18 = .ok (.aload_n 0, 1) := by decide +kernel
theorem dX7_reports_19 : decode cX7_reports 19 = .ok (.getfield 41, 3) := by decide +kernel
theorem dX7_reports_22 : decode cX7_reports 22 = .ok (.iload_n 1, 1) := by decide +kernel
theorem dX7_reports_23 : decode cX7_reports 23 = .ok (.iaload, 1) := by decide +kernel
theorem dX7_reports_24 : decode cX7_reports 24 = .ok (.iadd, 1) := by decide +kernel
theorem dX7_reports_25 : decode cX7_reports 25 = .ok (.istore 5, 2) := by decide +kernel
theorem dX7_reports_27 : decode cX7_reports 27 = .ok (.iload 5, 2) := by decide +kernel
theorem dX7_reports_29 : decode cX7_reports 29 = .ok (.bipush 30, 2) := by decide +kernel
theorem dX7_reports_31 : decode cX7_reports 31 = .ok (.iload_n 1, 1) := by decide +kernel
theorem dX7_reports_32 : decode cX7_reports 32 = .ok (.imul, 1) := by decide +kernel
theorem dX7_reports_33 : decode cX7_reports 33 = .ok (.if_icmp .le 70, 3) := by decide +kernel
theorem dX7_reports_36 : decode cX7_reports 36 = .ok (.aload_n 0, 1) := by decide +kernel
theorem dX7_reports_37 : decode cX7_reports 37 = .ok (.getfield 32, 3) := by decide +kernel
theorem dX7_reports_40 : decode cX7_reports 40 = .ok (.iload 5, 2) := by decide +kernel
theorem dX7_reports_42 : decode cX7_reports 42 = .ok (.iconst 1, 1) := by decide +kernel
theorem dX7_reports_43 : decode cX7_reports 43 = .ok (.isub, 1) := by decide +kernel
theorem dX7_reports_44 : decode cX7_reports 44 = .ok (.iaload, 1) := by decide +kernel
theorem dX7_reports_45 : decode cX7_reports 45 = .ok (.iload_n 2, 1) := by decide +kernel
theorem dX7_reports_46 : decode cX7_reports 46 = .ok (.if_icmp .le 57, 3) := by decide +kernel
theorem dX7_reports_49 : decode cX7_reports 49 = .ok (.aload_n 0, 1) := by decide +kernel
theorem dX7_reports_50 : decode cX7_reports 50 = .ok (.getfield 32, 3) := by decide +kernel
theorem dX7_reports_53 : decode cX7_reports 53 = .ok (.iload 5, 2) := by decide +kernel
theorem dX7_reports_55 : decode cX7_reports 55 = .ok (.aload_n 0, 1) := by decide +kernel
theorem dX7_reports_56 : decode cX7_reports 56 = .ok (.getfield 32, 3) := by decide +kernel
theorem dX7_reports_59 : decode cX7_reports 59 = .ok (.iload 5, 2) := by decide +kernel
theorem dX7_reports_61 : decode cX7_reports 61 = .ok (.iconst 1, 1) := by decide +kernel
theorem dX7_reports_62 : decode cX7_reports 62 = .ok (.isub, 1) := by decide +kernel
theorem dX7_reports_63 : decode cX7_reports 63 = .ok (.iaload, 1) := by decide +kernel
theorem dX7_reports_64 : decode cX7_reports 64 = .ok (.iastore, 1) := by decide +kernel
theorem dX7_reports_65 : decode cX7_reports 65 = .ok (.aload_n 0, 1) := by decide +kernel
theorem dX7_reports_66 : decode cX7_reports 66 = .ok (.getfield 35, 3) := by decide +kernel
theorem dX7_reports_69 : decode cX7_reports 69 = .ok (.iload 5, 2) := by decide +kernel
theorem dX7_reports_71 : decode cX7_reports 71 = .ok (.aload_n 0, 1) := by decide +kernel
theorem dX7_reports_72 : decode cX7_reports 72 = .ok (.getfield 35, 3) := by decide +kernel
theorem dX7_reports_75 : decode cX7_reports 75 = .ok (.iload 5, 2) := by decide +kernel
theorem dX7_reports_77 : decode cX7_reports 77 = .ok (.iconst 1, 1) := by decide +kernel
theorem dX7_reports_78 : decode cX7_reports 78 = .ok (.isub, 1) := by decide +kernel
theorem dX7_reports_79 : decode cX7_reports 79 = .ok (.iaload, 1) := by decide +kernel
theorem dX7_reports_80 : decode cX7_reports 80 = .ok (.iastore, 1) := by decide +kernel
theorem dX7_reports_81 : decode cX7_reports 81 = .ok (.aload_n 0, 1) := by decide +kernel
theorem dX7_reports_82 : decode cX7_reports 82 = .ok (.getfield 38, 3) := by decide +kernel
theorem dX7_reports_85 : decode cX7_reports 85 = .ok (.iload 5, 2) := by decide +kernel
theorem dX7_reports_87 : decode cX7_reports 87 = .ok (.aload_n 0, 1) := by decide +kernel
theorem dX7_reports_88 : decode cX7_reports 88 = .ok (.getfield 38, 3) := by decide +kernel
theorem dX7_reports_91 : decode cX7_reports 91 = .ok (.iload 5, 2) := by decide +kernel
theorem dX7_reports_93 : decode cX7_reports 93 = .ok (.iconst 1, 1) := by decide +kernel
theorem dX7_reports_94 : decode cX7_reports 94 = .ok (.isub, 1) := by decide +kernel
theorem dX7_reports_95 : decode cX7_reports 95 = .ok (.iaload, 1) := by decide +kernel
theorem dX7_reports_96 : decode cX7_reports 96 = .ok (.iastore, 1) := by decide +kernel
theorem dX7_reports_97 : decode cX7_reports 97 = .ok (.iinc 5 (-1), 3) := by decide +kernel
theorem dX7_reports_100 : decode cX7_reports 100 = .ok (.goto (-73), 3) := by decide +kernel
theorem dX7_reports_103 : decode cX7_reports 103 = .ok (.aload_n 0, 1) := by decide +kernel
theorem dX7_reports_104 : decode cX7_reports 104 = .ok (.getfield 32, 3) := by decide +kernel
theorem dX7_reports_107 : decode cX7_reports 107 = .ok (.iload 5, 2) := by decide +kernel
theorem dX7_reports_109 : decode cX7_reports 109 = .ok (.iload_n 2, 1) := by decide +kernel
theorem dX7_reports_110 : decode cX7_reports 110 = .ok (.iastore, 1) := by decide +kernel
theorem dX7_reports_111 : decode cX7_reports 111 = .ok (.aload_n 0, 1) := by decide +kernel
theorem dX7_reports_112 : decode cX7_reports 112 = .ok (.getfield 35, 3) := by decide +kernel
theorem dX7_reports_115 : decode cX7_reports 115 = .ok (.iload 5, 2) := by decide +kernel
theorem dX7_reports_117 : decode cX7_reports 117 = .ok (.iload_n 3, 1) := by decide +kernel
theorem dX7_reports_118 : decode cX7_reports 118 = .ok (.iastore, 1) := by decide +kernel
theorem dX7_reports_119 : decode cX7_reports 119 = .ok (.aload_n 0, 1) := by decide +kernel
theorem dX7_reports_120 : decode cX7_reports 120 = .ok (.getfield 38, 3) := by decide +kernel
theorem dX7_reports_123 : decode cX7_reports 123 = .ok (.iload 5, 2) := by decide +kernel
theorem dX7_reports_125 : decode cX7_reports 125 = .ok (.iload 4, 2) := by decide +kernel
theorem dX7_reports_127 : decode cX7_reports 127 = .ok (.iastore, 1) := by decide +kernel
theorem dX7_reports_128 : decode cX7_reports 128 = .ok (.aload_n 0, 1) := by decide +kernel
theorem dX7_reports_129 : decode cX7_reports 129 = .ok (.getfield 41, 3) := by decide +kernel
theorem dX7_reports_132 : decode cX7_reports 132 = .ok (.iload_n 1, 1) := by decide +kernel
theorem dX7_reports_133 : decode cX7_reports 133 = .ok (.dup2, 1) := by decide +kernel
theorem dX7_reports_134 : decode cX7_reports 134 = .ok (.iaload, 1) := by decide +kernel
theorem dX7_reports_135 : decode cX7_reports 135 = .ok (.iconst 1, 1) := by decide +kernel
theorem dX7_reports_136 : decode cX7_reports 136 = .ok (.iadd, 1) := by decide +kernel
theorem dX7_reports_137 : decode cX7_reports 137 = .ok (.iastore, 1) := by decide +kernel
theorem dX7_reports_138 : decode cX7_reports 138 = .ok (.aload_n 0, 1) := by decide +kernel
theorem dX7_reports_139 : decode cX7_reports 139 = .ok (.iload_n 1, 1) := by decide +kernel
theorem dX7_reports_140 : decode cX7_reports 140 = .ok (.invokevirtual 148, 3) := by decide +kernel
theorem dX7_reports_143 : decode cX7_reports 143 = .ok (.ireturn, 1) := by decide +kernel
theorem dX7_report_0 : decode cX7_report 0 = .ok (.aload_n 0, 1) := by decide +kernel
theorem dX7_report_1 : decode cX7_report 1 = .ok (.iload_n 1, 1) := by decide +kernel
theorem dX7_report_2 : decode cX7_report 2 = .ok (.invokevirtual 131, 3) := by decide +kernel
theorem dX7_report_5 : decode cX7_report 5 = .ok (.ifCond .eq 15, 3) := by decide +kernel
theorem dX7_report_8 : decode cX7_report 8 = .ok (.iload 4, 2) := by decide +kernel
theorem dX7_report_10 : decode cX7_report 10 = .ok (.invokestatic 118, 3) := by decide +kernel
theorem dX7_report_13 : decode cX7_report 13 = .ok (.ifCond .eq 7, 3) := by decide +kernel
theorem dX7_report_16 : decode cX7_report 16 = .ok (.iconst 1, 1) := by decide +kernel
theorem dX7_report_17 : decode cX7_report 17 = .ok (.goto 4, 3) := by decide +kernel
theorem dX7_report_20 : decode cX7_report 20 = .ok (.iconst 0, 1) := by decide +kernel
theorem dX7_report_21 : decode cX7_report 21 = .ok (.istore 5, 2) := by decide +kernel
theorem dX7_report_23 : decode cX7_report 23 = .ok (.iload_n 2, 1) := by decide +kernel
theorem dX7_report_24 : decode cX7_report 24 = .ok (.iconst 0, 1) := by decide +kernel
theorem dX7_report_25 : decode cX7_report 25 = .ok (.aload_n 0, 1) := by decide +kernel
theorem dX7_report_26 : decode cX7_report 26 = .ok (.getfield 152, 3) := by decide +kernel
theorem dX7_report_29 : decode cX7_report 29 = .ok (.invokestatic 111, 3) := by decide +kernel
theorem dX7_report_32 : decode cX7_report 32 = .ok (.ifCond .eq 16, 3) := by decide +kernel
theorem dX7_report_35 : decode cX7_report 35 = .ok (.iload_n 3, 1) := by decide +kernel
theorem dX7_report_36 : decode cX7_report 36 = .ok (.iconst 0, 1) := by decide +kernel
theorem dX7_report_37 : decode cX7_report 37 = .ok (.iconst 3, 1) := by decide +kernel
theorem dX7_report_38 : decode cX7_report 38 = .ok (.invokestatic 111, 3) := by decide +kernel
theorem dX7_report_41 : decode cX7_report 41 = .ok (.ifCond .eq 7, 3) := by decide +kernel
theorem dX7_report_44 : decode cX7_report 44 = .ok (.iconst 1, 1) := by decide +kernel
theorem dX7_report_45 : decode cX7_report 45 = .ok (.goto 4, 3) := by decide +kernel
theorem dX7_report_48 : decode cX7_report 48 = .ok (.iconst 0, 1) := by decide +kernel
theorem dX7_report_49 : decode cX7_report 49 = .ok (.istore 6, 2) := by decide +kernel
theorem dX7_report_51 : decode cX7_report 51 = .ok (.aload_n 0, 1) := by decide +kernel
theorem dX7_report_52 : decode cX7_report 52 = .ok (.iload 5, 2) := by decide +kernel
theorem dX7_report_54 : decode cX7_report 54 = .ok (.ifCond .ne 7, 3) := by decide +kernel
theorem dX7_report_57 : decode cX7_report 57 = .ok (.iconst 1, 1) := by decide +kernel
theorem dX7_report_58 : decode cX7_report 58 = .ok (.goto 36, 3) := by decide +kernel
theorem dX7_report_61 : decode cX7_report 61 = .ok (.iload 6, 2) := by decide +kernel
theorem dX7_report_63 : decode cX7_report 63 = .ok (.ifCond .ne 7, 3) := by decide +kernel
theorem dX7_report_66 : decode cX7_report 66 = .ok (.iconst 2, 1) := by decide +kernel
theorem dX7_report_67 : decode cX7_report 67 = .ok (.goto 27, 3) := by decide +kernel
theorem dX7_report_70 : decode cX7_report 70 = .ok (.aload_n 0, 1) := by decide +kernel
theorem dX7_report_71 : decode cX7_report 71 = .ok (.iload_n 1, 1) := by decide +kernel
theorem dX7_report_72 : decode cX7_report 72 = .ok (.invokevirtual 134, 3) := by decide +kernel
theorem dX7_report_75 : decode cX7_report 75 = .ok (.ifCond .ne 14, 3) := by decide +kernel
theorem dX7_report_78 : decode cX7_report 78 = .ok (.aload_n 0, 1) := by decide +kernel
theorem dX7_report_79 : decode cX7_report 79 = .ok (.getfield 41, 3) := by decide +kernel
theorem dX7_report_82 : decode cX7_report 82 = .ok (.iload_n 1, 1) := by decide +kernel
theorem dX7_report_83 : decode cX7_report 83 = .ok (.iaload, 1) := by decide +kernel
theorem dX7_report_84 : decode cX7_report 84 = .ok (.bipush 30, 2) := by decide +kernel
theorem dX7_report_86 : decode cX7_report 86 = .ok (.if_icmp .ne 7, 3) := by decide +kernel
theorem dX7_report_89 : decode cX7_report 89 = .ok (.iconst 3, 1) := by decide +kernel
theorem dX7_report_90 : decode cX7_report 90 = .ok (.goto 4, 3) := by decide +kernel
theorem dX7_report_93 : decode cX7_report 93 = .ok (.iconst 0, 1) := by decide +kernel
theorem dX7_report_94 : decode cX7_report 94 = .ok (.invokevirtual 125, 3) := by decide +kernel
theorem dX7_report_97 : decode cX7_report 97 = .ok (.ifCond .eq 15, 3) := by decide +kernel
theorem dX7_report_100 : decode cX7_report 100 = .ok (.aload_n 0, 1) := by decide +kernel
theorem dX7_report_101 : decode cX7_report 101 = .ok (.iload_n 1, 1) := by decide +kernel
theorem dX7_report_102 : decode cX7_report 102 = .ok (.iload_n 2, 1) := by decide +kernel
theorem dX7_report_103 : decode cX7_report 103 = .ok (.iload_n 3, 1) := by decide +kernel
theorem dX7_report_104 : decode cX7_report 104 = .ok (.iload 4, 2) := by decide +kernel
theorem dX7_report_106 : decode cX7_report 106 = .ok (.invokevirtual 155, 3) := by decide +kernel
theorem dX7_report_109 : decode cX7_report 109 = .ok (.goto 4, 3) := by decide +kernel
theorem dX7_report_112 : decode cX7_report 112 = .ok (.iconst 0, 1) := by decide +kernel
theorem dX7_report_113 : decode cX7_report 113 = .ok (.ireturn, 1) := by decide +kernel
theorem dX7_place_0 : decode cX7_place 0 = .ok (.aload_n 0, 1) := by decide +kernel
theorem dX7_place_1 : decode cX7_place 1 = .ok (.iload_n 1, 1) := by decide +kernel
theorem dX7_place_2 : decode cX7_place 2 = .ok (.invokevirtual 131, 3) := by decide +kernel
theorem dX7_place_5 : decode cX7_place 5 = .ok (.istore_n 3, 1) := by decide +kernel
theorem dX7_place_6 : decode cX7_place 6 = .ok (.aload_n 0, 1) := by decide +kernel
theorem dX7_place_7 : decode cX7_place 7 = .ok (.iload_n 3, 1) := by decide +kernel
theorem dX7_place_8 : decode cX7_place 8 = .ok (.ifCond .ne 7, 3) := by decide +kernel
theorem dX7_place_11 : decode cX7_place 11 = .ok (.iconst 1, 1) := by decide +kernel
theorem dX7_place_12 : decode cX7_place 12 = .ok (.goto 15, 3) := by decide +kernel
theorem dX7_place_15 : decode cX7_place 15 = .ok (.iload_n 2, 1) := by decide +kernel
theorem dX7_place_16 : decode cX7_place 16 = .ok (.invokestatic 122, 3) := by decide +kernel
theorem dX7_place_19 : decode cX7_place 19 = .ok (.ifCond .ne 7, 3) := by decide +kernel
theorem dX7_place_22 : decode cX7_place 22 = .ok (.iconst 2, 1) := by decide +kernel
theorem dX7_place_23 : decode cX7_place 23 = .ok (.goto 4, 3) := by decide +kernel
theorem dX7_place_26 : decode cX7_place 26 = .ok (.iconst 0, 1) := by decide +kernel
theorem dX7_place_27 : decode cX7_place 27 = .ok (.invokevirtual 125, 3) := by decide +kernel
theorem dX7_place_30 : decode cX7_place 30 = .ok (.ifCond .eq 12, 3) := by decide +kernel
theorem dX7_place_33 : decode cX7_place 33 = .ok (.aload_n 0, 1) := by decide +kernel
theorem dX7_place_34 : decode cX7_place 34 = .ok (.iload_n 1, 1) := by decide +kernel
theorem dX7_place_35 : decode cX7_place 35 = .ok (.iload_n 2, 1) := by decide +kernel
theorem dX7_place_36 : decode cX7_place 36 = .ok (.invokevirtual 158, 3) := by decide +kernel
theorem dX7_place_39 : decode cX7_place 39 = .ok (.goto 4, 3) := by decide +kernel
theorem dX7_place_42 : decode cX7_place 42 = .ok (.iconst 0, 1) := by decide +kernel
theorem dX7_place_43 : decode cX7_place 43 = .ok (.ireturn, 1) := by decide +kernel
theorem dX7_count_0 : decode cX7_count 0 = .ok (.aload_n 0, 1) := by decide +kernel
theorem dX7_count_1 : decode cX7_count 1 = .ok (.iload_n 1, 1) := by decide +kernel
theorem dX7_count_2 : decode cX7_count 2 = .ok (.invokestatic 118, 3) := by decide +kernel
theorem dX7_count_5 : decode cX7_count 5 = .ok (.ifCond .ne 7, 3) := by decide +kernel
theorem dX7_count_8 : decode cX7_count 8 = .ok (.iconst 1, 1) := by decide +kernel
theorem dX7_count_9 : decode cX7_count 9 = .ok (.goto 24, 3) := by decide +kernel
theorem dX7_count_12 : decode cX7_count 12 = .ok (.iload_n 2, 1) := by decide +kernel
theorem dX7_count_13 : decode cX7_count 13 = .ok (.iconst (-1), 1) := by decide +kernel
theorem dX7_count_14 : decode cX7_count 14 = .ok (.iconst 2, 1) := by decide +kernel
theorem dX7_count_15 : decode cX7_count 15 = .ok (.invokestatic 111, 3) := by decide +kernel
theorem dX7_count_18 : decode cX7_count 18 = .ok (.ifCond .eq 10, 3) := by decide +kernel
theorem dX7_count_21 : decode cX7_count 21 = .ok (.iload_n 3, 1) := by decide +kernel
theorem dX7_count_22 : decode cX7_count 22 = .ok (.invokestatic 122, 3) := by decide +kernel
theorem dX7_count_25 : decode cX7_count 25 = .ok (.ifCond .ne 7, 3) := by decide +kernel
theorem dX7_count_28 : decode cX7_count 28 = .ok (.iconst 2, 1) := by decide +kernel
theorem dX7_count_29 : decode cX7_count 29 = .ok (.goto 4, 3) := by decide +kernel
theorem dX7_count_32 : decode cX7_count 32 = .ok (.iconst 0, 1) := by decide +kernel
theorem dX7_count_33 : decode cX7_count 33 = .ok (.invokevirtual 125, 3) := by decide +kernel
theorem dX7_count_36 : decode cX7_count 36 = .ok (.ifCond .ne 5, 3) := by decide +kernel
theorem dX7_count_39 : decode cX7_count 39 = .ok (.iconst 0, 1) := by decide +kernel
theorem dX7_count_40 : decode cX7_count 40 = .ok (.ireturn, 1) := by decide +kernel
theorem dX7_count_41 : decode cX7_count 41 = .ok (.iconst 0, 1) := by decide +kernel
theorem dX7_count_42 : decode cX7_count 42 = .ok (.istore 4, 2) := by decide +kernel
theorem dX7_count_44 : decode cX7_count 44 = .ok (.iconst 0, 1) := by decide +kernel
theorem dX7_count_45 : decode cX7_count 45 = .ok (.istore 5, 2) := by decide +kernel
theorem dX7_count_47 : decode cX7_count 47 = .ok (.iload 5, 2) := by decide +kernel
theorem dX7_count_49 : decode cX7_count 49 = .ok (.aload_n 0, 1) := by decide +kernel
theorem dX7_count_50 : decode cX7_count 50 = .ok (.getfield 115, 3) := by decide +kernel
theorem dX7_count_53 : decode cX7_count 53 = .ok (.if_icmp .ge 46, 3) := by decide +kernel
theorem dX7_count_56 : decode cX7_count 56 = .ok (.iload 4, 2) := by decide +kernel
theorem dX7_count_58 : decode cX7_count 58 = .ok (.iload_n 2, 1) := by decide +kernel
theorem dX7_count_59 : decode cX7_count 59 = .ok (.iconst (-1), 1) := by decide +kernel
theorem dX7_count_60 : decode cX7_count 60 = .ok (.if_icmp .eq 14, 3) := by decide +kernel
theorem dX7_count_63 : decode cX7_count 63 = .ok (.aload_n 0, 1) := by decide +kernel
theorem dX7_count_64 : decode cX7_count 64 = .ok (.getfield 13, 3) := by decide +kernel
theorem dX7_count_67 : decode cX7_count 67 = .ok (.iload 5, 2) := by decide +kernel
theorem dX7_count_69 : decode cX7_count 69 = .ok (.iaload, 1) := by decide +kernel
theorem dX7_count_70 : decode cX7_count 70 = .ok (.iload_n 2, 1) := by decide +kernel
theorem dX7_count_71 : decode cX7_count 71 = .ok (.if_icmp .ne 18, 3) := by decide +kernel
theorem dX7_count_74 : decode cX7_count 74 = .ok (.aload_n 0, 1) := by decide +kernel
theorem dX7_count_75 : decode cX7_count 75 = .ok (.iload 5, 2) := by decide +kernel
theorem dX7_count_77 : decode cX7_count 77 = .ok (.iload_n 3, 1) := by decide +kernel
theorem dX7_count_78 : decode cX7_count 78 = .ok (.invokevirtual 158, 3) := by decide +kernel
theorem dX7_count_81 : decode cX7_count 81 = .ok (.iload_n 1, 1) := by decide +kernel
theorem dX7_count_82 : decode cX7_count 82 = .ok (.if_icmp .ne 7, 3) := by decide +kernel
theorem dX7_count_85 : decode cX7_count 85 = .ok (.iconst 1, 1) := by decide +kernel
theorem dX7_count_86 : decode cX7_count 86 = .ok (.goto 4, 3) := by decide +kernel
theorem dX7_count_89 : decode cX7_count 89 = .ok (.iconst 0, 1) := by decide +kernel
theorem dX7_count_90 : decode cX7_count 90 = .ok (.iadd, 1) := by decide +kernel
theorem dX7_count_91 : decode cX7_count 91 = .ok (.istore 4, 2) := by decide +kernel
theorem dX7_count_93 : decode cX7_count 93 = .ok (.iinc 5 1, 3) := by decide +kernel
theorem dX7_count_96 : decode cX7_count 96 = .ok (.goto (-49), 3) := by decide +kernel
theorem dX7_count_99 : decode cX7_count 99 = .ok (.iload 4, 2) := by decide +kernel
theorem dX7_count_101 : decode cX7_count 101 = .ok (.ireturn, 1) := by decide +kernel
theorem dX7_days_0 : decode cX7_days 0 = .ok (.aload_n 0, 1) := by decide +kernel
theorem dX7_days_1 : decode cX7_days 1 = .ok (.iload_n 1, 1) := by decide +kernel
theorem dX7_days_2 : decode cX7_days 2 = .ok (.invokevirtual 131, 3) := by decide +kernel
theorem dX7_days_5 : decode cX7_days 5 = .ok (.istore 5, 2) := by decide +kernel
theorem dX7_days_7 : decode cX7_days 7 = .ok (.iload_n 2, 1) := by decide +kernel
theorem dX7_days_8 : decode cX7_days 8 = .ok (.invokestatic 122, 3) := by decide +kernel
theorem dX7_days_11 : decode cX7_days 11 = .ok (.ifCond .eq 40, 3) := by decide +kernel
theorem dX7_days_14 : decode cX7_days 14 = .ok (.iload_n 3, 1) := by decide +kernel
theorem dX7_days_15 : decode cX7_days 15 = .ok (.iload_n 2, 1) := by decide +kernel
theorem dX7_days_16 : decode cX7_days 16 = .ok (.iload_n 2, 1) := by decide +kernel
theorem dX7_days_17 : decode cX7_days 17 = .ok (.sipush 400, 3) := by decide +kernel
theorem dX7_days_20 : decode cX7_days 20 = .ok (.iadd, 1) := by decide +kernel
theorem dX7_days_21 : decode cX7_days 21 = .ok (.invokestatic 111, 3) := by decide +kernel
theorem dX7_days_24 : decode cX7_days 24 = .ok (.ifCond .eq 27, 3) := by decide +kernel
theorem dX7_days_27 : decode cX7_days 27 = .ok (.iload 4, 2) := by decide +kernel
theorem dX7_days_29 : decode cX7_days 29 = .ok (.invokestatic 118, 3) := by decide +kernel
theorem dX7_days_32 : decode cX7_days 32 = .ok (.ifCond .ne 15, 3) := by decide +kernel
theorem dX7_days_35 : decode cX7_days 35 = .ok (.iload 4, 2) := by decide +kernel
theorem dX7_days_37 : decode cX7_days 37 = .ok (.bipush 10, 2) := by decide +kernel
theorem dX7_days_39 : decode cX7_days 39 = .ok (.bipush 12, 2) := by decide +kernel
theorem dX7_days_41 : decode cX7_days 41 = .ok (.invokestatic 111, 3) := by decide +kernel
theorem dX7_days_44 : decode cX7_days 44 = .ok (.ifCond .eq 7, 3) := by decide +kernel
theorem dX7_days_47 : decode cX7_days 47 = .ok (.iconst 1, 1) := by decide +kernel
theorem dX7_days_48 : decode cX7_days 48 = .ok (.goto 4, 3) := by decide +kernel
theorem dX7_days_51 : decode cX7_days 51 = .ok (.iconst 0, 1) := by decide +kernel
theorem dX7_days_52 : decode cX7_days 52 = .ok (.istore 6, 2) := by decide +kernel
theorem dX7_days_54 : decode cX7_days 54 = .ok (.aload_n 0, 1) := by decide +kernel
theorem dX7_days_55 : decode cX7_days 55 = .ok (.iload 5, 2) := by decide +kernel
theorem dX7_days_57 : decode cX7_days 57 = .ok (.ifCond .ne 7, 3) := by decide +kernel
theorem dX7_days_60 : decode cX7_days 60 = .ok (.iconst 1, 1) := by decide +kernel
theorem dX7_days_61 : decode cX7_days 61 = .ok (.goto 13, 3) := by decide +kernel
theorem dX7_days_64 : decode cX7_days 64 = .ok (.iload 6, 2) := by decide +kernel
theorem dX7_days_66 : decode cX7_days 66 = .ok (.ifCond .ne 7, 3) := by decide +kernel
theorem dX7_days_69 : decode cX7_days 69 = .ok (.iconst 2, 1) := by decide +kernel
theorem dX7_days_70 : decode cX7_days 70 = .ok (.goto 4, 3) := by decide +kernel
theorem dX7_days_73 : decode cX7_days 73 = .ok (.iconst 0, 1) := by decide +kernel
theorem dX7_days_74 : decode cX7_days 74 = .ok (.invokevirtual 125, 3) := by decide +kernel
theorem dX7_days_77 : decode cX7_days 77 = .ok (.ifCond .ne 5, 3) := by decide +kernel
theorem dX7_days_80 : decode cX7_days 80 = .ok (.iconst 0, 1) := by decide +kernel
theorem dX7_days_81 : decode cX7_days 81 = .ok (.ireturn, 1) := by decide +kernel
theorem dX7_days_82 : decode cX7_days 82 = .ok (.iconst 0, 1) := by decide +kernel
theorem dX7_days_83 : decode cX7_days 83 = .ok (.istore 7, 2) := by decide +kernel
theorem dX7_days_85 : decode cX7_days 85 = .ok (.iload_n 2, 1) := by decide +kernel
theorem dX7_days_86 : decode cX7_days 86 = .ok (.istore 8, 2) := by decide +kernel
theorem dX7_days_88 : decode cX7_days 88 = .ok (.iload 8, 2) := by decide +kernel
theorem dX7_days_90 : decode cX7_days 90 = .ok (.iload_n 3, 1) := by decide +kernel
theorem dX7_days_91 : decode cX7_days 91 = .ok (.if_icmp .gt 31, 3) := by decide +kernel
theorem dX7_days_94 : decode cX7_days 94 = .ok (.iload 7, 2) := by decide +kernel
theorem dX7_days_96 : decode cX7_days 96 = .ok (.aload_n 0, 1) := by decide +kernel
theorem dX7_days_97 : decode cX7_days 97 = .ok (.iload_n 1, 1) := by decide +kernel
theorem dX7_days_98 : decode cX7_days 98 = .ok (.iload 8, 2) := by decide +kernel
theorem dX7_days_100 : decode cX7_days 100 = .ok (.invokevirtual 158, 3) := by decide +kernel
theorem dX7_days_103 : decode cX7_days 103 = .ok (.iload 4, 2) := by decide +kernel
theorem dX7_days_105 : decode cX7_days 105 = .ok (.if_icmp .ne 7, 3) := by decide +kernel
theorem dX7_days_108 : decode cX7_days 108 = .ok (.iconst 1, 1) := by decide +kernel
theorem dX7_days_109 : decode cX7_days 109 = .ok (.goto 4, 3) := by decide +kernel
theorem dX7_days_112 : decode cX7_days 112 = .ok (.iconst 0, 1) := by decide +kernel
theorem dX7_days_113 : decode cX7_days 113 = .ok (.iadd, 1) := by decide +kernel
theorem dX7_days_114 : decode cX7_days 114 = .ok (.istore 7, 2) := by decide +kernel
theorem dX7_days_116 : decode cX7_days 116 = .ok (.iinc 8 1, 3) := by decide +kernel
theorem dX7_days_119 : decode cX7_days 119 = .ok (.goto (-31), 3) := by decide +kernel
theorem dX7_days_122 : decode cX7_days 122 = .ok (.iload 7, 2) := by decide +kernel
theorem dX7_days_124 : decode cX7_days 124 = .ok (.ireturn, 1) := by decide +kernel
theorem dX7_isLeased_0 : decode cX7_isLeased 0 = .ok (.iconst (-1), 1) := by decide +kernel
theorem dX7_isLeased_1 : decode cX7_isLeased 1 = .ok (.istore_n 3, 1) := by decide +kernel
theorem dX7_isLeased_2 : decode cX7_isLeased 2 = .ok (.bipush 10, 2) := by decide +kernel
theorem dX7_isLeased_4 : decode cX7_isLeased 4 = .ok (.iload_n 1, 1) := by decide +kernel
theorem dX7_isLeased_5 : decode cX7_isLeased 5 = .ok (.imul, 1) := by decide +kernel
theorem dX7_isLeased_6 : decode cX7_isLeased 6 = .ok (.istore 4, 2) := by decide +kernel
theorem dX7_isLeased_8 : decode cX7_isLeased 8 = .ok (.iload 4, 2) := by decide +kernel
theorem dX7_isLeased_10 : decode cX7_isLeased 10 = .ok (.bipush 10, 2) := by decide +kernel
theorem dX7_isLeased_12 : decode cX7_isLeased 12 = .ok (.iload_n 1, 1) := by decide +kernel
theorem dX7_isLeased_13 : decode cX7_isLeased 13 = .ok (.imul, 1) := by decide +kernel
theorem dX7_isLeased_14 : decode cX7_isLeased 14 = .ok (.aload_n 0, 1) := by decide +kernel
theorem dX7_isLeased_15 : decode cX7_isLeased 15 = .ok (.getfield 50, 3) := by decide +kernel
theorem dX7_isLeased_18 : decode cX7_isLeased 18 = .ok (.iload_n 1, 1) := by decide +kernel
theorem dX7_isLeased_19 : decode cX7_isLeased 19 = .ok (.iaload, 1) := by decide +kernel
theorem dX7_isLeased_20 : decode cX7_isLeased 20 = .ok (.iadd, 1) := by decide +kernel
theorem dX7_isLeased_21 : decode cX7_isLeased 21 = .ok (.if_icmp .ge 27, 3) := by decide +kernel
theorem dX7_isLeased_24 : decode cX7_isLeased 24 = .ok (.aload_n 0, 1) := by decide +kernel
theorem dX7_isLeased_25 : decode cX7_isLeased 25 = .ok (.getfield 44, 3) := by decide +kernel
theorem dX7_isLeased_28 : decode cX7_isLeased 28 = .ok (.iload 4, 2) := by decide +kernel
theorem dX7_isLeased_30 : decode cX7_isLeased 30 = .ok (.iaload, 1) := by decide +kernel
theorem dX7_isLeased_31 : decode cX7_isLeased 31 = .ok (.iload_n 2, 1) := by decide +kernel
theorem dX7_isLeased_32 : decode cX7_isLeased 32 = .ok (.if_icmp .gt 8, 3) := by decide +kernel
theorem dX7_isLeased_35 : decode cX7_isLeased 35 = .ok (.iload 4, 2) := by decide +kernel
theorem dX7_isLeased_37 : decode cX7_isLeased 37 = .ok (.goto 4, 3) := by decide +kernel
theorem dX7_isLeased_40 : decode cX7_isLeased 40 = .ok (.iload_n 3, 1) := by decide +kernel
theorem dX7_isLeased_41 : decode cX7_isLeased 41 = .ok (.istore_n 3, 1) := by decide +kernel
theorem dX7_isLeased_42 : decode cX7_isLeased 42 = .ok (.iinc 4 1, 3) := by decide +kernel
theorem dX7_isLeased_45 : decode cX7_isLeased 45 = .ok (.goto (-37), 3) := by decide +kernel
theorem dX7_isLeased_48 : decode cX7_isLeased 48 = .ok (.iload_n 3, 1) := by decide +kernel
theorem dX7_isLeased_49 : decode cX7_isLeased 49 = .ok (.iconst (-1), 1) := by decide +kernel
theorem dX7_isLeased_50 : decode cX7_isLeased 50 = .ok (.if_icmp .eq 35, 3) := by decide +kernel
theorem dX7_isLeased_53 : decode cX7_isLeased 53 = .ok (.iload_n 2, 1) := by decide +kernel
theorem dX7_isLeased_54 : decode cX7_isLeased 54 = .ok (.aload_n 0, 1) := by decide +kernel
theorem dX7_isLeased_55 : decode cX7_isLeased 55 = .ok (.getfield 47, 3) := by decide +kernel
theorem dX7_isLeased_58 : decode cX7_isLeased 58 = .ok (.iload_n 3, 1) := by decide +kernel
theorem dX7_isLeased_59 : decode cX7_isLeased 59 = .ok (.iaload, 1) := by decide +kernel
theorem dX7_isLeased_60 : decode cX7_isLeased 60 = .ok (.if_icmp .gt 25, 3) := by decide +kernel
theorem dX7_isLeased_63 : decode cX7_isLeased 63 = .ok (.aload_n 0, 1) := by decide +kernel
theorem dX7_isLeased_64 : decode cX7_isLeased 64 = .ok (.iload_n 1, 1) := by decide +kernel
theorem dX7_isLeased_65 : decode cX7_isLeased 65 = .ok (.invokevirtual 134, 3) := by decide +kernel
theorem dX7_isLeased_68 : decode cX7_isLeased 68 = .ok (.ifCond .eq 13, 3) := by decide +kernel
theorem dX7_isLeased_71 : decode cX7_isLeased 71 = .ok (.iload_n 2, 1) := by decide +kernel
theorem dX7_isLeased_72 : decode cX7_isLeased 72 = .ok (.aload_n 0, 1) := by decide +kernel
theorem dX7_isLeased_73 : decode cX7_isLeased 73 = .ok (.getfield 26, 3) := by decide +kernel
theorem dX7_isLeased_76 : decode cX7_isLeased 76 = .ok (.iload_n 1, 1) := by decide +kernel
theorem dX7_isLeased_77 : decode cX7_isLeased 77 = .ok (.iaload, 1) := by decide +kernel
theorem dX7_isLeased_78 : decode cX7_isLeased 78 = .ok (.if_icmp .gt 7, 3) := by decide +kernel
theorem dX7_isLeased_81 : decode cX7_isLeased 81 = .ok (.iconst 1, 1) := by decide +kernel
theorem dX7_isLeased_82 : decode cX7_isLeased 82 = .ok (.goto 4, 3) := by decide +kernel
theorem dX7_isLeased_85 : decode cX7_isLeased 85 = .ok (.iconst 0, 1) := by decide +kernel
theorem dX7_isLeased_86 : decode cX7_isLeased 86 = .ok (.ireturn, 1) := by decide +kernel
theorem dX7_lease_0 : decode cX7_lease 0 = .ok (.aload_n 0, 1) := by decide +kernel
theorem dX7_lease_1 : decode cX7_lease 1 = .ok (.iload_n 1, 1) := by decide +kernel
theorem dX7_lease_2 : decode cX7_lease 2 = .ok (.invokevirtual 131, 3) := by decide +kernel
theorem dX7_lease_5 : decode cX7_lease 5 = .ok (.istore 4, 2) := by decide +kernel
theorem dX7_lease_7 : decode cX7_lease 7 = .ok (.aload_n 0, 1) := by decide +kernel
theorem dX7_lease_8 : decode cX7_lease 8 = .ok (.iload 4, 2) := by decide +kernel
theorem dX7_lease_10 : decode cX7_lease 10 = .ok (.ifCond .ne 7, 3) := by decide +kernel
theorem dX7_lease_13 : decode cX7_lease 13 = .ok (.iconst 1, 1) := by decide +kernel
theorem dX7_lease_14 : decode cX7_lease 14 = .ok (.goto 59, 3) := by decide +kernel
theorem dX7_lease_17 : decode cX7_lease 17 = .ok (.iload_n 2, 1) := by decide +kernel
theorem dX7_lease_18 : decode cX7_lease 18 = .ok (.invokestatic 122, 3) := by decide +kernel
theorem dX7_lease_21 : decode cX7_lease 21 = .ok (.ifCond .eq 14, 3) := by decide +kernel
theorem dX7_lease_24 : decode cX7_lease 24 = .ok (.iload_n 3, 1) := by decide +kernel
theorem dX7_lease_25 : decode cX7_lease 25 = .ok (.iload_n 2, 1) := by decide +kernel
theorem dX7_lease_26 : decode cX7_lease 26 = .ok (.sipush 9999, 3) := by decide +kernel
theorem dX7_lease_29 : decode cX7_lease 29 = .ok (.invokestatic 111, 3) := by decide +kernel
theorem dX7_lease_32 : decode cX7_lease 32 = .ok (.ifCond .ne 7, 3) := by decide +kernel
theorem dX7_lease_35 : decode cX7_lease 35 = .ok (.iconst 2, 1) := by decide +kernel
theorem dX7_lease_36 : decode cX7_lease 36 = .ok (.goto 37, 3) := by decide +kernel
theorem dX7_lease_39 : decode cX7_lease 39 = .ok (.aload_n 0, 1) := by decide +kernel
theorem dX7_lease_40 : decode cX7_lease 40 = .ok (.getfield 16, 3) := by decide +kernel
theorem dX7_lease_43 : decode cX7_lease 43 = .ok (.iload_n 1, 1) := by decide +kernel
theorem dX7_lease_44 : decode cX7_lease 44 = .ok (.iaload, 1) := by decide +kernel
theorem dX7_lease_45 : decode cX7_lease 45 = .ok (.iconst (-1), 1) := by decide +kernel
theorem dX7_lease_46 : decode cX7_lease 46 = .ok (.if_icmp .eq 22, 3) := by decide +kernel
theorem dX7_lease_49 : decode cX7_lease 49 = .ok (.aload_n 0, 1) := by decide +kernel
theorem dX7_lease_50 : decode cX7_lease 50 = .ok (.iload_n 1, 1) := by decide +kernel
theorem dX7_lease_51 : decode cX7_lease 51 = .ok (.invokevirtual 134, 3) := by decide +kernel
theorem dX7_lease_54 : decode cX7_lease 54 = .ok (.ifCond .ne 14, 3) := by decide +kernel
theorem dX7_lease_57 : decode cX7_lease 57 = .ok (.aload_n 0, 1) := by decide +kernel
theorem dX7_lease_58 : decode cX7_lease 58 = .ok (.getfield 50, 3) := by decide +kernel
theorem dX7_lease_61 : decode cX7_lease 61 = .ok (.iload_n 1, 1) := by decide +kernel
theorem dX7_lease_62 : decode cX7_lease 62 = .ok (.iaload, 1) := by decide +kernel
theorem dX7_lease_63 : decode cX7_lease 63 = .ok (.bipush 10, 2) := by decide +kernel
theorem dX7_lease_65 : decode cX7_lease 65 = .ok (.if_icmp .ne 7, 3) := by decide +kernel
theorem dX7_lease_68 : decode cX7_lease 68 = .ok (.iconst 3, 1) := by decide +kernel
theorem dX7_lease_69 : decode cX7_lease 69 = .ok (.goto 4, 3) := by decide +kernel
theorem dX7_lease_72 : decode cX7_lease 72 = .ok (.iconst 0, 1) := by decide +kernel
theorem dX7_lease_73 : decode cX7_lease 73 = .ok (.invokevirtual 125, 3) := by decide +kernel
theorem dX7_lease_76 : decode cX7_lease 76 = .ok (.ifCond .eq 47, 3) := by decide +kernel
theorem dX7_lease_79 : decode cX7_lease 79 = .ok (.aload_n 0, 1) := by decide +kernel
theorem dX7_lease_80 : decode cX7_lease 80 = .ok (.getfield 44, 3) := by decide +kernel
theorem dX7_lease_83 : decode cX7_lease 83 = .ok (.bipush 10, 2) := by decide +kernel
theorem dX7_lease_85 : decode cX7_lease 85 = .ok (.iload_n 1, 1) := by decide +kernel
theorem dX7_lease_86 : decode cX7_lease 86 = .ok (.imul, 1) := by decide +kernel
theorem dX7_lease_87 : decode cX7_lease 87 = .ok (.aload_n 0, 1) := by decide +kernel
theorem dX7_lease_88 : decode cX7_lease 88 = .ok (.getfield 50, 3) := by decide +kernel
theorem dX7_lease_91 : decode cX7_lease 91 = .ok (.iload_n 1, 1) := by decide +kernel
theorem dX7_lease_92 : decode cX7_lease 92 = .ok (.iaload, 1) := by decide +kernel
theorem dX7_lease_93 : decode cX7_lease 93 = .ok (.iadd, 1) := by decide +kernel
theorem dX7_lease_94 : decode cX7_lease 94 = .ok (.iload_n 2, 1) := by decide +kernel
theorem dX7_lease_95 : decode cX7_lease 95 = .ok (.iastore, 1) := by decide +kernel
theorem dX7_lease_96 : decode cX7_lease 96 = .ok (.aload_n 0, 1) := by decide +kernel
theorem dX7_lease_97 : decode cX7_lease 97 = .ok (.getfield 47, 3) := by decide +kernel
theorem dX7_lease_100 : decode cX7_lease 100 = .ok (.bipush 10, 2) := by decide +kernel
theorem dX7_lease_102 : decode cX7_lease 102 = .ok (.iload_n 1, 1) := by decide +kernel
theorem dX7_lease_103 : decode cX7_lease 103 = .ok (.imul, 1) := by decide +kernel
theorem dX7_lease_104 : decode cX7_lease 104 = .ok (.aload_n 0, 1) := by decide +kernel
theorem dX7_lease_105 : decode cX7_lease 105 = .ok (.getfield 50, 3) := by decide +kernel
theorem dX7_lease_108 : decode cX7_lease 108 = .ok (.iload_n 1, 1) := by decide +kernel
theorem dX7_lease_109 : decode cX7_lease 109 = .ok (.iaload, 1) := by decide +kernel
theorem dX7_lease_110 : decode cX7_lease 110 = .ok (.iadd, 1) := by decide +kernel
theorem dX7_lease_111 : decode cX7_lease 111 = .ok (.iload_n 3, 1) := by decide +kernel
theorem dX7_lease_112 : decode cX7_lease 112 = .ok (.iastore, 1) := by decide +kernel
theorem dX7_lease_113 : decode cX7_lease 113 = .ok (.aload_n 0, 1) := by decide +kernel
theorem dX7_lease_114 : decode cX7_lease 114 = .ok (.getfield 50, 3) := by decide +kernel
theorem dX7_lease_117 : decode cX7_lease 117 = .ok (.iload_n 1, 1) := by decide +kernel
theorem dX7_lease_118 : decode cX7_lease 118 = .ok (.dup2, 1) := by decide +kernel
theorem dX7_lease_119 : decode cX7_lease 119 = .ok (.iaload, 1) := by decide +kernel
theorem dX7_lease_120 : decode cX7_lease 120 = .ok (.iconst 1, 1) := by decide +kernel
theorem dX7_lease_121 : decode cX7_lease 121 = .ok (.iadd, 1) := by decide +kernel
theorem dX7_lease_122 : decode cX7_lease 122 = .ok (.iastore, 1) := by decide +kernel
theorem dX7_lease_123 : decode cX7_lease 123 = .ok (.return_, 1) := by decide +kernel
theorem dX7_free_0 : decode cX7_free 0 = .ok (.aload_n 0, 1) := by decide +kernel
theorem dX7_free_1 : decode cX7_free 1 = .ok (.iload_n 1, 1) := by decide +kernel
theorem dX7_free_2 : decode cX7_free 2 = .ok (.iconst 0, 1) := by decide +kernel
theorem dX7_free_3 : decode cX7_free 3 = .ok (.bipush 30, 2) := by decide +kernel
theorem dX7_free_5 : decode cX7_free 5 = .ok (.invokestatic 111, 3) := by decide +kernel
theorem dX7_free_8 : decode cX7_free 8 = .ok (.ifCond .eq 7, 3) := by decide +kernel
theorem dX7_free_11 : decode cX7_free 11 = .ok (.iconst 0, 1) := by decide +kernel
theorem dX7_free_12 : decode cX7_free 12 = .ok (.goto 4, 3) := by decide +kernel
theorem dX7_free_15 : decode cX7_free 15 = .ok (.iconst 1, 1) := by decide +kernel
theorem dX7_free_16 : decode cX7_free 16 = .ok (.invokevirtual 125, 3) := by decide +kernel
theorem dX7_free_19 : decode cX7_free 19 = .ok (.ifCond .ne 5, 3) := by decide +kernel
theorem dX7_free_22 : decode cX7_free 22 = .ok (.iconst 0, 1) := by decide +kernel
theorem dX7_free_23 : decode cX7_free 23 = .ok (.ireturn, 1) := by decide +kernel
theorem dX7_free_24 : decode cX7_free 24 = .ok (.aload_n 0, 1) := by decide +kernel
theorem dX7_free_25 : decode cX7_free 25 = .ok (.getfield 53, 3) := by decide +kernel
theorem dX7_free_28 : decode cX7_free 28 = .ok (.istore_n 2, 1) := by decide +kernel
theorem dX7_free_29 : decode cX7_free 29 = .ok (.aload_n 0, 1) := by decide +kernel
theorem dX7_free_30 : decode cX7_free 30 = .ok (.iload_n 1, 1) := by decide +kernel
theorem dX7_free_31 : decode cX7_free 31 = .ok (.putfield 53, 3) := by decide +kernel
theorem dX7_free_34 : decode cX7_free 34 = .ok (.iload_n 2, 1) := by decide +kernel
theorem dX7_free_35 : decode cX7_free 35 = .ok (.ireturn, 1) := by decide +kernel
theorem dX7_isCustomers_0 : decode cX7_isCustomers 0 = .ok (.iload_n 2, 1) := by decide +kernel
theorem dX7_isCustomers_1 : decode cX7_isCustomers 1 = .ok (.aload_n 0, 1) := by decide +kernel
theorem dX7_isCustomers_2 : decode cX7_isCustomers 2 = .ok (.getfield 53, 3) := by decide +kernel
theorem dX7_isCustomers_5 : decode cX7_isCustomers 5 = .ok (.if_icmp .lt 7, 3) := by decide +kernel
theorem dX7_isCustomers_8 : decode cX7_isCustomers 8 = .ok (.iconst 1, 1) := by decide +kernel
theorem dX7_isCustomers_9 : decode cX7_isCustomers 9 = .ok (.goto 4, 3) := by decide +kernel
theorem dX7_isCustomers_12 : decode cX7_isCustomers 12 = .ok (.iconst 0, 1) := by decide +kernel
theorem dX7_isCustomers_13 : decode cX7_isCustomers 13 = .ok (.istore_n 3, 1) := by decide +kernel
theorem dX7_isCustomers_14 : decode cX7_isCustomers 14 = .ok (.iload_n 2, 1) := by decide +kernel
theorem dX7_isCustomers_15 : decode cX7_isCustomers 15 = .ok (.aload_n 0, 1) := by decide +kernel
theorem dX7_isCustomers_16 : decode cX7_isCustomers 16 = .ok (.getfield 53, 3) := by decide +kernel
theorem dX7_isCustomers_19 : decode cX7_isCustomers 19 = .ok (.isub, 1) := by decide +kernel
theorem dX7_isCustomers_20 : decode cX7_isCustomers 20 = .ok (.istore 4, 2) := by decide +kernel
theorem dX7_isCustomers_22 : decode cX7_isCustomers 22 = .ok (.iload 4, 2) := by decide +kernel
theorem dX7_isCustomers_24 : decode cX7_isCustomers 24 = .ok (.iload_n 2, 1) := by decide +kernel
theorem dX7_isCustomers_25 : decode cX7_isCustomers 25 = .ok (.if_icmp .gt 31, 3) := by decide +kernel
theorem dX7_isCustomers_28 : decode cX7_isCustomers 28 = .ok (.iload_n 3, 1) := by decide +kernel
theorem dX7_isCustomers_29 : decode cX7_isCustomers 29 = .ok (.ifCond .eq 27, 3) := by decide +kernel
theorem dX7_isCustomers_32 : decode cX7_isCustomers 32 = .ok (.aload_n 0, 1) := by decide +kernel
theorem dX7_isCustomers_33 : decode cX7_isCustomers 33 = .ok (.iload_n 1, 1) := by decide +kernel
theorem dX7_isCustomers_34 : decode cX7_isCustomers 34 = .ok (.iload 4, 2) := by decide +kernel
theorem dX7_isCustomers_36 : decode cX7_isCustomers 36 = .ok (.invokevirtual 158, 3) := by decide +kernel
theorem dX7_isCustomers_39 : decode cX7_isCustomers 39 = .ok (.bipush 11, 2) := by decide +kernel
theorem dX7_isCustomers_41 : decode cX7_isCustomers 41 = .ok (.if_icmp .ne 7, 3) := by decide +kernel
theorem dX7_isCustomers_44 : decode cX7_isCustomers 44 = .ok (.iconst 1, 1) := by decide +kernel
theorem dX7_isCustomers_45 : decode cX7_isCustomers 45 = .ok (.goto 4, 3) := by decide +kernel
theorem dX7_isCustomers_48 : decode cX7_isCustomers 48 = .ok (.iconst 0, 1) := by decide +kernel
theorem dX7_isCustomers_49 : decode cX7_isCustomers 49 = .ok (.istore_n 3, 1) := by decide +kernel
theorem dX7_isCustomers_50 : decode cX7_isCustomers 50 = .ok (.iinc 4 1, 3) := by decide +kernel
theorem dX7_isCustomers_53 : decode cX7_isCustomers 53 = .ok (.goto (-31), 3) := by decide +kernel
theorem dX7_isCustomers_56 : decode cX7_isCustomers 56 = .ok (.iload_n 3, 1) := by decide +kernel
theorem dX7_isCustomers_57 : decode cX7_isCustomers 57 = .ok (.ireturn, 1) := by decide +kernel
theorem dX7_pays_0 : decode cX7_pays 0 = .ok (.aload_n 0, 1) := by decide +kernel
theorem dX7_pays_1 : decode cX7_pays 1 = .ok (.iload_n 1, 1) := by decide +kernel
theorem dX7_pays_2 : decode cX7_pays 2 = .ok (.iload_n 2, 1) := by decide +kernel
theorem dX7_pays_3 : decode cX7_pays 3 = .ok (.invokevirtual 161, 3) := by decide +kernel
theorem dX7_pays_6 : decode cX7_pays 6 = .ok (.ifCond .eq 7, 3) := by decide +kernel
theorem dX7_pays_9 : decode cX7_pays 9 = .ok (.iconst 2, 1) := by decide +kernel
theorem dX7_pays_10 : decode cX7_pays 10 = .ok (.goto 27, 3) := by decide +kernel
theorem dX7_pays_13 : decode cX7_pays 13 = .ok (.aload_n 0, 1) := by decide +kernel
theorem dX7_pays_14 : decode cX7_pays 14 = .ok (.getfield 16, 3) := by decide +kernel
theorem dX7_pays_17 : decode cX7_pays 17 = .ok (.iload_n 1, 1) := by decide +kernel
theorem dX7_pays_18 : decode cX7_pays 18 = .ok (.iaload, 1) := by decide +kernel
theorem dX7_pays_19 : decode cX7_pays 19 = .ok (.iconst (-1), 1) := by decide +kernel
theorem dX7_pays_20 : decode cX7_pays 20 = .ok (.if_icmp .eq 12, 3) := by decide +kernel
theorem dX7_pays_23 : decode cX7_pays 23 = .ok (.aload_n 0, 1) := by decide +kernel
theorem dX7_pays_24 : decode cX7_pays 24 = .ok (.iload_n 1, 1) := by decide +kernel
theorem dX7_pays_25 : decode cX7_pays 25 = .ok (.iload_n 2, 1) := by decide +kernel
theorem dX7_pays_26 : decode cX7_pays 26 = .ok (.invokevirtual 165, 3) := by decide +kernel
theorem dX7_pays_29 : decode cX7_pays 29 = .ok (.ifCond .eq 7, 3) := by decide +kernel
theorem dX7_pays_32 : decode cX7_pays 32 = .ok (.iconst 0, 1) := by decide +kernel
theorem dX7_pays_33 : decode cX7_pays 33 = .ok (.goto 4, 3) := by decide +kernel
theorem dX7_pays_36 : decode cX7_pays 36 = .ok (.iconst 1, 1) := by decide +kernel
theorem dX7_pays_37 : decode cX7_pays 37 = .ok (.ireturn, 1) := by decide +kernel
theorem dX7_payer_0 : decode cX7_payer 0 = .ok (.aload_n 0, 1) := by decide +kernel
theorem dX7_payer_1 : decode cX7_payer 1 = .ok (.iload_n 1, 1) := by decide +kernel
theorem dX7_payer_2 : decode cX7_payer 2 = .ok (.invokevirtual 131, 3) := by decide +kernel
theorem dX7_payer_5 : decode cX7_payer 5 = .ok (.istore_n 3, 1) := by decide +kernel
theorem dX7_payer_6 : decode cX7_payer 6 = .ok (.aload_n 0, 1) := by decide +kernel
theorem dX7_payer_7 : decode cX7_payer 7 = .ok (.iload_n 3, 1) := by decide +kernel
theorem dX7_payer_8 : decode cX7_payer 8 = .ok (.ifCond .ne 7, 3) := by decide +kernel
theorem dX7_payer_11 : decode cX7_payer 11 = .ok (.iconst 1, 1) := by decide +kernel
theorem dX7_payer_12 : decode cX7_payer 12 = .ok (.goto 15, 3) := by decide +kernel
theorem dX7_payer_15 : decode cX7_payer 15 = .ok (.iload_n 2, 1) := by decide +kernel
theorem dX7_payer_16 : decode cX7_payer 16 = .ok (.invokestatic 122, 3) := by decide +kernel
theorem dX7_payer_19 : decode cX7_payer 19 = .ok (.ifCond .ne 7, 3) := by decide +kernel
theorem dX7_payer_22 : decode cX7_payer 22 = .ok (.iconst 2, 1) := by decide +kernel
theorem dX7_payer_23 : decode cX7_payer 23 = .ok (.goto 4, 3) := by decide +kernel
theorem dX7_payer_26 : decode cX7_payer 26 = .ok (.iconst 0, 1) := by decide +kernel
theorem dX7_payer_27 : decode cX7_payer 27 = .ok (.invokevirtual 125, 3) := by decide +kernel
theorem dX7_payer_30 : decode cX7_payer 30 = .ok (.ifCond .eq 12, 3) := by decide +kernel
theorem dX7_payer_33 : decode cX7_payer 33 = .ok (.aload_n 0, 1) := by decide +kernel
theorem dX7_payer_34 : decode cX7_payer 34 = .ok (.iload_n 1, 1) := by decide +kernel
theorem dX7_payer_35 : decode cX7_payer 35 = .ok (.iload_n 2, 1) := by decide +kernel
theorem dX7_payer_36 : decode cX7_payer 36 = .ok (.invokevirtual 168, 3) := by decide +kernel
theorem dX7_payer_39 : decode cX7_payer 39 = .ok (.goto 4, 3) := by decide +kernel
theorem dX7_payer_42 : decode cX7_payer 42 = .ok (.iconst 0, 1) := by decide +kernel
theorem dX7_payer_43 : decode cX7_payer 43 = .ok (.ireturn, 1) := by decide +kernel
theorem dX7_quota_0 : decode cX7_quota 0 = .ok (.iload_n 1, 1) := by decide +kernel
theorem dX7_quota_1 : decode cX7_quota 1 = .ok (.iconst 0, 1) := by decide +kernel
theorem dX7_quota_2 : decode cX7_quota 2 = .ok (.iconst 2, 1) := by decide +kernel
theorem dX7_quota_3 : decode cX7_quota 3 = .ok (.invokestatic 111, 3) := by decide +kernel
theorem dX7_quota_6 : decode cX7_quota 6 = .ok (.ifCond .eq 14, 3) := by decide +kernel
theorem dX7_quota_9 : decode cX7_quota 9 = .ok (.iload_n 2, 1) := by decide +kernel
theorem dX7_quota_10 : decode cX7_quota 10 = .ok (.invokestatic 118, 3) := by decide +kernel
theorem dX7_quota_13 : decode cX7_quota 13 = .ok (.ifCond .eq 7, 3) := by decide +kernel
theorem dX7_quota_16 : decode cX7_quota 16 = .ok (.iconst 1, 1) := by decide +kernel
theorem dX7_quota_17 : decode cX7_quota 17 = .ok (.goto 4, 3) := by decide +kernel
theorem dX7_quota_20 : decode cX7_quota 20 = .ok (.iconst 0, 1) := by decide +kernel
theorem dX7_quota_21 : decode cX7_quota 21 = .ok (.istore 4, 2) := by decide +kernel
theorem dX7_quota_23 : decode cX7_quota 23 = .ok (.aload_n 0, 1) := by decide +kernel
theorem dX7_quota_24 : decode cX7_quota 24 = .ok (.iload 4, 2) := by decide +kernel
theorem dX7_quota_26 : decode cX7_quota 26 = .ok (.ifCond .ne 7, 3) := by decide +kernel
theorem dX7_quota_29 : decode cX7_quota 29 = .ok (.iconst 1, 1) := by decide +kernel
theorem dX7_quota_30 : decode cX7_quota 30 = .ok (.goto 18, 3) := by decide +kernel
theorem dX7_quota_33 : decode cX7_quota 33 = .ok (.iload_n 3, 1) := by decide +kernel
theorem dX7_quota_34 : decode cX7_quota 34 = .ok (.iconst 0, 1) := by decide +kernel
theorem dX7_quota_35 : decode cX7_quota 35 = .ok (.bipush 9, 2) := by decide +kernel
theorem dX7_quota_37 : decode cX7_quota 37 = .ok (.invokestatic 111, 3) := by decide +kernel
theorem dX7_quota_40 : decode cX7_quota 40 = .ok (.ifCond .ne 7, 3) := by decide +kernel
theorem dX7_quota_43 : decode cX7_quota 43 = .ok (.iconst 2, 1) := by decide +kernel
theorem dX7_quota_44 : decode cX7_quota 44 = .ok (.goto 4, 3) := by decide +kernel
theorem dX7_quota_47 : decode cX7_quota 47 = .ok (.iconst 0, 1) := by decide +kernel
theorem dX7_quota_48 : decode cX7_quota 48 = .ok (.invokevirtual 125, 3) := by decide +kernel
theorem dX7_quota_51 : decode cX7_quota 51 = .ok (.ifCond .ne 5, 3) := by decide +kernel
theorem dX7_quota_54 : decode cX7_quota 54 = .ok (.iconst 0, 1) := by decide +kernel
theorem dX7_quota_55 : decode cX7_quota 55 = .ok (.ireturn, 1) := by decide +kernel
theorem dX7_quota_56 : decode cX7_quota 56 = .ok (.aload_n 0, 1) := by decide +kernel
theorem dX7_quota_57 : decode cX7_quota 57 = .ok (.getfield 57, 3) := by decide +kernel
theorem dX7_quota_60 : decode cX7_quota 60 = .ok (.bipush 6, 2) := by decide +kernel
theorem dX7_quota_62 : decode cX7_quota 62 = .ok (.iload_n 1, 1) := by decide +kernel
theorem dX7_quota_63 : decode cX7_quota 63 = .ok (.imul, 1) := by decide +kernel
theorem dX7_quota_64 : decode cX7_quota 64 = .ok (.iload_n 2, 1) := by decide +kernel
theorem dX7_quota_65 : decode cX7_quota 65 = .ok (.iadd, 1) := by decide +kernel
theorem dX7_quota_66 : decode cX7_quota 66 = .ok (.iaload, 1) := by decide +kernel
theorem dX7_quota_67 : decode cX7_quota 67 = .ok (.istore 5, 2) := by decide +kernel
theorem dX7_quota_69 : decode cX7_quota 69 = .ok (.aload_n 0, 1) := by decide +kernel
theorem dX7_quota_70 : decode cX7_quota 70 = .ok (.getfield 57, 3) := by decide +kernel
theorem dX7_quota_73 : decode cX7_quota 73 = .ok (.bipush 6, 2) := by decide +kernel
theorem dX7_quota_75 : decode cX7_quota 75 = .ok (.iload_n 1, 1) := by decide +kernel
theorem dX7_quota_76 : decode cX7_quota 76 = .ok (.imul, 1) := by decide +kernel
theorem dX7_quota_77 : decode cX7_quota 77 = .ok (.iload_n 2, 1) := by decide +kernel
theorem dX7_quota_78 : decode cX7_quota 78 = .ok (.iadd, 1) := by decide +kernel
theorem dX7_quota_79 : decode cX7_quota 79 = .ok (.iload_n 3, 1) := by decide +kernel
theorem dX7_quota_80 : decode cX7_quota 80 = .ok (.iastore, 1) := by decide +kernel
theorem dX7_quota_81 : decode cX7_quota 81 = .ok (.iload 5, 2) := by decide +kernel
theorem dX7_quota_83 : decode cX7_quota 83 = .ok (.ireturn, 1) := by decide +kernel
theorem dX7_more_0 : decode cX7_more 0 = .ok (.aload_n 0, 1) := by decide +kernel
theorem dX7_more_1 : decode cX7_more 1 = .ok (.getfield 57, 3) := by decide +kernel
theorem dX7_more_4 : decode cX7_more 4 = .ok (.iload_n 1, 1) := by decide +kernel
theorem dX7_more_5 : decode cX7_more 5 = .ok (.iaload, 1) := by decide +kernel
theorem dX7_more_6 : decode cX7_more 6 = .ok (.aload_n 0, 1) := by decide +kernel
theorem dX7_more_7 : decode cX7_more 7 = .ok (.getfield 63, 3) := by decide +kernel
theorem dX7_more_10 : decode cX7_more 10 = .ok (.iload_n 1, 1) := by decide +kernel
theorem dX7_more_11 : decode cX7_more 11 = .ok (.iaload, 1) := by decide +kernel
theorem dX7_more_12 : decode cX7_more 12 = .ok (.aload_n 0, 1) := by decide +kernel
theorem dX7_more_13 : decode cX7_more 13 = .ok (.getfield 152, 3) := by decide +kernel
theorem dX7_more_16 : decode cX7_more 16 = .ok (.bipush 30, 2) := by decide +kernel
theorem dX7_more_18 : decode cX7_more 18 = .ok (.idiv, 1) := by decide +kernel
theorem dX7_more_19 : decode cX7_more 19 = .ok (.if_icmp .ne 12, 3) := by decide +kernel
theorem dX7_more_22 : decode cX7_more 22 = .ok (.aload_n 0, 1) := by decide +kernel
theorem dX7_more_23 : decode cX7_more 23 = .ok (.getfield 60, 3) := by decide +kernel
theorem dX7_more_26 : decode cX7_more 26 = .ok (.iload_n 1, 1) := by decide +kernel
theorem dX7_more_27 : decode cX7_more 27 = .ok (.iaload, 1) := by decide +kernel
theorem dX7_more_28 : decode cX7_more 28 = .ok (.goto 4, 3) := by decide +kernel
theorem dX7_more_31 : decode cX7_more 31 = .ok (.iconst 0, 1) := by decide +kernel
theorem dX7_more_32 : decode cX7_more 32 = .ok (.isub, 1) := by decide +kernel
theorem dX7_more_33 : decode cX7_more 33 = .ok (.ireturn, 1) := by decide +kernel
theorem dX7_canHand_0 : decode cX7_canHand 0 = .ok (.aload_n 0, 1) := by decide +kernel
theorem dX7_canHand_1 : decode cX7_canHand 1 = .ok (.iload_n 1, 1) := by decide +kernel
theorem dX7_canHand_2 : decode cX7_canHand 2 = .ok (.aload_n 0, 1) := by decide +kernel
theorem dX7_canHand_3 : decode cX7_canHand 3 = .ok (.getfield 152, 3) := by decide +kernel
theorem dX7_canHand_6 : decode cX7_canHand 6 = .ok (.invokevirtual 158, 3) := by decide +kernel
theorem dX7_canHand_9 : decode cX7_canHand 9 = .ok (.istore_n 2, 1) := by decide +kernel
theorem dX7_canHand_10 : decode cX7_canHand 10 = .ok (.aload_n 0, 1) := by decide +kernel
theorem dX7_canHand_11 : decode cX7_canHand 11 = .ok (.iload_n 1, 1) := by decide +kernel
theorem dX7_canHand_12 : decode cX7_canHand 12 = .ok (.invokevirtual 134, 3) := by decide +kernel
theorem dX7_canHand_15 : decode cX7_canHand 15 = .ok (.ifCond .ne 54, 3) := by decide +kernel
theorem dX7_canHand_18 : decode cX7_canHand 18 = .ok (.aload_n 0, 1) := by decide +kernel
theorem dX7_canHand_19 : decode cX7_canHand 19 = .ok (.iload_n 1, 1) := by decide +kernel
theorem dX7_canHand_20 : decode cX7_canHand 20 = .ok (.aload_n 0, 1) := by decide +kernel
theorem dX7_canHand_21 : decode cX7_canHand 21 = .ok (.getfield 152, 3) := by decide +kernel
theorem dX7_canHand_24 : decode cX7_canHand 24 = .ok (.invokevirtual 165, 3) := by decide +kernel
theorem dX7_canHand_27 : decode cX7_canHand 27 = .ok (.ifCond .eq 42, 3) := by decide +kernel
theorem dX7_canHand_30 : decode cX7_canHand 30 = .ok (.iload_n 2, 1) := by decide +kernel
theorem dX7_canHand_31 : decode cX7_canHand 31 = .ok (.invokestatic 118, 3) := by decide +kernel
theorem dX7_canHand_34 : decode cX7_canHand 34 = .ok (.ifCond .eq 35, 3) := by decide +kernel
theorem dX7_canHand_37 : decode cX7_canHand 37 = .ok (.aload_n 0, 1) := by decide +kernel
theorem dX7_canHand_38 : decode cX7_canHand 38 = .ok (.getfield 29, 3) := by decide +kernel
theorem dX7_canHand_41 : decode cX7_canHand 41 = .ok (.iload_n 1, 1) := by decide +kernel
theorem dX7_canHand_42 : decode cX7_canHand 42 = .ok (.iaload, 1) := by decide +kernel
theorem dX7_canHand_43 : decode cX7_canHand 43 = .ok (.iconst (-1), 1) := by decide +kernel
theorem dX7_canHand_44 : decode cX7_canHand 44 = .ok (.if_icmp .ne 25, 3) := by decide +kernel
theorem dX7_canHand_47 : decode cX7_canHand 47 = .ok (.aload_n 0, 1) := by decide +kernel
theorem dX7_canHand_48 : decode cX7_canHand 48 = .ok (.bipush 6, 2) := by decide +kernel
theorem dX7_canHand_50 : decode cX7_canHand 50 = .ok (.aload_n 0, 1) := by decide +kernel
theorem dX7_canHand_51 : decode cX7_canHand 51 = .ok (.getfield 16, 3) := by decide +kernel
theorem dX7_canHand_54 : decode cX7_canHand 54 = .ok (.iload_n 1, 1) := by decide +kernel
theorem dX7_canHand_55 : decode cX7_canHand 55 = .ok (.iaload, 1) := by decide +kernel
theorem dX7_canHand_56 : decode cX7_canHand 56 = .ok (.imul, 1) := by decide +kernel
theorem dX7_canHand_57 : decode cX7_canHand 57 = .ok (.iload_n 2, 1) := by decide +kernel
theorem dX7_canHand_58 : decode cX7_canHand 58 = .ok (.iadd, 1) := by decide +kernel
theorem dX7_canHand_59 : decode cX7_canHand 59 = .ok (.invokevirtual 171, 3) := by decide +kernel
theorem dX7_canHand_62 : decode cX7_canHand 62 = .ok (.ifCond .le 7, 3) := by decide +kernel
theorem dX7_canHand_65 : decode cX7_canHand 65 = .ok (.iconst 1, 1) := by decide +kernel
theorem dX7_canHand_66 : decode cX7_canHand 66 = .ok (.goto 4, 3) := by decide +kernel
theorem dX7_canHand_69 : decode cX7_canHand 69 = .ok (.iconst 0, 1) := by decide +kernel
theorem dX7_canHand_70 : decode cX7_canHand 70 = .ok (.ireturn, 1) := by decide +kernel
theorem dX7_hands_0 : decode cX7_hands 0 = .ok (.bipush 6, 2) := by decide +kernel
theorem dX7_hands_2 : decode cX7_hands 2 = .ok (.aload_n 0, 1) := by decide +kernel
theorem dX7_hands_3 : decode cX7_hands 3 = .ok (.getfield 16, 3) := by decide +kernel
theorem dX7_hands_6 : decode cX7_hands 6 = .ok (.iload_n 1, 1) := by decide +kernel
theorem dX7_hands_7 : decode cX7_hands 7 = .ok (.iaload, 1) := by decide +kernel
theorem dX7_hands_8 : decode cX7_hands 8 = .ok (.imul, 1) := by decide +kernel
theorem dX7_hands_9 : decode cX7_hands 9 = .ok (.aload_n 0, 1) := by decide +kernel
theorem dX7_hands_10 : decode cX7_hands 10 = .ok (.iload_n 1, 1) := by decide +kernel
theorem dX7_hands_11 : decode cX7_hands 11 = .ok (.aload_n 0, 1) := by decide +kernel
theorem dX7_hands_12 : decode cX7_hands 12 = .ok (.getfield 152, 3) := by decide +kernel
theorem dX7_hands_15 : decode cX7_hands 15 = .ok (.invokevirtual 158, 3) := by decide +kernel
theorem dX7_hands_18 : decode cX7_hands 18 = .ok (.iadd, 1) := by decide +kernel
theorem dX7_hands_19 : decode cX7_hands 19 = .ok (.istore_n 2, 1) := by decide +kernel
theorem dX7_hands_20 : decode cX7_hands 20 = .ok (.aload_n 0, 1) := by decide +kernel
theorem dX7_hands_21 : decode cX7_hands 21 = .ok (.getfield 60, 3) := by decide +kernel
theorem dX7_hands_24 : decode cX7_hands 24 = .ok (.iload_n 2, 1) := by decide +kernel
theorem dX7_hands_25 : decode cX7_hands 25 = .ok (.aload_n 0, 1) := by decide +kernel
theorem dX7_hands_26 : decode cX7_hands 26 = .ok (.getfield 63, 3) := by decide +kernel
theorem dX7_hands_29 : decode cX7_hands 29 = .ok (.iload_n 2, 1) := by decide +kernel
theorem dX7_hands_30 : decode cX7_hands 30 = .ok (.iaload, 1) := by decide +kernel
theorem dX7_hands_31 : decode cX7_hands 31 = .ok (.aload_n 0, 1) := by decide +kernel
theorem dX7_hands_32 : decode cX7_hands 32 = .ok (.getfield 152, 3) := by decide +kernel
theorem dX7_hands_35 : decode cX7_hands 35 = .ok (.bipush 30, 2) := by decide +kernel
theorem dX7_hands_37 : decode cX7_hands 37 = .ok (.idiv, 1) := by decide +kernel
theorem dX7_hands_38 : decode cX7_hands 38 = .ok (.if_icmp .ne 14, 3) := by decide +kernel
theorem dX7_hands_41 : decode cX7_hands 41 = .ok (.aload_n 0, 1) := by decide +kernel
theorem dX7_hands_42 : decode cX7_hands 42 = .ok (.getfield 60, 3) := by decide +kernel
theorem dX7_hands_45 : decode cX7_hands 45 = .ok (.iload_n 2, 1) := by decide +kernel
theorem dX7_hands_46 : decode cX7_hands 46 = .ok (.iaload, 1) := by decide +kernel
theorem dX7_hands_47 : decode cX7_hands 47 = .ok (.iconst 1, 1) := by decide +kernel
theorem dX7_hands_48 : decode cX7_hands 48 = .ok (.iadd, 1) := by decide +kernel
theorem dX7_hands_49 : decode cX7_hands 49 = .ok (.goto 4, 3) := by decide +kernel
theorem dX7_hands_52 : decode cX7_hands 52 = .ok (.iconst 1, 1) := by decide +kernel
theorem dX7_hands_53 : decode cX7_hands 53 = .ok (.iastore, 1) := by decide +kernel
theorem dX7_hands_54 : decode cX7_hands 54 = .ok (.aload_n 0, 1) := by decide +kernel
theorem dX7_hands_55 : decode cX7_hands 55 = .ok (.getfield 63, 3) := by decide +kernel
theorem dX7_hands_58 : decode cX7_hands 58 = .ok (.iload_n 2, 1) := by decide +kernel
theorem dX7_hands_59 : decode cX7_hands 59 = .ok (.aload_n 0, 1) := by decide +kernel
theorem dX7_hands_60 : decode cX7_hands 60 = .ok (.getfield 152, 3) := by decide +kernel
theorem dX7_hands_63 : decode cX7_hands 63 = .ok (.bipush 30, 2) := by decide +kernel
theorem dX7_hands_65 : decode cX7_hands 65 = .ok (.idiv, 1) := by decide +kernel
theorem dX7_hands_66 : decode cX7_hands 66 = .ok (.iastore, 1) := by decide +kernel
theorem dX7_hands_67 : decode cX7_hands 67 = .ok (.aload_n 0, 1) := by decide +kernel
theorem dX7_hands_68 : decode cX7_hands 68 = .ok (.getfield 26, 3) := by decide +kernel
theorem dX7_hands_71 : decode cX7_hands 71 = .ok (.iload_n 1, 1) := by decide +kernel
theorem dX7_hands_72 : decode cX7_hands 72 = .ok (.aload_n 0, 1) := by decide +kernel
theorem dX7_hands_73 : decode cX7_hands 73 = .ok (.getfield 152, 3) := by decide +kernel
theorem dX7_hands_76 : decode cX7_hands 76 = .ok (.iastore, 1) := by decide +kernel
theorem dX7_hands_77 : decode cX7_hands 77 = .ok (.aload_n 0, 1) := by decide +kernel
theorem dX7_hands_78 : decode cX7_hands 78 = .ok (.iload_n 2, 1) := by decide +kernel
theorem dX7_hands_79 : decode cX7_hands 79 = .ok (.invokevirtual 171, 3) := by decide +kernel
theorem dX7_hands_82 : decode cX7_hands 82 = .ok (.ireturn, 1) := by decide +kernel
theorem dX7_handIn_0 : decode cX7_handIn 0 = .ok (.aload_n 0, 1) := by decide +kernel
theorem dX7_handIn_1 : decode cX7_handIn 1 = .ok (.iload_n 1, 1) := by decide +kernel
theorem dX7_handIn_2 : decode cX7_handIn 2 = .ok (.invokevirtual 131, 3) := by decide +kernel
theorem dX7_handIn_5 : decode cX7_handIn 5 = .ok (.istore_n 2, 1) := by decide +kernel
theorem dX7_handIn_6 : decode cX7_handIn 6 = .ok (.aload_n 0, 1) := by decide +kernel
theorem dX7_handIn_7 : decode cX7_handIn 7 = .ok (.iload_n 2, 1) := by decide +kernel
theorem dX7_handIn_8 : decode cX7_handIn 8 = .ok (.ifCond .ne 7, 3) := by decide +kernel
theorem dX7_handIn_11 : decode cX7_handIn 11 = .ok (.iconst 1, 1) := by decide +kernel
theorem dX7_handIn_12 : decode cX7_handIn 12 = .ok (.goto 16, 3) := by decide +kernel
theorem dX7_handIn_15 : decode cX7_handIn 15 = .ok (.aload_n 0, 1) := by decide +kernel
theorem dX7_handIn_16 : decode cX7_handIn 16 = .ok (.iload_n 1, 1) := by decide +kernel
theorem dX7_handIn_17 : decode cX7_handIn 17 = .ok (.invokevirtual 174, 3) := by decide +kernel
theorem dX7_handIn_20 : decode cX7_handIn 20 = .ok (.ifCond .ne 7, 3) := by decide +kernel
theorem dX7_handIn_23 : decode cX7_handIn 23 = .ok (.iconst 2, 1) := by decide +kernel
theorem dX7_handIn_24 : decode cX7_handIn 24 = .ok (.goto 4, 3) := by decide +kernel
theorem dX7_handIn_27 : decode cX7_handIn 27 = .ok (.iconst 0, 1) := by decide +kernel
theorem dX7_handIn_28 : decode cX7_handIn 28 = .ok (.invokevirtual 125, 3) := by decide +kernel
theorem dX7_handIn_31 : decode cX7_handIn 31 = .ok (.ifCond .eq 11, 3) := by decide +kernel
theorem dX7_handIn_34 : decode cX7_handIn 34 = .ok (.aload_n 0, 1) := by decide +kernel
theorem dX7_handIn_35 : decode cX7_handIn 35 = .ok (.iload_n 1, 1) := by decide +kernel
theorem dX7_handIn_36 : decode cX7_handIn 36 = .ok (.invokevirtual 177, 3) := by decide +kernel
theorem dX7_handIn_39 : decode cX7_handIn 39 = .ok (.goto 4, 3) := by decide +kernel
theorem dX7_handIn_42 : decode cX7_handIn 42 = .ok (.iconst 0, 1) := by decide +kernel
theorem dX7_handIn_43 : decode cX7_handIn 43 = .ok (.ireturn, 1) := by decide +kernel
theorem dX7_mending_0 : decode cX7_mending 0 = .ok (.iconst 0, 1) := by decide +kernel
theorem dX7_mending_1 : decode cX7_mending 1 = .ok (.istore_n 2, 1) := by decide +kernel
theorem dX7_mending_2 : decode cX7_mending 2 = .ok (.bipush 12, 2) := by decide +kernel
theorem dX7_mending_4 : decode cX7_mending 4 = .ok (.iload_n 1, 1) := by decide +kernel
theorem dX7_mending_5 : decode cX7_mending 5 = .ok (.imul, 1) := by decide +kernel
theorem dX7_mending_6 : decode cX7_mending 6 = .ok (.istore_n 3, 1) := by decide +kernel
theorem dX7_mending_7 : decode cX7_mending 7 = .ok (.iload_n 3, 1) := by decide +kernel
theorem dX7_mending_8 : decode cX7_mending 8 = .ok (.bipush 12, 2) := by decide +kernel
theorem dX7_mending_10 : decode cX7_mending 10 = .ok (.iload_n 1, 1) := by decide +kernel
theorem dX7_mending_11 : decode cX7_mending 11 = .ok (.imul, 1) := by decide +kernel
theorem dX7_mending_12 : decode cX7_mending 12 = .ok (.aload_n 0, 1) := by decide +kernel
theorem dX7_mending_13 : decode cX7_mending 13 = .ok (.getfield 72, 3) := by decide +kernel
theorem dX7_mending_16 : decode cX7_mending 16 = .ok (.iload_n 1, 1) := by decide +kernel
theorem dX7_mending_17 : decode cX7_mending 17 = .ok (.iaload, 1) := by decide +kernel
theorem dX7_mending_18 : decode cX7_mending 18 = .ok (.iadd, 1) := by decide +kernel
theorem dX7_mending_19 : decode cX7_mending 19 = .ok (.if_icmp .ge 54, 3) := by decide +kernel
theorem dX7_mending_22 : decode cX7_mending 22 = .ok (.iload_n 2, 1) := by decide +kernel
theorem dX7_mending_23 : decode cX7_mending 23 = .ok (.aload_n 0, 1) := by decide +kernel
theorem dX7_mending_24 : decode cX7_mending 24 = .ok (.getfield 69, 3) := by decide +kernel
theorem dX7_mending_27 : decode cX7_mending 27 = .ok (.iload_n 3, 1) := by decide +kernel
theorem dX7_mending_28 : decode cX7_mending 28 = .ok (.iaload, 1) := by decide +kernel
theorem dX7_mending_29 : decode cX7_mending 29 = .ok (.aload_n 0, 1) := by decide +kernel
theorem dX7_mending_30 : decode cX7_mending 30 = .ok (.getfield 75, 3) := by decide +kernel
theorem dX7_mending_33 : decode cX7_mending 33 = .ok (.aload_n 0, 1) := by decide +kernel
theorem dX7_mending_34 : decode cX7_mending 34 = .ok (.getfield 66, 3) := by decide +kernel
theorem dX7_mending_37 : decode cX7_mending 37 = .ok (.iload_n 3, 1) := by decide +kernel
theorem dX7_mending_38 : decode cX7_mending 38 = .ok (.iaload, 1) := by decide +kernel
theorem dX7_mending_39 : decode cX7_mending 39 = .ok (.iaload, 1) := by decide +kernel
theorem dX7_mending_40 : decode cX7_mending 40 = .ok (.if_icmp .le 24, 3) := by decide +kernel
theorem dX7_mending_43 : decode cX7_mending 43 = .ok (.bipush 10, 2) := by decide +kernel
theorem dX7_mending_45 : decode cX7_mending 45 = .ok (.aload_n 0, 1) := by decide +kernel
theorem dX7_mending_46 : decode cX7_mending 46 = .ok (.getfield 66, 3) := by decide +kernel
theorem dX7_mending_49 : decode cX7_mending 49 = .ok (.iload_n 3, 1) := by decide +kernel
theorem dX7_mending_50 : decode cX7_mending 50 = .ok (.iaload, 1) := by decide +kernel
theorem dX7_mending_51 : decode cX7_mending 51 = .ok (.iconst 1, 1) := by decide +kernel
theorem dX7_mending_52 : decode cX7_mending 52 = .ok (.iadd, 1) := by decide +kernel
theorem dX7_mending_53 : decode cX7_mending 53 = .ok (.imul, 1) := by decide +kernel
theorem dX7_mending_54 : decode cX7_mending 54 = .ok (.aload_n 0, 1) := by decide +kernel
theorem dX7_mending_55 : decode cX7_mending 55 = .ok (.getfield 69, 3) := by decide +kernel
theorem dX7_mending_58 : decode cX7_mending 58 = .ok (.iload_n 3, 1) := by decide +kernel
theorem dX7_mending_59 : decode cX7_mending 59 = .ok (.iaload, 1) := by decide +kernel
theorem dX7_mending_60 : decode cX7_mending 60 = .ok (.imul, 1) := by decide +kernel
theorem dX7_mending_61 : decode cX7_mending 61 = .ok (.goto 4, 3) := by decide +kernel
theorem dX7_mending_64 : decode cX7_mending 64 = .ok (.iconst 0, 1) := by decide +kernel
theorem dX7_mending_65 : decode cX7_mending 65 = .ok (.iadd, 1) := by decide +kernel
theorem dX7_mending_66 : decode cX7_mending 66 = .ok (.istore_n 2, 1) := by decide +kernel
theorem dX7_mending_67 : decode cX7_mending 67 = .ok (.iinc 3 1, 3) := by decide +kernel
theorem dX7_mending_70 : decode cX7_mending 70 = .ok (.goto (-63), 3) := by decide +kernel
theorem dX7_mending_73 : decode cX7_mending 73 = .ok (.iload_n 2, 1) := by decide +kernel
theorem dX7_mending_74 : decode cX7_mending 74 = .ok (.ireturn, 1) := by decide +kernel
theorem dX7_isCode_0 : decode cX7_isCode 0 = .ok (.iload_n 0, 1) := by decide +kernel
theorem dX7_isCode_1 : decode cX7_isCode 1 = .ok (.iconst 0, 1) := by decide +kernel
theorem dX7_isCode_2 : decode cX7_isCode 2 = .ok (.iconst 4, 1) := by decide +kernel
theorem dX7_isCode_3 : decode cX7_isCode 3 = .ok (.invokestatic 111, 3) := by decide +kernel
theorem dX7_isCode_6 : decode cX7_isCode 6 = .ok (.ireturn, 1) := by decide +kernel
theorem dX7_damage_0 : decode cX7_damage 0 = .ok (.aload_n 0, 1) := by decide +kernel
theorem dX7_damage_1 : decode cX7_damage 1 = .ok (.iload_n 1, 1) := by decide +kernel
theorem dX7_damage_2 : decode cX7_damage 2 = .ok (.invokevirtual 131, 3) := by decide +kernel
theorem dX7_damage_5 : decode cX7_damage 5 = .ok (.ifCond .eq 14, 3) := by decide +kernel
theorem dX7_damage_8 : decode cX7_damage 8 = .ok (.iload_n 2, 1) := by decide +kernel
theorem dX7_damage_9 : decode cX7_damage 9 = .ok (.invokestatic 180, 3) := by decide +kernel
theorem dX7_damage_12 : decode cX7_damage 12 = .ok (.ifCond .eq 7, 3) := by decide +kernel
theorem dX7_damage_15 : decode cX7_damage 15 = .ok (.iconst 1, 1) := by decide +kernel
theorem dX7_damage_16 : decode cX7_damage 16 = .ok (.goto 4, 3) := by decide +kernel
theorem dX7_damage_19 : decode cX7_damage 19 = .ok (.iconst 0, 1) := by decide +kernel
theorem dX7_damage_20 : decode cX7_damage 20 = .ok (.istore 4, 2) := by decide +kernel
theorem dX7_damage_22 : decode cX7_damage 22 = .ok (.aload_n 0, 1) := by decide +kernel
theorem dX7_damage_23 : decode cX7_damage 23 = .ok (.iload 4, 2) := by decide +kernel
theorem dX7_damage_25 : decode cX7_damage 25 = .ok (.ifCond .ne 7, 3) := by decide +kernel
theorem dX7_damage_28 : decode cX7_damage 28 = .ok (.iconst 1, 1) := by decide +kernel
theorem dX7_damage_29 : decode cX7_damage 29 = .ok (.goto 41, 3) := by decide +kernel
theorem dX7_damage_32 : decode cX7_damage 32 = .ok (.iload_n 3, 1) := by decide +kernel
theorem dX7_damage_33 : decode cX7_damage 33 = .ok (.iconst 1, 1) := by decide +kernel
theorem dX7_damage_34 : decode cX7_damage 34 = .ok (.bipush 20, 2) := by decide +kernel
theorem dX7_damage_36 : decode cX7_damage 36 = .ok (.invokestatic 111, 3) := by decide +kernel
theorem dX7_damage_39 : decode cX7_damage 39 = .ok (.ifCond .ne 7, 3) := by decide +kernel
theorem dX7_damage_42 : decode cX7_damage 42 = .ok (.iconst 2, 1) := by decide +kernel
theorem dX7_damage_43 : decode cX7_damage 43 = .ok (.goto 27, 3) := by decide +kernel
theorem dX7_damage_46 : decode cX7_damage 46 = .ok (.aload_n 0, 1) := by decide +kernel
theorem dX7_damage_47 : decode cX7_damage 47 = .ok (.iload_n 1, 1) := by decide +kernel
theorem dX7_damage_48 : decode cX7_damage 48 = .ok (.invokevirtual 134, 3) := by decide +kernel
theorem dX7_damage_51 : decode cX7_damage 51 = .ok (.ifCond .ne 14, 3) := by decide +kernel
theorem dX7_damage_54 : decode cX7_damage 54 = .ok (.aload_n 0, 1) := by decide +kernel
theorem dX7_damage_55 : decode cX7_damage 55 = .ok (.getfield 72, 3) := by decide +kernel
theorem dX7_damage_58 : decode cX7_damage 58 = .ok (.iload_n 1, 1) := by decide +kernel
theorem dX7_damage_59 : decode cX7_damage 59 = .ok (.iaload, 1) := by decide +kernel
theorem dX7_damage_60 : decode cX7_damage 60 = .ok (.bipush 12, 2) := by decide +kernel
theorem dX7_damage_62 : decode cX7_damage 62 = .ok (.if_icmp .ne 7, 3) := by decide +kernel
theorem dX7_damage_65 : decode cX7_damage 65 = .ok (.iconst 3, 1) := by decide +kernel
theorem dX7_damage_66 : decode cX7_damage 66 = .ok (.goto 4, 3) := by decide +kernel
theorem dX7_damage_69 : decode cX7_damage 69 = .ok (.iconst 0, 1) := by decide +kernel
theorem dX7_damage_70 : decode cX7_damage 70 = .ok (.invokevirtual 125, 3) := by decide +kernel
theorem dX7_damage_73 : decode cX7_damage 73 = .ok (.ifCond .ne 5, 3) := by decide +kernel
theorem dX7_damage_76 : decode cX7_damage 76 = .ok (.iconst 0, 1) := by decide +kernel
theorem dX7_damage_77 : decode cX7_damage 77 = .ok (.ireturn, 1) := by decide +kernel
theorem dX7_damage_78 : decode cX7_damage 78 = .ok (.aload_n 0, 1) := by decide +kernel
theorem dX7_damage_79 : decode cX7_damage 79 = .ok (.getfield 66, 3) := by decide +kernel
theorem dX7_damage_82 : decode cX7_damage 82 = .ok (.bipush 12, 2) := by decide +kernel
theorem dX7_damage_84 : decode cX7_damage 84 = .ok (.iload_n 1, 1) := by decide +kernel
theorem dX7_damage_85 : decode cX7_damage 85 = .ok (.imul, 1) := by decide +kernel
theorem dX7_damage_86 : decode cX7_damage 86 = .ok (.aload_n 0, 1) := by decide +kernel
theorem dX7_damage_87 : decode cX7_damage 87 = .ok (.getfield 72, 3) := by decide +kernel
theorem dX7_damage_90 : decode cX7_damage 90 = .ok (.iload_n 1, 1) := by decide +kernel
theorem dX7_damage_91 : decode cX7_damage 91 = .ok (.iaload, 1) := by decide +kernel
theorem dX7_damage_92 : decode cX7_damage 92 = .ok (.iadd, 1) := by decide +kernel
theorem dX7_damage_93 : decode cX7_damage 93 = .ok (.iload_n 2, 1) := by decide +kernel
theorem dX7_damage_94 : decode cX7_damage 94 = .ok (.iastore, 1) := by decide +kernel
theorem dX7_damage_95 : decode cX7_damage 95 = .ok (.aload_n 0, 1) := by decide +kernel
theorem dX7_damage_96 : decode cX7_damage 96 = .ok (.getfield 69, 3) := by decide +kernel
theorem dX7_damage_99 : decode cX7_damage 99 = .ok (.bipush 12, 2) := by decide +kernel
theorem dX7_damage_101 : decode cX7_damage 101 = .ok (.iload_n 1, 1) := by decide +kernel
theorem dX7_damage_102 : decode cX7_damage 102 = .ok (.imul, 1) := by decide +kernel
theorem dX7_damage_103 : decode cX7_damage 103 = .ok (.aload_n 0, 1) := by decide +kernel
theorem dX7_damage_104 : decode cX7_damage 104 = .ok (.getfield 72, 3) := by decide +kernel
theorem dX7_damage_107 : decode cX7_damage 107 = .ok (.iload_n 1, 1) := by decide +kernel
theorem dX7_damage_108 : decode cX7_damage 108 = .ok (.iaload, 1) := by decide +kernel
theorem dX7_damage_109 : decode cX7_damage 109 = .ok (.iadd, 1) := by decide +kernel
theorem dX7_damage_110 : decode cX7_damage 110 = .ok (.iload_n 3, 1) := by decide +kernel
theorem dX7_damage_111 : decode cX7_damage 111 = .ok (.iastore, 1) := by decide +kernel
theorem dX7_damage_112 : decode cX7_damage 112 = .ok (.aload_n 0, 1) := by decide +kernel
theorem dX7_damage_113 : decode cX7_damage 113 = .ok (.getfield 72, 3) := by decide +kernel
theorem dX7_damage_116 : decode cX7_damage 116 = .ok (.iload_n 1, 1) := by decide +kernel
theorem dX7_damage_117 : decode cX7_damage 117 = .ok (.dup2, 1) := by decide +kernel
theorem dX7_damage_118 : decode cX7_damage 118 = .ok (.iaload, 1) := by decide +kernel
theorem dX7_damage_119 : decode cX7_damage 119 = .ok (.iconst 1, 1) := by decide +kernel
theorem dX7_damage_120 : decode cX7_damage 120 = .ok (.iadd, 1) := by decide +kernel
theorem dX7_damage_121 : decode cX7_damage 121 = .ok (.iastore, 1) := by decide +kernel
theorem dX7_damage_122 : decode cX7_damage 122 = .ok (.aload_n 0, 1) := by decide +kernel
theorem dX7_damage_123 : decode cX7_damage 123 = .ok (.iload_n 1, 1) := by decide +kernel
theorem dX7_damage_124 : decode cX7_damage 124 = .ok (.invokevirtual 183, 3) := by decide +kernel
theorem dX7_damage_127 : decode cX7_damage 127 = .ok (.ireturn, 1) := by decide +kernel
theorem dX7_standard_0 : decode cX7_standard 0 = .ok (.aload_n 0, 1) := by decide +kernel
theorem dX7_standard_1 : decode cX7_standard 1 = .ok (.iload_n 1, 1) := by decide +kernel
theorem dX7_standard_2 : decode cX7_standard 2 = .ok (.invokestatic 180, 3) := by decide +kernel
theorem dX7_standard_5 : decode cX7_standard 5 = .ok (.ifCond .ne 7, 3) := by decide +kernel
theorem dX7_standard_8 : decode cX7_standard 8 = .ok (.iconst 1, 1) := by decide +kernel
theorem dX7_standard_9 : decode cX7_standard 9 = .ok (.goto 18, 3) := by decide +kernel
theorem dX7_standard_12 : decode cX7_standard 12 = .ok (.iload_n 2, 1) := by decide +kernel
theorem dX7_standard_13 : decode cX7_standard 13 = .ok (.iconst 0, 1) := by decide +kernel
theorem dX7_standard_14 : decode cX7_standard 14 = .ok (.bipush 20, 2) := by decide +kernel
theorem dX7_standard_16 : decode cX7_standard 16 = .ok (.invokestatic 111, 3) := by decide +kernel
theorem dX7_standard_19 : decode cX7_standard 19 = .ok (.ifCond .ne 7, 3) := by decide +kernel
theorem dX7_standard_22 : decode cX7_standard 22 = .ok (.iconst 2, 1) := by decide +kernel
theorem dX7_standard_23 : decode cX7_standard 23 = .ok (.goto 4, 3) := by decide +kernel
theorem dX7_standard_26 : decode cX7_standard 26 = .ok (.iconst 0, 1) := by decide +kernel
theorem dX7_standard_27 : decode cX7_standard 27 = .ok (.invokevirtual 125, 3) := by decide +kernel
theorem dX7_standard_30 : decode cX7_standard 30 = .ok (.ifCond .ne 5, 3) := by decide +kernel
theorem dX7_standard_33 : decode cX7_standard 33 = .ok (.iconst 0, 1) := by decide +kernel
theorem dX7_standard_34 : decode cX7_standard 34 = .ok (.ireturn, 1) := by decide +kernel
theorem dX7_standard_35 : decode cX7_standard 35 = .ok (.aload_n 0, 1) := by decide +kernel
theorem dX7_standard_36 : decode cX7_standard 36 = .ok (.getfield 75, 3) := by decide +kernel
theorem dX7_standard_39 : decode cX7_standard 39 = .ok (.iload_n 1, 1) := by decide +kernel
theorem dX7_standard_40 : decode cX7_standard 40 = .ok (.iaload, 1) := by decide +kernel
theorem dX7_standard_41 : decode cX7_standard 41 = .ok (.istore_n 3, 1) := by decide +kernel
theorem dX7_standard_42 : decode cX7_standard 42 = .ok (.aload_n 0, 1) := by decide +kernel
theorem dX7_standard_43 : decode cX7_standard 43 = .ok (.getfield 75, 3) := by decide +kernel
theorem dX7_standard_46 : decode cX7_standard 46 = .ok (.iload_n 1, 1) := by decide +kernel
theorem dX7_standard_47 : decode cX7_standard 47 = .ok (.iload_n 2, 1) := by decide +kernel
theorem dX7_standard_48 : decode cX7_standard 48 = .ok (.iastore, 1) := by decide +kernel
theorem dX7_standard_49 : decode cX7_standard 49 = .ok (.iload_n 3, 1) := by decide +kernel
theorem dX7_standard_50 : decode cX7_standard 50 = .ok (.ireturn, 1) := by decide +kernel
theorem dX7_limit_0 : decode cX7_limit 0 = .ok (.aload_n 0, 1) := by decide +kernel
theorem dX7_limit_1 : decode cX7_limit 1 = .ok (.iload_n 1, 1) := by decide +kernel
theorem dX7_limit_2 : decode cX7_limit 2 = .ok (.invokestatic 122, 3) := by decide +kernel
theorem dX7_limit_5 : decode cX7_limit 5 = .ok (.ifCond .eq 7, 3) := by decide +kernel
theorem dX7_limit_8 : decode cX7_limit 8 = .ok (.iconst 0, 1) := by decide +kernel
theorem dX7_limit_9 : decode cX7_limit 9 = .ok (.goto 4, 3) := by decide +kernel
theorem dX7_limit_12 : decode cX7_limit 12 = .ok (.iconst 1, 1) := by decide +kernel
theorem dX7_limit_13 : decode cX7_limit 13 = .ok (.invokevirtual 125, 3) := by decide +kernel
theorem dX7_limit_16 : decode cX7_limit 16 = .ok (.ifCond .ne 5, 3) := by decide +kernel
theorem dX7_limit_19 : decode cX7_limit 19 = .ok (.iconst 0, 1) := by decide +kernel
theorem dX7_limit_20 : decode cX7_limit 20 = .ok (.ireturn, 1) := by decide +kernel
theorem dX7_limit_21 : decode cX7_limit 21 = .ok (.aload_n 0, 1) := by decide +kernel
theorem dX7_limit_22 : decode cX7_limit 22 = .ok (.getfield 78, 3) := by decide +kernel
theorem dX7_limit_25 : decode cX7_limit 25 = .ok (.istore_n 2, 1) := by decide +kernel
theorem dX7_limit_26 : decode cX7_limit 26 = .ok (.aload_n 0, 1) := by decide +kernel
theorem dX7_limit_27 : decode cX7_limit 27 = .ok (.iload_n 1, 1) := by decide +kernel
theorem dX7_limit_28 : decode cX7_limit 28 = .ok (.putfield 78, 3) := by decide +kernel
theorem dX7_limit_31 : decode cX7_limit 31 = .ok (.iload_n 2, 1) := by decide +kernel
theorem dX7_limit_32 : decode cX7_limit 32 = .ok (.ireturn, 1) := by decide +kernel
theorem dX7_mend_0 : decode cX7_mend 0 = .ok (.aload_n 0, 1) := by decide +kernel
theorem dX7_mend_1 : decode cX7_mend 1 = .ok (.iload_n 1, 1) := by decide +kernel
theorem dX7_mend_2 : decode cX7_mend 2 = .ok (.invokevirtual 131, 3) := by decide +kernel
theorem dX7_mend_5 : decode cX7_mend 5 = .ok (.istore_n 2, 1) := by decide +kernel
theorem dX7_mend_6 : decode cX7_mend 6 = .ok (.iload_n 2, 1) := by decide +kernel
theorem dX7_mend_7 : decode cX7_mend 7 = .ok (.ifCond .eq 11, 3) := by decide +kernel
theorem dX7_mend_10 : decode cX7_mend 10 = .ok (.aload_n 0, 1) := by decide +kernel
theorem dX7_mend_11 : decode cX7_mend 11 = .ok (.iload_n 1, 1) := by decide +kernel
theorem dX7_mend_12 : decode cX7_mend 12 = .ok (.invokevirtual 183, 3) := by decide +kernel
theorem dX7_mend_15 : decode cX7_mend 15 = .ok (.goto 4, 3) := by decide +kernel
theorem dX7_mend_18 : decode cX7_mend 18 = .ok (.iconst 0, 1) := by decide +kernel
theorem dX7_mend_19 : decode cX7_mend 19 = .ok (.istore_n 3, 1) := by decide +kernel
theorem dX7_mend_20 : decode cX7_mend 20 = .ok (.aload_n 0, 1) := by decide +kernel
theorem dX7_mend_21 : decode cX7_mend 21 = .ok (.iload_n 2, 1) := by decide +kernel
theorem dX7_mend_22 : decode cX7_mend 22 = .ok (.ifCond .ne 7, 3) := by decide +kernel
theorem dX7_mend_25 : decode cX7_mend 25 = .ok (.iconst 1, 1) := by decide +kernel
theorem dX7_mend_26 : decode cX7_mend 26 = .ok (.goto 28, 3) := by decide +kernel
theorem dX7_mend_29 : decode cX7_mend 29 = .ok (.aload_n 0, 1) := by decide +kernel
theorem dX7_mend_30 : decode cX7_mend 30 = .ok (.iload_n 1, 1) := by decide +kernel
theorem dX7_mend_31 : decode cX7_mend 31 = .ok (.invokevirtual 134, 3) := by decide +kernel
theorem dX7_mend_34 : decode cX7_mend 34 = .ok (.ifCond .ne 15, 3) := by decide +kernel
theorem dX7_mend_37 : decode cX7_mend 37 = .ok (.iload_n 3, 1) := by decide +kernel
theorem dX7_mend_38 : decode cX7_mend 38 = .ok (.ifCond .eq 11, 3) := by decide +kernel
theorem dX7_mend_41 : decode cX7_mend 41 = .ok (.iload_n 3, 1) := by decide +kernel
theorem dX7_mend_42 : decode cX7_mend 42 = .ok (.aload_n 0, 1) := by decide +kernel
theorem dX7_mend_43 : decode cX7_mend 43 = .ok (.getfield 78, 3) := by decide +kernel
theorem dX7_mend_46 : decode cX7_mend 46 = .ok (.if_icmp .le 7, 3) := by decide +kernel
theorem dX7_mend_49 : decode cX7_mend 49 = .ok (.iconst 2, 1) := by decide +kernel
theorem dX7_mend_50 : decode cX7_mend 50 = .ok (.goto 4, 3) := by decide +kernel
theorem dX7_mend_53 : decode cX7_mend 53 = .ok (.iconst 0, 1) := by decide +kernel
theorem dX7_mend_54 : decode cX7_mend 54 = .ok (.invokevirtual 125, 3) := by decide +kernel
theorem dX7_mend_57 : decode cX7_mend 57 = .ok (.ifCond .ne 5, 3) := by decide +kernel
theorem dX7_mend_60 : decode cX7_mend 60 = .ok (.iconst 0, 1) := by decide +kernel
theorem dX7_mend_61 : decode cX7_mend 61 = .ok (.ireturn, 1) := by decide +kernel
theorem dX7_mend_62 : decode cX7_mend 62 = .ok (.aload_n 0, 1) := by decide +kernel
theorem dX7_mend_63 : decode cX7_mend 63 = .ok (.getfield 72, 3) := by decide +kernel
theorem dX7_mend_66 : decode cX7_mend 66 = .ok (.iload_n 1, 1) := by decide +kernel
theorem dX7_mend_67 : decode cX7_mend 67 = .ok (.iconst 0, 1) := by decide +kernel
theorem dX7_mend_68 : decode cX7_mend 68 = .ok (.iastore, 1) := by decide +kernel
theorem dX7_mend_69 : decode cX7_mend 69 = .ok (.iload_n 3, 1) := by decide +kernel
theorem dX7_mend_70 : decode cX7_mend 70 = .ok (.ireturn, 1) := by decide +kernel
theorem dX7_book_0 : decode cX7_book 0 = .ok (.aload_n 0, 1) := by decide +kernel
theorem dX7_book_1 : decode cX7_book 1 = .ok (.iload_n 1, 1) := by decide +kernel
theorem dX7_book_2 : decode cX7_book 2 = .ok (.invokestatic 118, 3) := by decide +kernel
theorem dX7_book_5 : decode cX7_book 5 = .ok (.ifCond .ne 7, 3) := by decide +kernel
theorem dX7_book_8 : decode cX7_book 8 = .ok (.iconst 1, 1) := by decide +kernel
theorem dX7_book_9 : decode cX7_book 9 = .ok (.goto 38, 3) := by decide +kernel
theorem dX7_book_12 : decode cX7_book 12 = .ok (.iload_n 2, 1) := by decide +kernel
theorem dX7_book_13 : decode cX7_book 13 = .ok (.invokestatic 128, 3) := by decide +kernel
theorem dX7_book_16 : decode cX7_book 16 = .ok (.ifCond .eq 13, 3) := by decide +kernel
theorem dX7_book_19 : decode cX7_book 19 = .ok (.iload_n 3, 1) := by decide +kernel
theorem dX7_book_20 : decode cX7_book 20 = .ok (.iconst 1, 1) := by decide +kernel
theorem dX7_book_21 : decode cX7_book 21 = .ok (.bipush 9, 2) := by decide +kernel
theorem dX7_book_23 : decode cX7_book 23 = .ok (.invokestatic 111, 3) := by decide +kernel
theorem dX7_book_26 : decode cX7_book 26 = .ok (.ifCond .ne 7, 3) := by decide +kernel
theorem dX7_book_29 : decode cX7_book 29 = .ok (.iconst 2, 1) := by decide +kernel
theorem dX7_book_30 : decode cX7_book 30 = .ok (.goto 17, 3) := by decide +kernel
theorem dX7_book_33 : decode cX7_book 33 = .ok (.aload_n 0, 1) := by decide +kernel
theorem dX7_book_34 : decode cX7_book 34 = .ok (.getfield 186, 3) := by decide +kernel
theorem dX7_book_37 : decode cX7_book 37 = .ok (.bipush 20, 2) := by decide +kernel
theorem dX7_book_39 : decode cX7_book 39 = .ok (.if_icmp .ne 7, 3) := by decide +kernel
theorem dX7_book_42 : decode cX7_book 42 = .ok (.iconst 3, 1) := by decide +kernel
theorem dX7_book_43 : decode cX7_book 43 = .ok (.goto 4, 3) := by decide +kernel
theorem dX7_book_46 : decode cX7_book 46 = .ok (.iconst 0, 1) := by decide +kernel
theorem dX7_book_47 : decode cX7_book 47 = .ok (.invokevirtual 125, 3) := by decide +kernel
theorem dX7_book_50 : decode cX7_book 50 = .ok (.ifCond .ne 5, 3) := by decide +kernel
theorem dX7_book_53 : decode cX7_book 53 = .ok (.iconst 0, 1) := by decide +kernel
theorem dX7_book_54 : decode cX7_book 54 = .ok (.ireturn, 1) := by decide +kernel
theorem dX7_book_55 : decode cX7_book 55 = .ok (.aload_n 0, 1) := by decide +kernel
theorem dX7_book_56 : decode cX7_book 56 = .ok (.getfield 81, 3) := by decide +kernel
theorem dX7_book_59 : decode cX7_book 59 = .ok (.aload_n 0, 1) := by decide +kernel
theorem dX7_book_60 : decode cX7_book 60 = .ok (.getfield 186, 3) := by decide +kernel
theorem dX7_book_63 : decode cX7_book 63 = .ok (.iload_n 1, 1) := by decide +kernel
theorem dX7_book_64 : decode cX7_book 64 = .ok (.iastore, 1) := by decide +kernel
theorem dX7_book_65 : decode cX7_book 65 = .ok (.aload_n 0, 1) := by decide +kernel
theorem dX7_book_66 : decode cX7_book 66 = .ok (.getfield 84, 3) := by decide +kernel
theorem dX7_book_69 : decode cX7_book 69 = .ok (.aload_n 0, 1) := by decide +kernel
theorem dX7_book_70 : decode cX7_book 70 = .ok (.getfield 186, 3) := by decide +kernel
theorem dX7_book_73 : decode cX7_book 73 = .ok (.iload_n 2, 1) := by decide +kernel
theorem dX7_book_74 : decode cX7_book 74 = .ok (.iastore, 1) := by decide +kernel
theorem dX7_book_75 : decode cX7_book 75 = .ok (.aload_n 0, 1) := by decide +kernel
theorem dX7_book_76 : decode cX7_book 76 = .ok (.getfield 87, 3) := by decide +kernel
theorem dX7_book_79 : decode cX7_book 79 = .ok (.aload_n 0, 1) := by decide +kernel
theorem dX7_book_80 : decode cX7_book 80 = .ok (.getfield 186, 3) := by decide +kernel
theorem dX7_book_83 : decode cX7_book 83 = .ok (.iload_n 3, 1) := by decide +kernel
theorem dX7_book_84 : decode cX7_book 84 = .ok (.iastore, 1) := by decide +kernel
theorem dX7_book_85 : decode cX7_book 85 = .ok (.aload_n 0, 1) := by decide +kernel
theorem dX7_book_86 : decode cX7_book 86 = .ok (.dup, 1) := by decide +kernel
theorem dX7_book_87 : decode cX7_book 87 = .ok (.getfield 186, 3) := by decide +kernel
theorem dX7_book_90 : decode cX7_book 90 = .ok (.iconst 1, 1) := by decide +kernel
theorem dX7_book_91 : decode cX7_book 91 = .ok (.iadd, 1) := by decide +kernel
theorem dX7_book_92 : decode cX7_book 92 = .ok (.putfield 186, 3) := by decide +kernel
theorem dX7_book_95 : decode cX7_book 95 = .ok (.aload_n 0, 1) := by decide +kernel
theorem dX7_book_96 : decode cX7_book 96 = .ok (.getfield 186, 3) := by decide +kernel
theorem dX7_book_99 : decode cX7_book 99 = .ok (.iconst 1, 1) := by decide +kernel
theorem dX7_book_100 : decode cX7_book 100 = .ok (.isub, 1) := by decide +kernel
theorem dX7_book_101 : decode cX7_book 101 = .ok (.ireturn, 1) := by decide +kernel
theorem dX7_given_0 : decode cX7_given 0 = .ok (.iconst 0, 1) := by decide +kernel
theorem dX7_given_1 : decode cX7_given 1 = .ok (.istore_n 2, 1) := by decide +kernel
theorem dX7_given_2 : decode cX7_given 2 = .ok (.iconst 0, 1) := by decide +kernel
theorem dX7_given_3 : decode cX7_given 3 = .ok (.istore_n 3, 1) := by decide +kernel
theorem dX7_given_4 : decode cX7_given 4 = .ok (.iload_n 3, 1) := by decide +kernel
theorem dX7_given_5 : decode cX7_given 5 = .ok (.aload_n 0, 1) := by decide +kernel
theorem dX7_given_6 : decode cX7_given 6 = .ok (.getfield 115, 3) := by decide +kernel
theorem dX7_given_9 : decode cX7_given 9 = .ok (.if_icmp .ge 27, 3) := by decide +kernel
theorem dX7_given_12 : decode cX7_given 12 = .ok (.iload_n 2, 1) := by decide +kernel
theorem dX7_given_13 : decode cX7_given 13 = .ok (.aload_n 0, 1) := by decide +kernel
theorem dX7_given_14 : decode cX7_given 14 = .ok (.getfield 29, 3) := by decide +kernel
theorem dX7_given_17 : decode cX7_given 17 = .ok (.iload_n 3, 1) := by decide +kernel
theorem dX7_given_18 : decode cX7_given 18 = .ok (.iaload, 1) := by decide +kernel
theorem dX7_given_19 : decode cX7_given 19 = .ok (.iload_n 1, 1) := by decide +kernel
theorem dX7_given_20 : decode cX7_given 20 = .ok (.if_icmp .ne 7, 3) := by decide +kernel
theorem dX7_given_23 : decode cX7_given 23 = .ok (.iconst 1, 1) := by decide +kernel
theorem dX7_given_24 : decode cX7_given 24 = .ok (.goto 4, 3) := by decide +kernel
theorem dX7_given_27 : decode cX7_given 27 = .ok (.iconst 0, 1) := by decide +kernel
theorem dX7_given_28 : decode cX7_given 28 = .ok (.iadd, 1) := by decide +kernel
theorem dX7_given_29 : decode cX7_given 29 = .ok (.istore_n 2, 1) := by decide +kernel
theorem dX7_given_30 : decode cX7_given 30 = .ok (.iinc 3 1, 3) := by decide +kernel
theorem dX7_given_33 : decode cX7_given 33 = .ok (.goto (-29), 3) := by decide +kernel
theorem dX7_given_36 : decode cX7_given 36 = .ok (.iload_n 2, 1) := by decide +kernel
theorem dX7_given_37 : decode cX7_given 37 = .ok (.ireturn, 1) := by decide +kernel
theorem dX7_lacking_0 : decode cX7_lacking 0 = .ok (.aload_n 0, 1) := by decide +kernel
theorem dX7_lacking_1 : decode cX7_lacking 1 = .ok (.getfield 90, 3) := by decide +kernel
theorem dX7_lacking_4 : decode cX7_lacking 4 = .ok (.iload_n 1, 1) := by decide +kernel
theorem dX7_lacking_5 : decode cX7_lacking 5 = .ok (.baload, 1) := by decide +kernel
theorem dX7_lacking_6 : decode cX7_lacking 6 = .ok (.ifCond .eq 7, 3) := by decide +kernel
theorem dX7_lacking_9 : decode cX7_lacking 9 = .ok (.iconst 0, 1) := by decide +kernel
theorem dX7_lacking_10 : decode cX7_lacking 10 = .ok (.goto 15, 3) := by decide +kernel
theorem dX7_lacking_13 : decode cX7_lacking 13 = .ok (.aload_n 0, 1) := by decide +kernel
theorem dX7_lacking_14 : decode cX7_lacking 14 = .ok (.getfield 87, 3) := by decide +kernel
theorem dX7_lacking_17 : decode cX7_lacking 17 = .ok (.iload_n 1, 1) := by decide +kernel
theorem dX7_lacking_18 : decode cX7_lacking 18 = .ok (.iaload, 1) := by decide +kernel
theorem dX7_lacking_19 : decode cX7_lacking 19 = .ok (.aload_n 0, 1) := by decide +kernel
theorem dX7_lacking_20 : decode cX7_lacking 20 = .ok (.iload_n 1, 1) := by decide +kernel
theorem dX7_lacking_21 : decode cX7_lacking 21 = .ok (.invokevirtual 189, 3) := by decide +kernel
theorem dX7_lacking_24 : decode cX7_lacking 24 = .ok (.isub, 1) := by decide +kernel
theorem dX7_lacking_25 : decode cX7_lacking 25 = .ok (.ireturn, 1) := by decide +kernel
theorem dX7_canServe_0 : decode cX7_canServe 0 = .ok (.aload_n 0, 1) := by decide +kernel
theorem dX7_canServe_1 : decode cX7_canServe 1 = .ok (.iload_n 1, 1) := by decide +kernel
theorem dX7_canServe_2 : decode cX7_canServe 2 = .ok (.aload_n 0, 1) := by decide +kernel
theorem dX7_canServe_3 : decode cX7_canServe 3 = .ok (.getfield 152, 3) := by decide +kernel
theorem dX7_canServe_6 : decode cX7_canServe 6 = .ok (.invokevirtual 158, 3) := by decide +kernel
theorem dX7_canServe_9 : decode cX7_canServe 9 = .ok (.invokestatic 118, 3) := by decide +kernel
theorem dX7_canServe_12 : decode cX7_canServe 12 = .ok (.ifCond .eq 55, 3) := by decide +kernel
theorem dX7_canServe_15 : decode cX7_canServe 15 = .ok (.aload_n 0, 1) := by decide +kernel
theorem dX7_canServe_16 : decode cX7_canServe 16 = .ok (.iload_n 1, 1) := by decide +kernel
theorem dX7_canServe_17 : decode cX7_canServe 17 = .ok (.invokevirtual 134, 3) := by decide +kernel
theorem dX7_canServe_20 : decode cX7_canServe 20 = .ok (.ifCond .ne 47, 3) := by decide +kernel
theorem dX7_canServe_23 : decode cX7_canServe 23 = .ok (.aload_n 0, 1) := by decide +kernel
theorem dX7_canServe_24 : decode cX7_canServe 24 = .ok (.getfield 29, 3) := by decide +kernel
theorem dX7_canServe_27 : decode cX7_canServe 27 = .ok (.iload_n 1, 1) := by decide +kernel
theorem dX7_canServe_28 : decode cX7_canServe 28 = .ok (.iaload, 1) := by decide +kernel
theorem dX7_canServe_29 : decode cX7_canServe 29 = .ok (.iconst (-1), 1) := by decide +kernel
theorem dX7_canServe_30 : decode cX7_canServe 30 = .ok (.if_icmp .ne 37, 3) := by decide +kernel
theorem dX7_canServe_33 : decode cX7_canServe 33 = .ok (.aload_n 0, 1) := by decide +kernel
theorem dX7_canServe_34 : decode cX7_canServe 34 = .ok (.getfield 22, 3) := by decide +kernel
theorem dX7_canServe_37 : decode cX7_canServe 37 = .ok (.iload_n 1, 1) := by decide +kernel
theorem dX7_canServe_38 : decode cX7_canServe 38 = .ok (.baload, 1) := by decide +kernel
theorem dX7_canServe_39 : decode cX7_canServe 39 = .ok (.ifCond .ne 28, 3) := by decide +kernel
theorem dX7_canServe_42 : decode cX7_canServe 42 = .ok (.aload_n 0, 1) := by decide +kernel
theorem dX7_canServe_43 : decode cX7_canServe 43 = .ok (.getfield 19, 3) := by decide +kernel
theorem dX7_canServe_46 : decode cX7_canServe 46 = .ok (.iload_n 1, 1) := by decide +kernel
theorem dX7_canServe_47 : decode cX7_canServe 47 = .ok (.iaload, 1) := by decide +kernel
theorem dX7_canServe_48 : decode cX7_canServe 48 = .ok (.aload_n 0, 1) := by decide +kernel
theorem dX7_canServe_49 : decode cX7_canServe 49 = .ok (.getfield 152, 3) := by decide +kernel
theorem dX7_canServe_52 : decode cX7_canServe 52 = .ok (.if_icmp .lt 15, 3) := by decide +kernel
theorem dX7_canServe_55 : decode cX7_canServe 55 = .ok (.aload_n 0, 1) := by decide +kernel
theorem dX7_canServe_56 : decode cX7_canServe 56 = .ok (.iload_n 1, 1) := by decide +kernel
theorem dX7_canServe_57 : decode cX7_canServe 57 = .ok (.invokevirtual 183, 3) := by decide +kernel
theorem dX7_canServe_60 : decode cX7_canServe 60 = .ok (.ifCond .ne 7, 3) := by decide +kernel
theorem dX7_canServe_63 : decode cX7_canServe 63 = .ok (.iconst 1, 1) := by decide +kernel
theorem dX7_canServe_64 : decode cX7_canServe 64 = .ok (.goto 4, 3) := by decide +kernel
theorem dX7_canServe_67 : decode cX7_canServe 67 = .ok (.iconst 0, 1) := by decide +kernel
theorem dX7_canServe_68 : decode cX7_canServe 68 = .ok (.ireturn, 1) := by decide +kernel
theorem dX7_serves_0 : decode cX7_serves 0 = .ok (.aload_n 0, 1) := by decide +kernel
theorem dX7_serves_1 : decode cX7_serves 1 = .ok (.iload_n 1, 1) := by decide +kernel
theorem dX7_serves_2 : decode cX7_serves 2 = .ok (.invokevirtual 192, 3) := by decide +kernel
theorem dX7_serves_5 : decode cX7_serves 5 = .ok (.istore_n 2, 1) := by decide +kernel
theorem dX7_serves_6 : decode cX7_serves 6 = .ok (.iconst 0, 1) := by decide +kernel
theorem dX7_serves_7 : decode cX7_serves 7 = .ok (.istore_n 3, 1) := by decide +kernel
theorem dX7_serves_8 : decode cX7_serves 8 = .ok (.aload_n 0, 1) := by decide +kernel
theorem dX7_serves_9 : decode cX7_serves 9 = .ok (.getfield 84, 3) := by decide +kernel
theorem dX7_serves_12 : decode cX7_serves 12 = .ok (.iload_n 1, 1) := by decide +kernel
theorem dX7_serves_13 : decode cX7_serves 13 = .ok (.iaload, 1) := by decide +kernel
theorem dX7_serves_14 : decode cX7_serves 14 = .ok (.istore 4, 2) := by decide +kernel
theorem dX7_serves_16 : decode cX7_serves 16 = .ok (.iload 4, 2) := by decide +kernel
theorem dX7_serves_18 : decode cX7_serves 18 = .ok (.iconst 3, 1) := by decide +kernel
theorem dX7_serves_19 : decode cX7_serves 19 = .ok (.if_icmp .ge 83, 3) := by decide +kernel
theorem dX7_serves_22 : decode cX7_serves 22 = .ok (.iconst 0, 1) := by decide +kernel
theorem dX7_serves_23 : decode cX7_serves 23 = .ok (.istore 5, 2) := by decide +kernel
theorem dX7_serves_25 : decode cX7_serves 25 = .ok (.iload 5, 2) := by decide +kernel
theorem dX7_serves_27 : decode cX7_serves 27 = .ok (.aload_n 0, 1) := by decide +kernel
theorem dX7_serves_28 : decode cX7_serves 28 = .ok (.getfield 115, 3) := by decide +kernel
theorem dX7_serves_31 : decode cX7_serves 31 = .ok (.if_icmp .ge 65, 3) := by decide +kernel
theorem dX7_serves_34 : decode cX7_serves 34 = .ok (.iload_n 3, 1) := by decide +kernel
theorem dX7_serves_35 : decode cX7_serves 35 = .ok (.iload_n 2, 1) := by decide +kernel
theorem dX7_serves_36 : decode cX7_serves 36 = .ok (.if_icmp .ge 60, 3) := by decide +kernel
theorem dX7_serves_39 : decode cX7_serves 39 = .ok (.aload_n 0, 1) := by decide +kernel
theorem dX7_serves_40 : decode cX7_serves 40 = .ok (.getfield 13, 3) := by decide +kernel
theorem dX7_serves_43 : decode cX7_serves 43 = .ok (.iload 5, 2) := by decide +kernel
theorem dX7_serves_45 : decode cX7_serves 45 = .ok (.iaload, 1) := by decide +kernel
theorem dX7_serves_46 : decode cX7_serves 46 = .ok (.iload 4, 2) := by decide +kernel
theorem dX7_serves_48 : decode cX7_serves 48 = .ok (.if_icmp .ne 42, 3) := by decide +kernel
theorem dX7_serves_51 : decode cX7_serves 51 = .ok (.aload_n 0, 1) := by decide +kernel
theorem dX7_serves_52 : decode cX7_serves 52 = .ok (.iload 5, 2) := by decide +kernel
theorem dX7_serves_54 : decode cX7_serves 54 = .ok (.invokevirtual 195, 3) := by decide +kernel
theorem dX7_serves_57 : decode cX7_serves 57 = .ok (.ifCond .eq 33, 3) := by decide +kernel
theorem dX7_serves_60 : decode cX7_serves 60 = .ok (.aload_n 0, 1) := by decide +kernel
theorem dX7_serves_61 : decode cX7_serves 61 = .ok (.iload 5, 2) := by decide +kernel
theorem dX7_serves_63 : decode cX7_serves 63 = .ok (.aload_n 0, 1) := by decide +kernel
theorem dX7_serves_64 : decode cX7_serves 64 = .ok (.getfield 152, 3) := by decide +kernel
theorem dX7_serves_67 : decode cX7_serves 67 = .ok (.invokevirtual 158, 3) := by decide +kernel
theorem dX7_serves_70 : decode cX7_serves 70 = .ok (.aload_n 0, 1) := by decide +kernel
theorem dX7_serves_71 : decode cX7_serves 71 = .ok (.getfield 81, 3) := by decide +kernel
theorem dX7_serves_74 : decode cX7_serves 74 = .ok (.iload_n 1, 1) := by decide +kernel
theorem dX7_serves_75 : decode cX7_serves 75 = .ok (.iaload, 1) := by decide +kernel
theorem dX7_serves_76 : decode cX7_serves 76 = .ok (.if_icmp .ne 14, 3) := by decide +kernel
theorem dX7_serves_79 : decode cX7_serves 79 = .ok (.aload_n 0, 1) := by decide +kernel
theorem dX7_serves_80 : decode cX7_serves 80 = .ok (.getfield 29, 3) := by decide +kernel
theorem dX7_serves_83 : decode cX7_serves 83 = .ok (.iload 5, 2) := by decide +kernel
theorem dX7_serves_85 : decode cX7_serves 85 = .ok (.iload_n 1, 1) := by decide +kernel
theorem dX7_serves_86 : decode cX7_serves 86 = .ok (.iastore, 1) := by decide +kernel
theorem dX7_serves_87 : decode cX7_serves 87 = .ok (.iinc 3 1, 3) := by decide +kernel
theorem dX7_serves_90 : decode cX7_serves 90 = .ok (.iinc 5 1, 3) := by decide +kernel
theorem dX7_serves_93 : decode cX7_serves 93 = .ok (.goto (-68), 3) := by decide +kernel
theorem dX7_serves_96 : decode cX7_serves 96 = .ok (.iinc 4 1, 3) := by decide +kernel
theorem dX7_serves_99 : decode cX7_serves 99 = .ok (.goto (-83), 3) := by decide +kernel
theorem dX7_serves_102 : decode cX7_serves 102 = .ok (.iload_n 3, 1) := by decide +kernel
theorem dX7_serves_103 : decode cX7_serves 103 = .ok (.ireturn, 1) := by decide +kernel
theorem dX7_serve_0 : decode cX7_serve 0 = .ok (.aload_n 0, 1) := by decide +kernel
theorem dX7_serve_1 : decode cX7_serve 1 = .ok (.iconst 0, 1) := by decide +kernel
theorem dX7_serve_2 : decode cX7_serve 2 = .ok (.putfield 108, 3) := by decide +kernel
theorem dX7_serve_5 : decode cX7_serve 5 = .ok (.iconst 0, 1) := by decide +kernel
theorem dX7_serve_6 : decode cX7_serve 6 = .ok (.istore_n 1, 1) := by decide +kernel
theorem dX7_serve_7 : decode cX7_serve 7 = .ok (.iconst 0, 1) := by decide +kernel
theorem dX7_serve_8 : decode cX7_serve 8 = .ok (.istore_n 2, 1) := by decide +kernel
theorem dX7_serve_9 : decode cX7_serve 9 = .ok (.iload_n 2, 1) := by decide +kernel
theorem dX7_serve_10 : decode cX7_serve 10 = .ok (.aload_n 0, 1) := by decide +kernel
theorem dX7_serve_11 : decode cX7_serve 11 = .ok (.getfield 186, 3) := by decide +kernel
theorem dX7_serve_14 : decode cX7_serve 14 = .ok (.if_icmp .ge 17, 3) := by decide +kernel
theorem dX7_serve_17 : decode cX7_serve 17 = .ok (.iload_n 1, 1) := by decide +kernel
theorem dX7_serve_18 : decode cX7_serve 18 = .ok (.aload_n 0, 1) := by decide +kernel
theorem dX7_serve_19 : decode cX7_serve 19 = .ok (.iload_n 2, 1) := by decide +kernel
theorem dX7_serve_20 : decode cX7_serve 20 = .ok (.invokevirtual 198, 3) := by decide +kernel
theorem dX7_serve_23 : decode cX7_serve 23 = .ok (.iadd, 1) := by decide +kernel
theorem dX7_serve_24 : decode cX7_serve 24 = .ok (.istore_n 1, 1) := by decide +kernel
theorem dX7_serve_25 : decode cX7_serve 25 = .ok (.iinc 2 1, 3) := by decide +kernel
theorem dX7_serve_28 : decode cX7_serve 28 = .ok (.goto (-19), 3) := by decide +kernel
theorem dX7_serve_31 : decode cX7_serve 31 = .ok (.iload_n 1, 1) := by decide +kernel
theorem dX7_serve_32 : decode cX7_serve 32 = .ok (.ireturn, 1) := by decide +kernel
theorem dX7_isBooking_0 : decode cX7_isBooking 0 = .ok (.iload_n 1, 1) := by decide +kernel
theorem dX7_isBooking_1 : decode cX7_isBooking 1 = .ok (.iconst 0, 1) := by decide +kernel
theorem dX7_isBooking_2 : decode cX7_isBooking 2 = .ok (.aload_n 0, 1) := by decide +kernel
theorem dX7_isBooking_3 : decode cX7_isBooking 3 = .ok (.getfield 186, 3) := by decide +kernel
theorem dX7_isBooking_6 : decode cX7_isBooking 6 = .ok (.iconst 1, 1) := by decide +kernel
theorem dX7_isBooking_7 : decode cX7_isBooking 7 = .ok (.isub, 1) := by decide +kernel
theorem dX7_isBooking_8 : decode cX7_isBooking 8 = .ok (.invokestatic 111, 3) := by decide +kernel
theorem dX7_isBooking_11 : decode cX7_isBooking 11 = .ok (.ireturn, 1) := by decide +kernel
theorem dX7_end_0 : decode cX7_end 0 = .ok (.aload_n 0, 1) := by decide +kernel
theorem dX7_end_1 : decode cX7_end 1 = .ok (.iload_n 1, 1) := by decide +kernel
theorem dX7_end_2 : decode cX7_end 2 = .ok (.invokevirtual 201, 3) := by decide +kernel
theorem dX7_end_5 : decode cX7_end 5 = .ok (.istore_n 2, 1) := by decide +kernel
theorem dX7_end_6 : decode cX7_end 6 = .ok (.aload_n 0, 1) := by decide +kernel
theorem dX7_end_7 : decode cX7_end 7 = .ok (.iload_n 2, 1) := by decide +kernel
theorem dX7_end_8 : decode cX7_end 8 = .ok (.ifCond .ne 7, 3) := by decide +kernel
theorem dX7_end_11 : decode cX7_end 11 = .ok (.iconst 1, 1) := by decide +kernel
theorem dX7_end_12 : decode cX7_end 12 = .ok (.goto 17, 3) := by decide +kernel
theorem dX7_end_15 : decode cX7_end 15 = .ok (.aload_n 0, 1) := by decide +kernel
theorem dX7_end_16 : decode cX7_end 16 = .ok (.getfield 90, 3) := by decide +kernel
theorem dX7_end_19 : decode cX7_end 19 = .ok (.iload_n 1, 1) := by decide +kernel
theorem dX7_end_20 : decode cX7_end 20 = .ok (.baload, 1) := by decide +kernel
theorem dX7_end_21 : decode cX7_end 21 = .ok (.ifCond .eq 7, 3) := by decide +kernel
theorem dX7_end_24 : decode cX7_end 24 = .ok (.iconst 2, 1) := by decide +kernel
theorem dX7_end_25 : decode cX7_end 25 = .ok (.goto 4, 3) := by decide +kernel
theorem dX7_end_28 : decode cX7_end 28 = .ok (.iconst 0, 1) := by decide +kernel
theorem dX7_end_29 : decode cX7_end 29 = .ok (.invokevirtual 125, 3) := by decide +kernel
theorem dX7_end_32 : decode cX7_end 32 = .ok (.ifCond .ne 5, 3) := by decide +kernel
theorem dX7_end_35 : decode cX7_end 35 = .ok (.iconst 0, 1) := by decide +kernel
theorem dX7_end_36 : decode cX7_end 36 = .ok (.ireturn, 1) := by decide +kernel
theorem dX7_end_37 : decode cX7_end 37 = .ok (.aload_n 0, 1) := by decide +kernel
theorem dX7_end_38 : decode cX7_end 38 = .ok (.iload_n 1, 1) := by decide +kernel
theorem dX7_end_39 : decode cX7_end 39 = .ok (.invokevirtual 189, 3) := by decide +kernel
theorem dX7_end_42 : decode cX7_end 42 = .ok (.istore_n 3, 1) := by decide +kernel
theorem dX7_end_43 : decode cX7_end 43 = .ok (.iconst 0, 1) := by decide +kernel
theorem dX7_end_44 : decode cX7_end 44 = .ok (.istore 4, 2) := by decide +kernel
theorem dX7_end_46 : decode cX7_end 46 = .ok (.iload 4, 2) := by decide +kernel
theorem dX7_end_48 : decode cX7_end 48 = .ok (.aload_n 0, 1) := by decide +kernel
theorem dX7_end_49 : decode cX7_end 49 = .ok (.getfield 115, 3) := by decide +kernel
theorem dX7_end_52 : decode cX7_end 52 = .ok (.if_icmp .ge 36, 3) := by decide +kernel
theorem dX7_end_55 : decode cX7_end 55 = .ok (.aload_n 0, 1) := by decide +kernel
theorem dX7_end_56 : decode cX7_end 56 = .ok (.getfield 29, 3) := by decide +kernel
theorem dX7_end_59 : decode cX7_end 59 = .ok (.iload 4, 2) := by decide +kernel
theorem dX7_end_61 : decode cX7_end 61 = .ok (.iaload, 1) := by decide +kernel
theorem dX7_end_62 : decode cX7_end 62 = .ok (.iload_n 1, 1) := by decide +kernel
theorem dX7_end_63 : decode cX7_end 63 = .ok (.if_icmp .ne 19, 3) := by decide +kernel
theorem dX7_end_66 : decode cX7_end 66 = .ok (.aload_n 0, 1) := by decide +kernel
theorem dX7_end_67 : decode cX7_end 67 = .ok (.getfield 29, 3) := by decide +kernel
theorem dX7_end_70 : decode cX7_end 70 = .ok (.iload 4, 2) := by decide +kernel
theorem dX7_end_72 : decode cX7_end 72 = .ok (.iconst (-1), 1) := by decide +kernel
theorem dX7_end_73 : decode cX7_end 73 = .ok (.iastore, 1) := by decide +kernel
theorem dX7_end_74 : decode cX7_end 74 = .ok (.aload_n 0, 1) := by decide +kernel
theorem dX7_end_75 : decode cX7_end 75 = .ok (.getfield 22, 3) := by decide +kernel
theorem dX7_end_78 : decode cX7_end 78 = .ok (.iload 4, 2) := by decide +kernel
theorem dX7_end_80 : decode cX7_end 80 = .ok (.iconst 1, 1) := by decide +kernel
theorem dX7_end_81 : decode cX7_end 81 = .ok (.bastore, 1) := by decide +kernel
theorem dX7_end_82 : decode cX7_end 82 = .ok (.iinc 4 1, 3) := by decide +kernel
theorem dX7_end_85 : decode cX7_end 85 = .ok (.goto (-39), 3) := by decide +kernel
theorem dX7_end_88 : decode cX7_end 88 = .ok (.aload_n 0, 1) := by decide +kernel
theorem dX7_end_89 : decode cX7_end 89 = .ok (.getfield 90, 3) := by decide +kernel
theorem dX7_end_92 : decode cX7_end 92 = .ok (.iload_n 1, 1) := by decide +kernel
theorem dX7_end_93 : decode cX7_end 93 = .ok (.iconst 1, 1) := by decide +kernel
theorem dX7_end_94 : decode cX7_end 94 = .ok (.bastore, 1) := by decide +kernel
theorem dX7_end_95 : decode cX7_end 95 = .ok (.iload_n 3, 1) := by decide +kernel
theorem dX7_end_96 : decode cX7_end 96 = .ok (.ireturn, 1) := by decide +kernel
theorem dX7_lacksAt_0 : decode cX7_lacksAt 0 = .ok (.iconst 0, 1) := by decide +kernel
theorem dX7_lacksAt_1 : decode cX7_lacksAt 1 = .ok (.istore_n 3, 1) := by decide +kernel
theorem dX7_lacksAt_2 : decode cX7_lacksAt 2 = .ok (.iconst 0, 1) := by decide +kernel
theorem dX7_lacksAt_3 : decode cX7_lacksAt 3 = .ok (.istore 4, 2) := by decide +kernel
theorem dX7_lacksAt_5 : decode cX7_lacksAt 5 = .ok (.iload 4, 2) := by decide +kernel
theorem dX7_lacksAt_7 : decode cX7_lacksAt 7 = .ok (.aload_n 0, 1) := by decide +kernel
theorem dX7_lacksAt_8 : decode cX7_lacksAt 8 = .ok (.getfield 186, 3) := by decide +kernel
theorem dX7_lacksAt_11 : decode cX7_lacksAt 11 = .ok (.if_icmp .ge 44, 3) := by decide +kernel
theorem dX7_lacksAt_14 : decode cX7_lacksAt 14 = .ok (.iload_n 3, 1) := by decide +kernel
theorem dX7_lacksAt_15 : decode cX7_lacksAt 15 = .ok (.aload_n 0, 1) := by decide +kernel
theorem dX7_lacksAt_16 : decode cX7_lacksAt 16 = .ok (.getfield 84, 3) := by decide +kernel
theorem dX7_lacksAt_19 : decode cX7_lacksAt 19 = .ok (.iload 4, 2) := by decide +kernel
theorem dX7_lacksAt_21 : decode cX7_lacksAt 21 = .ok (.iaload, 1) := by decide +kernel
theorem dX7_lacksAt_22 : decode cX7_lacksAt 22 = .ok (.iload_n 1, 1) := by decide +kernel
theorem dX7_lacksAt_23 : decode cX7_lacksAt 23 = .ok (.if_icmp .ne 23, 3) := by decide +kernel
theorem dX7_lacksAt_26 : decode cX7_lacksAt 26 = .ok (.aload_n 0, 1) := by decide +kernel
theorem dX7_lacksAt_27 : decode cX7_lacksAt 27 = .ok (.getfield 81, 3) := by decide +kernel
theorem dX7_lacksAt_30 : decode cX7_lacksAt 30 = .ok (.iload 4, 2) := by decide +kernel
theorem dX7_lacksAt_32 : decode cX7_lacksAt 32 = .ok (.iaload, 1) := by decide +kernel
theorem dX7_lacksAt_33 : decode cX7_lacksAt 33 = .ok (.iload_n 2, 1) := by decide +kernel
theorem dX7_lacksAt_34 : decode cX7_lacksAt 34 = .ok (.if_icmp .ne 12, 3) := by decide +kernel
theorem dX7_lacksAt_37 : decode cX7_lacksAt 37 = .ok (.aload_n 0, 1) := by decide +kernel
theorem dX7_lacksAt_38 : decode cX7_lacksAt 38 = .ok (.iload 4, 2) := by decide +kernel
theorem dX7_lacksAt_40 : decode cX7_lacksAt 40 = .ok (.invokevirtual 192, 3) := by decide +kernel
theorem dX7_lacksAt_43 : decode cX7_lacksAt 43 = .ok (.goto 4, 3) := by decide +kernel
theorem dX7_lacksAt_46 : decode cX7_lacksAt 46 = .ok (.iconst 0, 1) := by decide +kernel
theorem dX7_lacksAt_47 : decode cX7_lacksAt 47 = .ok (.iadd, 1) := by decide +kernel
theorem dX7_lacksAt_48 : decode cX7_lacksAt 48 = .ok (.istore_n 3, 1) := by decide +kernel
theorem dX7_lacksAt_49 : decode cX7_lacksAt 49 = .ok (.iinc 4 1, 3) := by decide +kernel
theorem dX7_lacksAt_52 : decode cX7_lacksAt 52 = .ok (.goto (-47), 3) := by decide +kernel
theorem dX7_lacksAt_55 : decode cX7_lacksAt 55 = .ok (.iload_n 3, 1) := by decide +kernel
theorem dX7_lacksAt_56 : decode cX7_lacksAt 56 = .ok (.ireturn, 1) := by decide +kernel
theorem dX7_lacksOf_0 : decode cX7_lacksOf 0 = .ok (.iconst 0, 1) := by decide +kernel
theorem dX7_lacksOf_1 : decode cX7_lacksOf 1 = .ok (.istore_n 2, 1) := by decide +kernel
theorem dX7_lacksOf_2 : decode cX7_lacksOf 2 = .ok (.iconst 0, 1) := by decide +kernel
theorem dX7_lacksOf_3 : decode cX7_lacksOf 3 = .ok (.istore_n 3, 1) := by decide +kernel
theorem dX7_lacksOf_4 : decode cX7_lacksOf 4 = .ok (.iload_n 3, 1) := by decide +kernel
theorem dX7_lacksOf_5 : decode cX7_lacksOf 5 = .ok (.bipush 6, 2) := by decide +kernel
theorem dX7_lacksOf_7 : decode cX7_lacksOf 7 = .ok (.if_icmp .ge 18, 3) := by decide +kernel
theorem dX7_lacksOf_10 : decode cX7_lacksOf 10 = .ok (.iload_n 2, 1) := by decide +kernel
theorem dX7_lacksOf_11 : decode cX7_lacksOf 11 = .ok (.aload_n 0, 1) := by decide +kernel
theorem dX7_lacksOf_12 : decode cX7_lacksOf 12 = .ok (.iload_n 1, 1) := by decide +kernel
theorem dX7_lacksOf_13 : decode cX7_lacksOf 13 = .ok (.iload_n 3, 1) := by decide +kernel
theorem dX7_lacksOf_14 : decode cX7_lacksOf 14 = .ok (.invokevirtual 204, 3) := by decide +kernel
theorem dX7_lacksOf_17 : decode cX7_lacksOf 17 = .ok (.iadd, 1) := by decide +kernel
theorem dX7_lacksOf_18 : decode cX7_lacksOf 18 = .ok (.istore_n 2, 1) := by decide +kernel
theorem dX7_lacksOf_19 : decode cX7_lacksOf 19 = .ok (.iinc 3 1, 3) := by decide +kernel
theorem dX7_lacksOf_22 : decode cX7_lacksOf 22 = .ok (.goto (-18), 3) := by decide +kernel
theorem dX7_lacksOf_25 : decode cX7_lacksOf 25 = .ok (.iload_n 2, 1) := by decide +kernel
theorem dX7_lacksOf_26 : decode cX7_lacksOf 26 = .ok (.ireturn, 1) := by decide +kernel
theorem dX7_laysOut_0 : decode cX7_laysOut 0 = .ok (.aload_n 0, 1) := by decide +kernel
theorem dX7_laysOut_1 : decode cX7_laysOut 1 = .ok (.iconst 0, 1) := by decide +kernel
theorem dX7_laysOut_2 : decode cX7_laysOut 2 = .ok (.putfield 207, 3) := by decide +kernel
theorem dX7_laysOut_5 : decode cX7_laysOut 5 = .ok (.iconst 0, 1) := by decide +kernel
theorem dX7_laysOut_6 : decode cX7_laysOut 6 = .ok (.istore_n 2, 1) := by decide +kernel
theorem dX7_laysOut_7 : decode cX7_laysOut 7 = .ok (.iload_n 2, 1) := by decide +kernel
theorem dX7_laysOut_8 : decode cX7_laysOut 8 = .ok (.bipush 6, 2) := by decide +kernel
theorem dX7_laysOut_10 : decode cX7_laysOut 10 = .ok (.if_icmp .ge 46, 3) := by decide +kernel
theorem dX7_laysOut_13 : decode cX7_laysOut 13 = .ok (.aload_n 0, 1) := by decide +kernel
theorem dX7_laysOut_14 : decode cX7_laysOut 14 = .ok (.iload_n 1, 1) := by decide +kernel
theorem dX7_laysOut_15 : decode cX7_laysOut 15 = .ok (.iload_n 2, 1) := by decide +kernel
theorem dX7_laysOut_16 : decode cX7_laysOut 16 = .ok (.invokevirtual 204, 3) := by decide +kernel
theorem dX7_laysOut_19 : decode cX7_laysOut 19 = .ok (.istore_n 3, 1) := by decide +kernel
theorem dX7_laysOut_20 : decode cX7_laysOut 20 = .ok (.iload_n 3, 1) := by decide +kernel
theorem dX7_laysOut_21 : decode cX7_laysOut 21 = .ok (.ifCond .le 29, 3) := by decide +kernel
theorem dX7_laysOut_24 : decode cX7_laysOut 24 = .ok (.aload_n 0, 1) := by decide +kernel
theorem dX7_laysOut_25 : decode cX7_laysOut 25 = .ok (.getfield 93, 3) := by decide +kernel
theorem dX7_laysOut_28 : decode cX7_laysOut 28 = .ok (.aload_n 0, 1) := by decide +kernel
theorem dX7_laysOut_29 : decode cX7_laysOut 29 = .ok (.getfield 207, 3) := by decide +kernel
theorem dX7_laysOut_32 : decode cX7_laysOut 32 = .ok (.iload_n 2, 1) := by decide +kernel
theorem dX7_laysOut_33 : decode cX7_laysOut 33 = .ok (.iastore, 1) := by decide +kernel
theorem dX7_laysOut_34 : decode cX7_laysOut 34 = .ok (.aload_n 0, 1) := by decide +kernel
theorem dX7_laysOut_35 : decode cX7_laysOut 35 = .ok (.dup, 1) := by decide +kernel
theorem dX7_laysOut_36 : decode cX7_laysOut 36 = .ok (.getfield 207, 3) := by decide +kernel
theorem dX7_laysOut_39 : decode cX7_laysOut 39 = .ok (.iconst 1, 1) := by decide +kernel
theorem dX7_laysOut_40 : decode cX7_laysOut 40 = .ok (.iadd, 1) := by decide +kernel
theorem dX7_laysOut_41 : decode cX7_laysOut 41 = .ok (.putfield 207, 3) := by decide +kernel
theorem dX7_laysOut_44 : decode cX7_laysOut 44 = .ok (.iinc 3 (-1), 3) := by decide +kernel
theorem dX7_laysOut_47 : decode cX7_laysOut 47 = .ok (.goto (-27), 3) := by decide +kernel
theorem dX7_laysOut_50 : decode cX7_laysOut 50 = .ok (.iinc 2 1, 3) := by decide +kernel
theorem dX7_laysOut_53 : decode cX7_laysOut 53 = .ok (.goto (-46), 3) := by decide +kernel
theorem dX7_laysOut_56 : decode cX7_laysOut 56 = .ok (.aload_n 0, 1) := by decide +kernel
theorem dX7_laysOut_57 : decode cX7_laysOut 57 = .ok (.iconst 0, 1) := by decide +kernel
theorem dX7_laysOut_58 : decode cX7_laysOut 58 = .ok (.putfield 210, 3) := by decide +kernel
theorem dX7_laysOut_61 : decode cX7_laysOut 61 = .ok (.iconst 0, 1) := by decide +kernel
theorem dX7_laysOut_62 : decode cX7_laysOut 62 = .ok (.istore_n 2, 1) := by decide +kernel
theorem dX7_laysOut_63 : decode cX7_laysOut 63 = .ok (.iload_n 2, 1) := by decide +kernel
theorem dX7_laysOut_64 : decode cX7_laysOut 64 = .ok (.aload_n 0, 1) := by decide +kernel
theorem dX7_laysOut_65 : decode cX7_laysOut 65 = .ok (.getfield 115, 3) := by decide +kernel
theorem dX7_laysOut_68 : decode cX7_laysOut 68 = .ok (.if_icmp .ge 82, 3) := by decide +kernel
theorem dX7_laysOut_71 : decode cX7_laysOut 71 = .ok (.aload_n 0, 1) := by decide +kernel
theorem dX7_laysOut_72 : decode cX7_laysOut 72 = .ok (.getfield 13, 3) := by decide +kernel
theorem dX7_laysOut_75 : decode cX7_laysOut 75 = .ok (.iload_n 2, 1) := by decide +kernel
theorem dX7_laysOut_76 : decode cX7_laysOut 76 = .ok (.iaload, 1) := by decide +kernel
theorem dX7_laysOut_77 : decode cX7_laysOut 77 = .ok (.iload_n 1, 1) := by decide +kernel
theorem dX7_laysOut_78 : decode cX7_laysOut 78 = .ok (.if_icmp .ne 66, 3) := by decide +kernel
theorem dX7_laysOut_81 : decode cX7_laysOut 81 = .ok (.aload_n 0, 1) := by decide +kernel
theorem dX7_laysOut_82 : decode cX7_laysOut 82 = .ok (.iload_n 2, 1) := by decide +kernel
theorem dX7_laysOut_83 : decode cX7_laysOut 83 = .ok (.invokevirtual 195, 3) := by decide +kernel
theorem dX7_laysOut_86 : decode cX7_laysOut 86 = .ok (.ifCond .eq 58, 3) := by decide +kernel
theorem dX7_laysOut_89 : decode cX7_laysOut 89 = .ok (.aload_n 0, 1) := by decide +kernel
theorem dX7_laysOut_90 : decode cX7_laysOut 90 = .ok (.iload_n 1, 1) := by decide +kernel
theorem dX7_laysOut_91 : decode cX7_laysOut 91 = .ok (.aload_n 0, 1) := by decide +kernel
theorem dX7_laysOut_92 : decode cX7_laysOut 92 = .ok (.iload_n 2, 1) := by decide +kernel
theorem dX7_laysOut_93 : decode cX7_laysOut 93 = .ok (.aload_n 0, 1) := by decide +kernel
theorem dX7_laysOut_94 : decode cX7_laysOut 94 = .ok (.getfield 152, 3) := by decide +kernel
theorem dX7_laysOut_97 : decode cX7_laysOut 97 = .ok (.invokevirtual 158, 3) := by decide +kernel
theorem dX7_laysOut_100 : decode cX7_laysOut 100 = .ok (.invokevirtual 204, 3) := by decide +kernel
theorem dX7_laysOut_103 : decode cX7_laysOut 103 = .ok (.ifCond .ne 41, 3) := by decide +kernel
theorem dX7_laysOut_106 : decode cX7_laysOut 106 = .ok (.aload_n 0, 1) := by decide +kernel
theorem dX7_laysOut_107 : decode cX7_laysOut 107 = .ok (.getfield 96, 3) := by decide +kernel
theorem dX7_laysOut_110 : decode cX7_laysOut 110 = .ok (.aload_n 0, 1) := by decide +kernel
theorem dX7_laysOut_111 : decode cX7_laysOut 111 = .ok (.getfield 210, 3) := by decide +kernel
theorem dX7_laysOut_114 : decode cX7_laysOut 114 = .ok (.iload_n 2, 1) := by decide +kernel
theorem dX7_laysOut_115 : decode cX7_laysOut 115 = .ok (.iastore, 1) := by decide +kernel
theorem dX7_laysOut_116 : decode cX7_laysOut 116 = .ok (.aload_n 0, 1) := by decide +kernel
theorem dX7_laysOut_117 : decode cX7_laysOut 117 = .ok (.getfield 99, 3) := by decide +kernel
theorem dX7_laysOut_120 : decode cX7_laysOut 120 = .ok (.aload_n 0, 1) := by decide +kernel
theorem dX7_laysOut_121 : decode cX7_laysOut 121 = .ok (.getfield 210, 3) := by decide +kernel
theorem dX7_laysOut_124 : decode cX7_laysOut 124 = .ok (.aload_n 0, 1) := by decide +kernel
theorem dX7_laysOut_125 : decode cX7_laysOut 125 = .ok (.iload_n 2, 1) := by decide +kernel
theorem dX7_laysOut_126 : decode cX7_laysOut 126 = .ok (.aload_n 0, 1) := by decide +kernel
theorem dX7_laysOut_127 : decode cX7_laysOut 127 = .ok (.getfield 152, 3) := by decide +kernel
theorem dX7_laysOut_130 : decode cX7_laysOut 130 = .ok (.invokevirtual 158, 3) := by decide +kernel
theorem dX7_laysOut_133 : decode cX7_laysOut 133 = .ok (.iastore, 1) := by decide +kernel
theorem dX7_laysOut_134 : decode cX7_laysOut 134 = .ok (.aload_n 0, 1) := by decide +kernel
theorem dX7_laysOut_135 : decode cX7_laysOut 135 = .ok (.dup, 1) := by decide +kernel
theorem dX7_laysOut_136 : decode cX7_laysOut 136 = .ok (.getfield 210, 3) := by decide +kernel
theorem dX7_laysOut_139 : decode cX7_laysOut 139 = .ok (.iconst 1, 1) := by decide +kernel
theorem dX7_laysOut_140 : decode cX7_laysOut 140 = .ok (.iadd, 1) := by decide +kernel
theorem dX7_laysOut_141 : decode cX7_laysOut 141 = .ok (.putfield 210, 3) := by decide +kernel
theorem dX7_laysOut_144 : decode cX7_laysOut 144 = .ok (.iinc 2 1, 3) := by decide +kernel
theorem dX7_laysOut_147 : decode cX7_laysOut 147 = .ok (.goto (-84), 3) := by decide +kernel
theorem dX7_laysOut_150 : decode cX7_laysOut 150 = .ok (.return_, 1) := by decide +kernel
theorem dX7_bits_0 : decode cX7_bits 0 = .ok (.iconst 0, 1) := by decide +kernel
theorem dX7_bits_1 : decode cX7_bits 1 = .ok (.istore_n 1, 1) := by decide +kernel
theorem dX7_bits_2 : decode cX7_bits 2 = .ok (.iload_n 0, 1) := by decide +kernel
theorem dX7_bits_3 : decode cX7_bits 3 = .ok (.istore_n 2, 1) := by decide +kernel
theorem dX7_bits_4 : decode cX7_bits 4 = .ok (.iload_n 2, 1) := by decide +kernel
theorem dX7_bits_5 : decode cX7_bits 5 = .ok (.ifCond .le 16, 3) := by decide +kernel
theorem dX7_bits_8 : decode cX7_bits 8 = .ok (.iload_n 1, 1) := by decide +kernel
theorem dX7_bits_9 : decode cX7_bits 9 = .ok (.iload_n 2, 1) := by decide +kernel
theorem dX7_bits_10 : decode cX7_bits 10 = .ok (.iconst 1, 1) := by decide +kernel
theorem dX7_bits_11 : decode cX7_bits 11 = .ok (.iand, 1) := by decide +kernel
theorem dX7_bits_12 : decode cX7_bits 12 = .ok (.iadd, 1) := by decide +kernel
theorem dX7_bits_13 : decode cX7_bits 13 = .ok (.istore_n 1, 1) := by decide +kernel
theorem dX7_bits_14 : decode cX7_bits 14 = .ok (.iload_n 2, 1) := by decide +kernel
theorem dX7_bits_15 : decode cX7_bits 15 = .ok (.iconst 1, 1) := by decide +kernel
theorem dX7_bits_16 : decode cX7_bits 16 = .ok (.ishr, 1) := by decide +kernel
theorem dX7_bits_17 : decode cX7_bits 17 = .ok (.istore_n 2, 1) := by decide +kernel
theorem dX7_bits_18 : decode cX7_bits 18 = .ok (.goto (-14), 3) := by decide +kernel
theorem dX7_bits_21 : decode cX7_bits 21 = .ok (.iload_n 1, 1) := by decide +kernel
theorem dX7_bits_22 : decode cX7_bits 22 = .ok (.ireturn, 1) := by decide +kernel
theorem dX7_isChosen_0 : decode cX7_isChosen 0 = .ok (.iconst 0, 1) := by decide +kernel
theorem dX7_isChosen_1 : decode cX7_isChosen 1 = .ok (.istore_n 3, 1) := by decide +kernel
theorem dX7_isChosen_2 : decode cX7_isChosen 2 = .ok (.iconst 0, 1) := by decide +kernel
theorem dX7_isChosen_3 : decode cX7_isChosen 3 = .ok (.istore 4, 2) := by decide +kernel
theorem dX7_isChosen_5 : decode cX7_isChosen 5 = .ok (.iload 4, 2) := by decide +kernel
theorem dX7_isChosen_7 : decode cX7_isChosen 7 = .ok (.iload_n 2, 1) := by decide +kernel
theorem dX7_isChosen_8 : decode cX7_isChosen 8 = .ok (.if_icmp .ge 30, 3) := by decide +kernel
theorem dX7_isChosen_11 : decode cX7_isChosen 11 = .ok (.iload_n 3, 1) := by decide +kernel
theorem dX7_isChosen_12 : decode cX7_isChosen 12 = .ok (.ifCond .ne 14, 3) := by decide +kernel
theorem dX7_isChosen_15 : decode cX7_isChosen 15 = .ok (.aload_n 0, 1) := by decide +kernel
theorem dX7_isChosen_16 : decode cX7_isChosen 16 = .ok (.getfield 102, 3) := by decide +kernel
theorem dX7_isChosen_19 : decode cX7_isChosen 19 = .ok (.iload 4, 2) := by decide +kernel
theorem dX7_isChosen_21 : decode cX7_isChosen 21 = .ok (.iaload, 1) := by decide +kernel
theorem dX7_isChosen_22 : decode cX7_isChosen 22 = .ok (.iload_n 1, 1) := by decide +kernel
theorem dX7_isChosen_23 : decode cX7_isChosen 23 = .ok (.if_icmp .ne 7, 3) := by decide +kernel
theorem dX7_isChosen_26 : decode cX7_isChosen 26 = .ok (.iconst 1, 1) := by decide +kernel
theorem dX7_isChosen_27 : decode cX7_isChosen 27 = .ok (.goto 4, 3) := by decide +kernel
theorem dX7_isChosen_30 : decode cX7_isChosen 30 = .ok (.iconst 0, 1) := by decide +kernel
theorem dX7_isChosen_31 : decode cX7_isChosen 31 = .ok (.istore_n 3, 1) := by decide +kernel
theorem dX7_isChosen_32 : decode cX7_isChosen 32 = .ok (.iinc 4 1, 3) := by decide +kernel
theorem dX7_isChosen_35 : decode cX7_isChosen 35 = .ok (.goto (-30), 3) := by decide +kernel
theorem dX7_isChosen_38 : decode cX7_isChosen 38 = .ok (.iload_n 3, 1) := by decide +kernel
theorem dX7_isChosen_39 : decode cX7_isChosen 39 = .ok (.ireturn, 1) := by decide +kernel
theorem dX7_bringing_0 : decode cX7_bringing 0 = .ok (.aload_n 0, 1) := by decide +kernel
theorem dX7_bringing_1 : decode cX7_bringing 1 = .ok (.getfield 7, 3) := by decide +kernel
theorem dX7_bringing_4 : decode cX7_bringing 4 = .ok (.bipush 6, 2) := by decide +kernel
theorem dX7_bringing_6 : decode cX7_bringing 6 = .ok (.aload_n 0, 1) := by decide +kernel
theorem dX7_bringing_7 : decode cX7_bringing 7 = .ok (.getfield 99, 3) := by decide +kernel
theorem dX7_bringing_10 : decode cX7_bringing 10 = .ok (.iload_n 1, 1) := by decide +kernel
theorem dX7_bringing_11 : decode cX7_bringing 11 = .ok (.iaload, 1) := by decide +kernel
theorem dX7_bringing_12 : decode cX7_bringing 12 = .ok (.imul, 1) := by decide +kernel
theorem dX7_bringing_13 : decode cX7_bringing 13 = .ok (.aload_n 0, 1) := by decide +kernel
theorem dX7_bringing_14 : decode cX7_bringing 14 = .ok (.getfield 93, 3) := by decide +kernel
theorem dX7_bringing_17 : decode cX7_bringing 17 = .ok (.iload_n 2, 1) := by decide +kernel
theorem dX7_bringing_18 : decode cX7_bringing 18 = .ok (.iaload, 1) := by decide +kernel
theorem dX7_bringing_19 : decode cX7_bringing 19 = .ok (.iadd, 1) := by decide +kernel
theorem dX7_bringing_20 : decode cX7_bringing 20 = .ok (.iaload, 1) := by decide +kernel
theorem dX7_bringing_21 : decode cX7_bringing 21 = .ok (.ireturn, 1) := by decide +kernel
theorem dX7_leastFrom_0 : decode cX7_leastFrom 0 = .ok (.iconst 0, 1) := by decide +kernel
theorem dX7_leastFrom_1 : decode cX7_leastFrom 1 = .ok (.istore_n 2, 1) := by decide +kernel
theorem dX7_leastFrom_2 : decode cX7_leastFrom 2 = .ok (.iconst 0, 1) := by decide +kernel
theorem dX7_leastFrom_3 : decode cX7_leastFrom 3 = .ok (.istore_n 3, 1) := by decide +kernel
theorem dX7_leastFrom_4 : decode cX7_leastFrom 4 = .ok (.iconst 0, 1) := by decide +kernel
theorem dX7_leastFrom_5 : decode cX7_leastFrom 5 = .ok (.istore 4, 2) := by decide +kernel
theorem dX7_leastFrom_7 : decode cX7_leastFrom 7 = .ok (.iload 4, 2) := by decide +kernel
theorem dX7_leastFrom_9 : decode cX7_leastFrom 9 = .ok (.iload_n 1, 1) := by decide +kernel
theorem dX7_leastFrom_10 : decode cX7_leastFrom 10 = .ok (.if_icmp .ge 59, 3) := by decide +kernel
theorem dX7_leastFrom_13 : decode cX7_leastFrom 13 = .ok (.iload_n 2, 1) := by decide +kernel
theorem dX7_leastFrom_14 : decode cX7_leastFrom 14 = .ok (.aload_n 0, 1) := by decide +kernel
theorem dX7_leastFrom_15 : decode cX7_leastFrom 15 = .ok (.getfield 102, 3) := by decide +kernel
theorem dX7_leastFrom_18 : decode cX7_leastFrom 18 = .ok (.iload 4, 2) := by decide +kernel
theorem dX7_leastFrom_20 : decode cX7_leastFrom 20 = .ok (.iaload, 1) := by decide +kernel
theorem dX7_leastFrom_21 : decode cX7_leastFrom 21 = .ok (.iconst (-1), 1) := by decide +kernel
theorem dX7_leastFrom_22 : decode cX7_leastFrom 22 = .ok (.if_icmp .ne 7, 3) := by decide +kernel
theorem dX7_leastFrom_25 : decode cX7_leastFrom 25 = .ok (.iconst 0, 1) := by decide +kernel
theorem dX7_leastFrom_26 : decode cX7_leastFrom 26 = .ok (.goto 4, 3) := by decide +kernel
theorem dX7_leastFrom_29 : decode cX7_leastFrom 29 = .ok (.iconst 1, 1) := by decide +kernel
theorem dX7_leastFrom_30 : decode cX7_leastFrom 30 = .ok (.iadd, 1) := by decide +kernel
theorem dX7_leastFrom_31 : decode cX7_leastFrom 31 = .ok (.istore_n 2, 1) := by decide +kernel
theorem dX7_leastFrom_32 : decode cX7_leastFrom 32 = .ok (.iload_n 3, 1) := by decide +kernel
theorem dX7_leastFrom_33 : decode cX7_leastFrom 33 = .ok (.aload_n 0, 1) := by decide +kernel
theorem dX7_leastFrom_34 : decode cX7_leastFrom 34 = .ok (.getfield 102, 3) := by decide +kernel
theorem dX7_leastFrom_37 : decode cX7_leastFrom 37 = .ok (.iload 4, 2) := by decide +kernel
theorem dX7_leastFrom_39 : decode cX7_leastFrom 39 = .ok (.iaload, 1) := by decide +kernel
theorem dX7_leastFrom_40 : decode cX7_leastFrom 40 = .ok (.iconst (-1), 1) := by decide +kernel
theorem dX7_leastFrom_41 : decode cX7_leastFrom 41 = .ok (.if_icmp .ne 7, 3) := by decide +kernel
theorem dX7_leastFrom_44 : decode cX7_leastFrom 44 = .ok (.iconst 0, 1) := by decide +kernel
theorem dX7_leastFrom_45 : decode cX7_leastFrom 45 = .ok (.goto 16, 3) := by decide +kernel
theorem dX7_leastFrom_48 : decode cX7_leastFrom 48 = .ok (.aload_n 0, 1) := by decide +kernel
theorem dX7_leastFrom_49 : decode cX7_leastFrom 49 = .ok (.aload_n 0, 1) := by decide +kernel
theorem dX7_leastFrom_50 : decode cX7_leastFrom 50 = .ok (.getfield 102, 3) := by decide +kernel
theorem dX7_leastFrom_53 : decode cX7_leastFrom 53 = .ok (.iload 4, 2) := by decide +kernel
theorem dX7_leastFrom_55 : decode cX7_leastFrom 55 = .ok (.iaload, 1) := by decide +kernel
theorem dX7_leastFrom_56 : decode cX7_leastFrom 56 = .ok (.iload 4, 2) := by decide +kernel
theorem dX7_leastFrom_58 : decode cX7_leastFrom 58 = .ok (.invokevirtual 213, 3) := by decide +kernel
theorem dX7_leastFrom_61 : decode cX7_leastFrom 61 = .ok (.iadd, 1) := by decide +kernel
theorem dX7_leastFrom_62 : decode cX7_leastFrom 62 = .ok (.istore_n 3, 1) := by decide +kernel
theorem dX7_leastFrom_63 : decode cX7_leastFrom 63 = .ok (.iinc 4 1, 3) := by decide +kernel
theorem dX7_leastFrom_66 : decode cX7_leastFrom 66 = .ok (.goto (-59), 3) := by decide +kernel
theorem dX7_leastFrom_69 : decode cX7_leastFrom 69 = .ok (.iconst 0, 1) := by decide +kernel
theorem dX7_leastFrom_70 : decode cX7_leastFrom 70 = .ok (.istore 4, 2) := by decide +kernel
theorem dX7_leastFrom_72 : decode cX7_leastFrom 72 = .ok (.iload 4, 2) := by decide +kernel
theorem dX7_leastFrom_74 : decode cX7_leastFrom 74 = .ok (.iconst 1, 1) := by decide +kernel
theorem dX7_leastFrom_75 : decode cX7_leastFrom 75 = .ok (.aload_n 0, 1) := by decide +kernel
theorem dX7_leastFrom_76 : decode cX7_leastFrom 76 = .ok (.getfield 207, 3) := by decide +kernel
theorem dX7_leastFrom_79 : decode cX7_leastFrom 79 = .ok (.ishl, 1) := by decide +kernel
theorem dX7_leastFrom_80 : decode cX7_leastFrom 80 = .ok (.if_icmp .ge 27, 3) := by decide +kernel
theorem dX7_leastFrom_83 : decode cX7_leastFrom 83 = .ok (.aload_n 0, 1) := by decide +kernel
theorem dX7_leastFrom_84 : decode cX7_leastFrom 84 = .ok (.getfield 105, 3) := by decide +kernel
theorem dX7_leastFrom_87 : decode cX7_leastFrom 87 = .ok (.iload 4, 2) := by decide +kernel
theorem dX7_leastFrom_89 : decode cX7_leastFrom 89 = .ok (.iload 4, 2) := by decide +kernel
theorem dX7_leastFrom_91 : decode cX7_leastFrom 91 = .ok (.ifCond .ne 7, 3) := by decide +kernel
theorem dX7_leastFrom_94 : decode cX7_leastFrom 94 = .ok (.iconst 0, 1) := by decide +kernel
theorem dX7_leastFrom_95 : decode cX7_leastFrom 95 = .ok (.goto 5, 3) := by decide +kernel
theorem dX7_leastFrom_98 : decode cX7_leastFrom 98 = .ok (.ldc 216, 2) := by decide +kernel
theorem dX7_leastFrom_100 : decode cX7_leastFrom 100 = .ok (.iastore, 1) := by decide +kernel
theorem dX7_leastFrom_101 : decode cX7_leastFrom 101 = .ok (.iinc 4 1, 3) := by decide +kernel
theorem dX7_leastFrom_104 : decode cX7_leastFrom 104 = .ok (.goto (-32), 3) := by decide +kernel
theorem dX7_leastFrom_107 : decode cX7_leastFrom 107 = .ok (.iconst 0, 1) := by decide +kernel
theorem dX7_leastFrom_108 : decode cX7_leastFrom 108 = .ok (.istore 4, 2) := by decide +kernel
theorem dX7_leastFrom_110 : decode cX7_leastFrom 110 = .ok (.iload 4, 2) := by decide +kernel
theorem dX7_leastFrom_112 : decode cX7_leastFrom 112 = .ok (.aload_n 0, 1) := by decide +kernel
theorem dX7_leastFrom_113 : decode cX7_leastFrom 113 = .ok (.getfield 210, 3) := by decide +kernel
theorem dX7_leastFrom_116 : decode cX7_leastFrom 116 = .ok (.if_icmp .ge 129, 3) := by decide +kernel
theorem dX7_leastFrom_119 : decode cX7_leastFrom 119 = .ok (.iconst 1, 1) := by decide +kernel
theorem dX7_leastFrom_120 : decode cX7_leastFrom 120 = .ok (.aload_n 0, 1) := by decide +kernel
theorem dX7_leastFrom_121 : decode cX7_leastFrom 121 = .ok (.getfield 207, 3) := by decide +kernel
theorem dX7_leastFrom_124 : decode cX7_leastFrom 124 = .ok (.ishl, 1) := by decide +kernel
theorem dX7_leastFrom_125 : decode cX7_leastFrom 125 = .ok (.iconst 1, 1) := by decide +kernel
theorem dX7_leastFrom_126 : decode cX7_leastFrom 126 = .ok (.isub, 1) := by decide +kernel
theorem dX7_leastFrom_127 : decode cX7_leastFrom 127 = .ok (.istore 5, 2) := by decide +kernel
theorem dX7_leastFrom_129 : decode cX7_leastFrom 129 = .ok (.iload 5, 2) := by decide +kernel
theorem dX7_leastFrom_131 : decode cX7_leastFrom 131 = .ok (.ifCond .le 108, 3) := by decide +kernel
theorem dX7_leastFrom_134 : decode cX7_leastFrom 134 = .ok (.aload_n 0, 1) := by decide +kernel
theorem dX7_leastFrom_135 : decode cX7_leastFrom 135 = .ok (.iload 4, 2) := by decide +kernel
theorem dX7_leastFrom_137 : decode cX7_leastFrom 137 = .ok (.iload_n 1, 1) := by decide +kernel
theorem dX7_leastFrom_138 : decode cX7_leastFrom 138 = .ok (.invokevirtual 217, 3) := by decide +kernel
theorem dX7_leastFrom_141 : decode cX7_leastFrom 141 = .ok (.ifCond .ne 98, 3) := by decide +kernel
theorem dX7_leastFrom_144 : decode cX7_leastFrom 144 = .ok (.iload_n 1, 1) := by decide +kernel
theorem dX7_leastFrom_145 : decode cX7_leastFrom 145 = .ok (.istore 6, 2) := by decide +kernel
theorem dX7_leastFrom_147 : decode cX7_leastFrom 147 = .ok (.iload 6, 2) := by decide +kernel
theorem dX7_leastFrom_149 : decode cX7_leastFrom 149 = .ok (.aload_n 0, 1) := by decide +kernel
theorem dX7_leastFrom_150 : decode cX7_leastFrom 150 = .ok (.getfield 207, 3) := by decide +kernel
theorem dX7_leastFrom_153 : decode cX7_leastFrom 153 = .ok (.if_icmp .ge 80, 3) := by decide +kernel
theorem dX7_leastFrom_156 : decode cX7_leastFrom 156 = .ok (.iload 5, 2) := by decide +kernel
theorem dX7_leastFrom_158 : decode cX7_leastFrom 158 = .ok (.iload 6, 2) := by decide +kernel
theorem dX7_leastFrom_160 : decode cX7_leastFrom 160 = .ok (.ishr, 1) := by decide +kernel
theorem dX7_leastFrom_161 : decode cX7_leastFrom 161 = .ok (.iconst 1, 1) := by decide +kernel
theorem dX7_leastFrom_162 : decode cX7_leastFrom 162 = .ok (.iand, 1) := by decide +kernel
theorem dX7_leastFrom_163 : decode cX7_leastFrom 163 = .ok (.ifCond .ne 8, 3) := by decide +kernel
theorem dX7_leastFrom_166 : decode cX7_leastFrom 166 = .ok (.ldc 216, 2) := by decide +kernel
theorem dX7_leastFrom_168 : decode cX7_leastFrom 168 = .ok (.goto 26, 3) := by decide +kernel
theorem dX7_leastFrom_171 : decode cX7_leastFrom 171 = .ok (.aload_n 0, 1) := by decide +kernel
theorem dX7_leastFrom_172 : decode cX7_leastFrom 172 = .ok (.getfield 105, 3) := by decide +kernel
theorem dX7_leastFrom_175 : decode cX7_leastFrom 175 = .ok (.iload 5, 2) := by decide +kernel
theorem dX7_leastFrom_177 : decode cX7_leastFrom 177 = .ok (.iconst 1, 1) := by decide +kernel
theorem dX7_leastFrom_178 : decode cX7_leastFrom 178 = .ok (.iload 6, 2) := by decide +kernel
theorem dX7_leastFrom_180 : decode cX7_leastFrom 180 = .ok (.ishl, 1) := by decide +kernel
theorem dX7_leastFrom_181 : decode cX7_leastFrom 181 = .ok (.iconst (-1), 1) := by decide +kernel
theorem dX7_leastFrom_182 : decode cX7_leastFrom 182 = .ok (.ixor, 1) := by decide +kernel
theorem dX7_leastFrom_183 : decode cX7_leastFrom 183 = .ok (.iand, 1) := by decide +kernel
theorem dX7_leastFrom_184 : decode cX7_leastFrom 184 = .ok (.iaload, 1) := by decide +kernel
theorem dX7_leastFrom_185 : decode cX7_leastFrom 185 = .ok (.aload_n 0, 1) := by decide +kernel
theorem dX7_leastFrom_186 : decode cX7_leastFrom 186 = .ok (.iload 4, 2) := by decide +kernel
theorem dX7_leastFrom_188 : decode cX7_leastFrom 188 = .ok (.iload 6, 2) := by decide +kernel
theorem dX7_leastFrom_190 : decode cX7_leastFrom 190 = .ok (.invokevirtual 213, 3) := by decide +kernel
theorem dX7_leastFrom_193 : decode cX7_leastFrom 193 = .ok (.iadd, 1) := by decide +kernel
theorem dX7_leastFrom_194 : decode cX7_leastFrom 194 = .ok (.istore 7, 2) := by decide +kernel
theorem dX7_leastFrom_196 : decode cX7_leastFrom 196 = .ok (.aload_n 0, 1) := by decide +kernel
theorem dX7_leastFrom_197 : decode cX7_leastFrom 197 = .ok (.getfield 105, 3) := by decide +kernel
theorem dX7_leastFrom_200 : decode cX7_leastFrom 200 = .ok (.iload 5, 2) := by decide +kernel
theorem dX7_leastFrom_202 : decode cX7_leastFrom 202 = .ok (.iload 7, 2) := by decide +kernel
theorem dX7_leastFrom_204 : decode cX7_leastFrom 204 = .ok (.aload_n 0, 1) := by decide +kernel
theorem dX7_leastFrom_205 : decode cX7_leastFrom 205 = .ok (.getfield 105, 3) := by decide +kernel
theorem dX7_leastFrom_208 : decode cX7_leastFrom 208 = .ok (.iload 5, 2) := by decide +kernel
theorem dX7_leastFrom_210 : decode cX7_leastFrom 210 = .ok (.iaload, 1) := by decide +kernel
theorem dX7_leastFrom_211 : decode cX7_leastFrom 211 = .ok (.if_icmp .ge 8, 3) := by decide +kernel
theorem dX7_leastFrom_214 : decode cX7_leastFrom 214 = .ok (.iload 7, 2) := by decide +kernel
theorem dX7_leastFrom_216 : decode cX7_leastFrom 216 = .ok (.goto 10, 3) := by decide +kernel
theorem dX7_leastFrom_219 : decode cX7_leastFrom 219 = .ok (.aload_n 0, 1) := by decide +kernel
theorem dX7_leastFrom_220 : decode cX7_leastFrom 220 = .ok (.getfield 105, 3) := by decide +kernel
theorem dX7_leastFrom_223 : decode cX7_leastFrom 223 = .ok (.iload 5, 2) := by decide +kernel
theorem dX7_leastFrom_225 : decode cX7_leastFrom 225 = .ok (.iaload, 1) := by decide +kernel
theorem dX7_leastFrom_226 : decode cX7_leastFrom 226 = .ok (.iastore, 1) := by decide +kernel
theorem dX7_leastFrom_227 : decode cX7_leastFrom 227 = .ok (.iinc 6 1, 3) := by decide +kernel
theorem dX7_leastFrom_230 : decode cX7_leastFrom 230 = .ok (.goto (-83), 3) := by decide +kernel
theorem dX7_leastFrom_233 : decode cX7_leastFrom 233 = .ok (.iinc 5 (-1), 3) := by decide +kernel
theorem dX7_leastFrom_236 : decode cX7_leastFrom 236 = .ok (.goto (-107), 3) := by decide +kernel
theorem dX7_leastFrom_239 : decode cX7_leastFrom 239 = .ok (.iinc 4 1, 3) := by decide +kernel
theorem dX7_leastFrom_242 : decode cX7_leastFrom 242 = .ok (.goto (-132), 3) := by decide +kernel
theorem dX7_leastFrom_245 : decode cX7_leastFrom 245 = .ok (.aload_n 0, 1) := by decide +kernel
theorem dX7_leastFrom_246 : decode cX7_leastFrom 246 = .ok (.getfield 207, 3) := by decide +kernel
theorem dX7_leastFrom_249 : decode cX7_leastFrom 249 = .ok (.aload_n 0, 1) := by decide +kernel
theorem dX7_leastFrom_250 : decode cX7_leastFrom 250 = .ok (.getfield 210, 3) := by decide +kernel
theorem dX7_leastFrom_253 : decode cX7_leastFrom 253 = .ok (.if_icmp .ge 10, 3) := by decide +kernel
theorem dX7_leastFrom_256 : decode cX7_leastFrom 256 = .ok (.aload_n 0, 1) := by decide +kernel
theorem dX7_leastFrom_257 : decode cX7_leastFrom 257 = .ok (.getfield 207, 3) := by decide +kernel
theorem dX7_leastFrom_260 : decode cX7_leastFrom 260 = .ok (.goto 7, 3) := by decide +kernel
theorem dX7_leastFrom_263 : decode cX7_leastFrom 263 = .ok (.aload_n 0, 1) := by decide +kernel
theorem dX7_leastFrom_264 : decode cX7_leastFrom 264 = .ok (.getfield 210, 3) := by decide +kernel
theorem dX7_leastFrom_267 : decode cX7_leastFrom 267 = .ok (.istore 4, 2) := by decide +kernel
theorem dX7_leastFrom_269 : decode cX7_leastFrom 269 = .ok (.ldc 216, 2) := by decide +kernel
theorem dX7_leastFrom_271 : decode cX7_leastFrom 271 = .ok (.istore 5, 2) := by decide +kernel
theorem dX7_leastFrom_273 : decode cX7_leastFrom 273 = .ok (.iconst 0, 1) := by decide +kernel
theorem dX7_leastFrom_274 : decode cX7_leastFrom 274 = .ok (.istore 6, 2) := by decide +kernel
theorem dX7_leastFrom_276 : decode cX7_leastFrom 276 = .ok (.iload 6, 2) := by decide +kernel
theorem dX7_leastFrom_278 : decode cX7_leastFrom 278 = .ok (.iconst 1, 1) := by decide +kernel
theorem dX7_leastFrom_279 : decode cX7_leastFrom 279 = .ok (.aload_n 0, 1) := by decide +kernel
theorem dX7_leastFrom_280 : decode cX7_leastFrom 280 = .ok (.getfield 207, 3) := by decide +kernel
theorem dX7_leastFrom_283 : decode cX7_leastFrom 283 = .ok (.ishl, 1) := by decide +kernel
theorem dX7_leastFrom_284 : decode cX7_leastFrom 284 = .ok (.if_icmp .ge 47, 3) := by decide +kernel
theorem dX7_leastFrom_287 : decode cX7_leastFrom 287 = .ok (.iload 6, 2) := by decide +kernel
theorem dX7_leastFrom_289 : decode cX7_leastFrom 289 = .ok (.invokestatic 220, 3) := by decide +kernel
theorem dX7_leastFrom_292 : decode cX7_leastFrom 292 = .ok (.iload_n 2, 1) := by decide +kernel
theorem dX7_leastFrom_293 : decode cX7_leastFrom 293 = .ok (.iadd, 1) := by decide +kernel
theorem dX7_leastFrom_294 : decode cX7_leastFrom 294 = .ok (.iload 4, 2) := by decide +kernel
theorem dX7_leastFrom_296 : decode cX7_leastFrom 296 = .ok (.if_icmp .ne 25, 3) := by decide +kernel
theorem dX7_leastFrom_299 : decode cX7_leastFrom 299 = .ok (.aload_n 0, 1) := by decide +kernel
theorem dX7_leastFrom_300 : decode cX7_leastFrom 300 = .ok (.getfield 105, 3) := by decide +kernel
theorem dX7_leastFrom_303 : decode cX7_leastFrom 303 = .ok (.iload 6, 2) := by decide +kernel
theorem dX7_leastFrom_305 : decode cX7_leastFrom 305 = .ok (.iaload, 1) := by decide +kernel
theorem dX7_leastFrom_306 : decode cX7_leastFrom 306 = .ok (.iload 5, 2) := by decide +kernel
theorem dX7_leastFrom_308 : decode cX7_leastFrom 308 = .ok (.if_icmp .ge 13, 3) := by decide +kernel
theorem dX7_leastFrom_311 : decode cX7_leastFrom 311 = .ok (.aload_n 0, 1) := by decide +kernel
theorem dX7_leastFrom_312 : decode cX7_leastFrom 312 = .ok (.getfield 105, 3) := by decide +kernel
theorem dX7_leastFrom_315 : decode cX7_leastFrom 315 = .ok (.iload 6, 2) := by decide +kernel
theorem dX7_leastFrom_317 : decode cX7_leastFrom 317 = .ok (.iaload, 1) := by decide +kernel
theorem dX7_leastFrom_318 : decode cX7_leastFrom 318 = .ok (.goto 5, 3) := by decide +kernel
theorem dX7_leastFrom_321 : decode cX7_leastFrom 321 = .ok (.iload 5, 2) := by decide +kernel
theorem dX7_leastFrom_323 : decode cX7_leastFrom 323 = .ok (.istore 5, 2) := by decide +kernel
theorem dX7_leastFrom_325 : decode cX7_leastFrom 325 = .ok (.iinc 6 1, 3) := by decide +kernel
theorem dX7_leastFrom_328 : decode cX7_leastFrom 328 = .ok (.goto (-52), 3) := by decide +kernel
theorem dX7_leastFrom_331 : decode cX7_leastFrom 331 = .ok (.iload 5, 2) := by decide +kernel
theorem dX7_leastFrom_333 : decode cX7_leastFrom 333 = .ok (.ldc 216, 2) := by decide +kernel
theorem dX7_leastFrom_335 : decode cX7_leastFrom 335 = .ok (.if_icmp .ne 8, 3) := by decide +kernel
theorem dX7_leastFrom_338 : decode cX7_leastFrom 338 = .ok (.ldc 216, 2) := by decide +kernel
theorem dX7_leastFrom_340 : decode cX7_leastFrom 340 = .ok (.goto 7, 3) := by decide +kernel
theorem dX7_leastFrom_343 : decode cX7_leastFrom 343 = .ok (.iload_n 3, 1) := by decide +kernel
theorem dX7_leastFrom_344 : decode cX7_leastFrom 344 = .ok (.iload 5, 2) := by decide +kernel
theorem dX7_leastFrom_346 : decode cX7_leastFrom 346 = .ok (.iadd, 1) := by decide +kernel
theorem dX7_leastFrom_347 : decode cX7_leastFrom 347 = .ok (.ireturn, 1) := by decide +kernel
theorem dX7_plans_0 : decode cX7_plans 0 = .ok (.aload_n 0, 1) := by decide +kernel
theorem dX7_plans_1 : decode cX7_plans 1 = .ok (.iload_n 1, 1) := by decide +kernel
theorem dX7_plans_2 : decode cX7_plans 2 = .ok (.invokevirtual 223, 3) := by decide +kernel
theorem dX7_plans_5 : decode cX7_plans 5 = .ok (.aload_n 0, 1) := by decide +kernel
theorem dX7_plans_6 : decode cX7_plans 6 = .ok (.iconst 0, 1) := by decide +kernel
theorem dX7_plans_7 : decode cX7_plans 7 = .ok (.invokevirtual 227, 3) := by decide +kernel
theorem dX7_plans_10 : decode cX7_plans 10 = .ok (.istore_n 2, 1) := by decide +kernel
theorem dX7_plans_11 : decode cX7_plans 11 = .ok (.iconst 0, 1) := by decide +kernel
theorem dX7_plans_12 : decode cX7_plans 12 = .ok (.istore_n 3, 1) := by decide +kernel
theorem dX7_plans_13 : decode cX7_plans 13 = .ok (.iload_n 3, 1) := by decide +kernel
theorem dX7_plans_14 : decode cX7_plans 14 = .ok (.aload_n 0, 1) := by decide +kernel
theorem dX7_plans_15 : decode cX7_plans 15 = .ok (.getfield 207, 3) := by decide +kernel
theorem dX7_plans_18 : decode cX7_plans 18 = .ok (.if_icmp .ge 84, 3) := by decide +kernel
theorem dX7_plans_21 : decode cX7_plans 21 = .ok (.iconst 0, 1) := by decide +kernel
theorem dX7_plans_22 : decode cX7_plans 22 = .ok (.istore 4, 2) := by decide +kernel
theorem dX7_plans_24 : decode cX7_plans 24 = .ok (.aload_n 0, 1) := by decide +kernel
theorem dX7_plans_25 : decode cX7_plans 25 = .ok (.getfield 102, 3) := by decide +kernel
theorem dX7_plans_28 : decode cX7_plans 28 = .ok (.iload_n 3, 1) := by decide +kernel
theorem dX7_plans_29 : decode cX7_plans 29 = .ok (.iconst 0, 1) := by decide +kernel
theorem dX7_plans_30 : decode cX7_plans 30 = .ok (.iastore, 1) := by decide +kernel
theorem dX7_plans_31 : decode cX7_plans 31 = .ok (.iload 4, 2) := by decide +kernel
theorem dX7_plans_33 : decode cX7_plans 33 = .ok (.aload_n 0, 1) := by decide +kernel
theorem dX7_plans_34 : decode cX7_plans 34 = .ok (.getfield 210, 3) := by decide +kernel
theorem dX7_plans_37 : decode cX7_plans 37 = .ok (.if_icmp .ge 38, 3) := by decide +kernel
theorem dX7_plans_40 : decode cX7_plans 40 = .ok (.aload_n 0, 1) := by decide +kernel
theorem dX7_plans_41 : decode cX7_plans 41 = .ok (.iload 4, 2) := by decide +kernel
theorem dX7_plans_43 : decode cX7_plans 43 = .ok (.iload_n 3, 1) := by decide +kernel
theorem dX7_plans_44 : decode cX7_plans 44 = .ok (.invokevirtual 217, 3) := by decide +kernel
theorem dX7_plans_47 : decode cX7_plans 47 = .ok (.ifCond .ne 14, 3) := by decide +kernel
theorem dX7_plans_50 : decode cX7_plans 50 = .ok (.aload_n 0, 1) := by decide +kernel
theorem dX7_plans_51 : decode cX7_plans 51 = .ok (.iload_n 3, 1) := by decide +kernel
theorem dX7_plans_52 : decode cX7_plans 52 = .ok (.iconst 1, 1) := by decide +kernel
theorem dX7_plans_53 : decode cX7_plans 53 = .ok (.iadd, 1) := by decide +kernel
theorem dX7_plans_54 : decode cX7_plans 54 = .ok (.invokevirtual 227, 3) := by decide +kernel
theorem dX7_plans_57 : decode cX7_plans 57 = .ok (.iload_n 2, 1) := by decide +kernel
theorem dX7_plans_58 : decode cX7_plans 58 = .ok (.if_icmp .eq 17, 3) := by decide +kernel
theorem dX7_plans_61 : decode cX7_plans 61 = .ok (.iinc 4 1, 3) := by decide +kernel
theorem dX7_plans_64 : decode cX7_plans 64 = .ok (.aload_n 0, 1) := by decide +kernel
theorem dX7_plans_65 : decode cX7_plans 65 = .ok (.getfield 102, 3) := by decide +kernel
theorem dX7_plans_68 : decode cX7_plans 68 = .ok (.iload_n 3, 1) := by decide +kernel
theorem dX7_plans_69 : decode cX7_plans 69 = .ok (.iload 4, 2) := by decide +kernel
theorem dX7_plans_71 : decode cX7_plans 71 = .ok (.iastore, 1) := by decide +kernel
theorem dX7_plans_72 : decode cX7_plans 72 = .ok (.goto (-41), 3) := by decide +kernel
theorem dX7_plans_75 : decode cX7_plans 75 = .ok (.aload_n 0, 1) := by decide +kernel
theorem dX7_plans_76 : decode cX7_plans 76 = .ok (.getfield 102, 3) := by decide +kernel
theorem dX7_plans_79 : decode cX7_plans 79 = .ok (.iload_n 3, 1) := by decide +kernel
theorem dX7_plans_80 : decode cX7_plans 80 = .ok (.iload 4, 2) := by decide +kernel
theorem dX7_plans_82 : decode cX7_plans 82 = .ok (.aload_n 0, 1) := by decide +kernel
theorem dX7_plans_83 : decode cX7_plans 83 = .ok (.getfield 210, 3) := by decide +kernel
theorem dX7_plans_86 : decode cX7_plans 86 = .ok (.if_icmp .ge 8, 3) := by decide +kernel
theorem dX7_plans_89 : decode cX7_plans 89 = .ok (.iload 4, 2) := by decide +kernel
theorem dX7_plans_91 : decode cX7_plans 91 = .ok (.goto 4, 3) := by decide +kernel
theorem dX7_plans_94 : decode cX7_plans 94 = .ok (.iconst (-1), 1) := by decide +kernel
theorem dX7_plans_95 : decode cX7_plans 95 = .ok (.iastore, 1) := by decide +kernel
theorem dX7_plans_96 : decode cX7_plans 96 = .ok (.iinc 3 1, 3) := by decide +kernel
theorem dX7_plans_99 : decode cX7_plans 99 = .ok (.goto (-86), 3) := by decide +kernel
theorem dX7_plans_102 : decode cX7_plans 102 = .ok (.iload_n 2, 1) := by decide +kernel
theorem dX7_plans_103 : decode cX7_plans 103 = .ok (.ireturn, 1) := by decide +kernel
theorem dX7_bring_0 : decode cX7_bring 0 = .ok (.iload_n 1, 1) := by decide +kernel
theorem dX7_bring_1 : decode cX7_bring 1 = .ok (.invokestatic 128, 3) := by decide +kernel
theorem dX7_bring_4 : decode cX7_bring 4 = .ok (.istore_n 2, 1) := by decide +kernel
theorem dX7_bring_5 : decode cX7_bring 5 = .ok (.aload_n 0, 1) := by decide +kernel
theorem dX7_bring_6 : decode cX7_bring 6 = .ok (.iload_n 2, 1) := by decide +kernel
theorem dX7_bring_7 : decode cX7_bring 7 = .ok (.ifCond .ne 7, 3) := by decide +kernel
theorem dX7_bring_10 : decode cX7_bring 10 = .ok (.iconst 1, 1) := by decide +kernel
theorem dX7_bring_11 : decode cX7_bring 11 = .ok (.goto 17, 3) := by decide +kernel
theorem dX7_bring_14 : decode cX7_bring 14 = .ok (.aload_n 0, 1) := by decide +kernel
theorem dX7_bring_15 : decode cX7_bring 15 = .ok (.iload_n 1, 1) := by decide +kernel
theorem dX7_bring_16 : decode cX7_bring 16 = .ok (.invokevirtual 230, 3) := by decide +kernel
theorem dX7_bring_19 : decode cX7_bring 19 = .ok (.iconst 5, 1) := by decide +kernel
theorem dX7_bring_20 : decode cX7_bring 20 = .ok (.if_icmp .le 7, 3) := by decide +kernel
theorem dX7_bring_23 : decode cX7_bring 23 = .ok (.iconst 2, 1) := by decide +kernel
theorem dX7_bring_24 : decode cX7_bring 24 = .ok (.goto 4, 3) := by decide +kernel
theorem dX7_bring_27 : decode cX7_bring 27 = .ok (.iconst 0, 1) := by decide +kernel
theorem dX7_bring_28 : decode cX7_bring 28 = .ok (.invokevirtual 125, 3) := by decide +kernel
theorem dX7_bring_31 : decode cX7_bring 31 = .ok (.ifCond .eq 11, 3) := by decide +kernel
theorem dX7_bring_34 : decode cX7_bring 34 = .ok (.aload_n 0, 1) := by decide +kernel
theorem dX7_bring_35 : decode cX7_bring 35 = .ok (.iload_n 1, 1) := by decide +kernel
theorem dX7_bring_36 : decode cX7_bring 36 = .ok (.invokevirtual 233, 3) := by decide +kernel
theorem dX7_bring_39 : decode cX7_bring 39 = .ok (.goto 4, 3) := by decide +kernel
theorem dX7_bring_42 : decode cX7_bring 42 = .ok (.iconst 0, 1) := by decide +kernel
theorem dX7_bring_43 : decode cX7_bring 43 = .ok (.ireturn, 1) := by decide +kernel
theorem dX7_broughtFor_0 : decode cX7_broughtFor 0 = .ok (.aload_n 0, 1) := by decide +kernel
theorem dX7_broughtFor_1 : decode cX7_broughtFor 1 = .ok (.iload_n 1, 1) := by decide +kernel
theorem dX7_broughtFor_2 : decode cX7_broughtFor 2 = .ok (.invokevirtual 233, 3) := by decide +kernel
theorem dX7_broughtFor_5 : decode cX7_broughtFor 5 = .ok (.istore_n 3, 1) := by decide +kernel
theorem dX7_broughtFor_6 : decode cX7_broughtFor 6 = .ok (.iload_n 3, 1) := by decide +kernel
theorem dX7_broughtFor_7 : decode cX7_broughtFor 7 = .ok (.ifCond .lt 21, 3) := by decide +kernel
theorem dX7_broughtFor_10 : decode cX7_broughtFor 10 = .ok (.iload_n 2, 1) := by decide +kernel
theorem dX7_broughtFor_11 : decode cX7_broughtFor 11 = .ok (.aload_n 0, 1) := by decide +kernel
theorem dX7_broughtFor_12 : decode cX7_broughtFor 12 = .ok (.getfield 207, 3) := by decide +kernel
theorem dX7_broughtFor_15 : decode cX7_broughtFor 15 = .ok (.if_icmp .ge 13, 3) := by decide +kernel
theorem dX7_broughtFor_18 : decode cX7_broughtFor 18 = .ok (.aload_n 0, 1) := by decide +kernel
theorem dX7_broughtFor_19 : decode cX7_broughtFor 19 = .ok (.getfield 102, 3) := by decide +kernel
theorem dX7_broughtFor_22 : decode cX7_broughtFor 22 = .ok (.iload_n 2, 1) := by decide +kernel
theorem dX7_broughtFor_23 : decode cX7_broughtFor 23 = .ok (.iaload, 1) := by decide +kernel
theorem dX7_broughtFor_24 : decode cX7_broughtFor 24 = .ok (.iconst (-1), 1) := by decide +kernel
theorem dX7_broughtFor_25 : decode cX7_broughtFor 25 = .ok (.if_icmp .ne 7, 3) := by decide +kernel
theorem dX7_broughtFor_28 : decode cX7_broughtFor 28 = .ok (.iconst (-1), 1) := by decide +kernel
theorem dX7_broughtFor_29 : decode cX7_broughtFor 29 = .ok (.goto 14, 3) := by decide +kernel
theorem dX7_broughtFor_32 : decode cX7_broughtFor 32 = .ok (.aload_n 0, 1) := by decide +kernel
theorem dX7_broughtFor_33 : decode cX7_broughtFor 33 = .ok (.getfield 96, 3) := by decide +kernel
theorem dX7_broughtFor_36 : decode cX7_broughtFor 36 = .ok (.aload_n 0, 1) := by decide +kernel
theorem dX7_broughtFor_37 : decode cX7_broughtFor 37 = .ok (.getfield 102, 3) := by decide +kernel
theorem dX7_broughtFor_40 : decode cX7_broughtFor 40 = .ok (.iload_n 2, 1) := by decide +kernel
theorem dX7_broughtFor_41 : decode cX7_broughtFor 41 = .ok (.iaload, 1) := by decide +kernel
theorem dX7_broughtFor_42 : decode cX7_broughtFor 42 = .ok (.iaload, 1) := by decide +kernel
theorem dX7_broughtFor_43 : decode cX7_broughtFor 43 = .ok (.ireturn, 1) := by decide +kernel
theorem dX7_brings_0 : decode cX7_brings 0 = .ok (.iload_n 1, 1) := by decide +kernel
theorem dX7_brings_1 : decode cX7_brings 1 = .ok (.invokestatic 128, 3) := by decide +kernel
theorem dX7_brings_4 : decode cX7_brings 4 = .ok (.istore_n 3, 1) := by decide +kernel
theorem dX7_brings_5 : decode cX7_brings 5 = .ok (.aload_n 0, 1) := by decide +kernel
theorem dX7_brings_6 : decode cX7_brings 6 = .ok (.iload_n 3, 1) := by decide +kernel
theorem dX7_brings_7 : decode cX7_brings 7 = .ok (.ifCond .ne 7, 3) := by decide +kernel
theorem dX7_brings_10 : decode cX7_brings 10 = .ok (.iconst 1, 1) := by decide +kernel
theorem dX7_brings_11 : decode cX7_brings 11 = .ok (.goto 25, 3) := by decide +kernel
theorem dX7_brings_14 : decode cX7_brings 14 = .ok (.iload_n 2, 1) := by decide +kernel
theorem dX7_brings_15 : decode cX7_brings 15 = .ok (.ifCond .ge 7, 3) := by decide +kernel
theorem dX7_brings_18 : decode cX7_brings 18 = .ok (.iconst 2, 1) := by decide +kernel
theorem dX7_brings_19 : decode cX7_brings 19 = .ok (.goto 17, 3) := by decide +kernel
theorem dX7_brings_22 : decode cX7_brings 22 = .ok (.aload_n 0, 1) := by decide +kernel
theorem dX7_brings_23 : decode cX7_brings 23 = .ok (.iload_n 1, 1) := by decide +kernel
theorem dX7_brings_24 : decode cX7_brings 24 = .ok (.invokevirtual 230, 3) := by decide +kernel
theorem dX7_brings_27 : decode cX7_brings 27 = .ok (.iconst 5, 1) := by decide +kernel
theorem dX7_brings_28 : decode cX7_brings 28 = .ok (.if_icmp .le 7, 3) := by decide +kernel
theorem dX7_brings_31 : decode cX7_brings 31 = .ok (.iconst 3, 1) := by decide +kernel
theorem dX7_brings_32 : decode cX7_brings 32 = .ok (.goto 4, 3) := by decide +kernel
theorem dX7_brings_35 : decode cX7_brings 35 = .ok (.iconst 0, 1) := by decide +kernel
theorem dX7_brings_36 : decode cX7_brings 36 = .ok (.invokevirtual 125, 3) := by decide +kernel
theorem dX7_brings_39 : decode cX7_brings 39 = .ok (.ifCond .eq 12, 3) := by decide +kernel
theorem dX7_brings_42 : decode cX7_brings 42 = .ok (.aload_n 0, 1) := by decide +kernel
theorem dX7_brings_43 : decode cX7_brings 43 = .ok (.iload_n 1, 1) := by decide +kernel
theorem dX7_brings_44 : decode cX7_brings 44 = .ok (.iload_n 2, 1) := by decide +kernel
theorem dX7_brings_45 : decode cX7_brings 45 = .ok (.invokevirtual 236, 3) := by decide +kernel
theorem dX7_brings_48 : decode cX7_brings 48 = .ok (.goto 4, 3) := by decide +kernel
theorem dX7_brings_51 : decode cX7_brings 51 = .ok (.iconst 0, 1) := by decide +kernel
theorem dX7_brings_52 : decode cX7_brings 52 = .ok (.ireturn, 1) := by decide +kernel
theorem dX7_told_0 : decode cX7_told 0 = .ok (.iload_n 2, 1) := by decide +kernel
theorem dX7_told_1 : decode cX7_told 1 = .ok (.tableswitch 105 0 6 #[43, 50, 57, 71, 86, 93, 99], 43) := by decide +kernel
theorem dX7_told_44 : decode cX7_told 44 = .ok (.aload_n 0, 1) := by decide +kernel
theorem dX7_told_45 : decode cX7_told 45 = .ok (.getfield 13, 3) := by decide +kernel
theorem dX7_told_48 : decode cX7_told 48 = .ok (.iload_n 1, 1) := by decide +kernel
theorem dX7_told_49 : decode cX7_told 49 = .ok (.iaload, 1) := by decide +kernel
theorem dX7_told_50 : decode cX7_told 50 = .ok (.ireturn, 1) := by decide +kernel
theorem dX7_told_51 : decode cX7_told 51 = .ok (.aload_n 0, 1) := by decide +kernel
theorem dX7_told_52 : decode cX7_told 52 = .ok (.getfield 16, 3) := by decide +kernel
theorem dX7_told_55 : decode cX7_told 55 = .ok (.iload_n 1, 1) := by decide +kernel
theorem dX7_told_56 : decode cX7_told 56 = .ok (.iaload, 1) := by decide +kernel
theorem dX7_told_57 : decode cX7_told 57 = .ok (.ireturn, 1) := by decide +kernel
theorem dX7_told_58 : decode cX7_told 58 = .ok (.aload_n 0, 1) := by decide +kernel
theorem dX7_told_59 : decode cX7_told 59 = .ok (.iload_n 1, 1) := by decide +kernel
theorem dX7_told_60 : decode cX7_told 60 = .ok (.invokevirtual 134, 3) := by decide +kernel
theorem dX7_told_63 : decode cX7_told 63 = .ok (.ifCond .eq 7, 3) := by decide +kernel
theorem dX7_told_66 : decode cX7_told 66 = .ok (.iconst 1, 1) := by decide +kernel
theorem dX7_told_67 : decode cX7_told 67 = .ok (.goto 4, 3) := by decide +kernel
theorem dX7_told_70 : decode cX7_told 70 = .ok (.iconst 0, 1) := by decide +kernel
theorem dX7_told_71 : decode cX7_told 71 = .ok (.ireturn, 1) := by decide +kernel
theorem dX7_told_72 : decode cX7_told 72 = .ok (.aload_n 0, 1) := by decide +kernel
theorem dX7_told_73 : decode cX7_told 73 = .ok (.getfield 22, 3) := by decide +kernel
theorem dX7_told_76 : decode cX7_told 76 = .ok (.iload_n 1, 1) := by decide +kernel
theorem dX7_told_77 : decode cX7_told 77 = .ok (.baload, 1) := by decide +kernel
theorem dX7_told_78 : decode cX7_told 78 = .ok (.ifCond .eq 7, 3) := by decide +kernel
theorem dX7_told_81 : decode cX7_told 81 = .ok (.iconst 1, 1) := by decide +kernel
theorem dX7_told_82 : decode cX7_told 82 = .ok (.goto 4, 3) := by decide +kernel
theorem dX7_told_85 : decode cX7_told 85 = .ok (.iconst 0, 1) := by decide +kernel
theorem dX7_told_86 : decode cX7_told 86 = .ok (.ireturn, 1) := by decide +kernel
theorem dX7_told_87 : decode cX7_told 87 = .ok (.aload_n 0, 1) := by decide +kernel
theorem dX7_told_88 : decode cX7_told 88 = .ok (.getfield 29, 3) := by decide +kernel
theorem dX7_told_91 : decode cX7_told 91 = .ok (.iload_n 1, 1) := by decide +kernel
theorem dX7_told_92 : decode cX7_told 92 = .ok (.iaload, 1) := by decide +kernel
theorem dX7_told_93 : decode cX7_told 93 = .ok (.ireturn, 1) := by decide +kernel
theorem dX7_told_94 : decode cX7_told 94 = .ok (.aload_n 0, 1) := by decide +kernel
theorem dX7_told_95 : decode cX7_told 95 = .ok (.iload_n 1, 1) := by decide +kernel
theorem dX7_told_96 : decode cX7_told 96 = .ok (.invokevirtual 183, 3) := by decide +kernel
theorem dX7_told_99 : decode cX7_told 99 = .ok (.ireturn, 1) := by decide +kernel
theorem dX7_told_100 : decode cX7_told 100 = .ok (.aload_n 0, 1) := by decide +kernel
theorem dX7_told_101 : decode cX7_told 101 = .ok (.iload_n 1, 1) := by decide +kernel
theorem dX7_told_102 : decode cX7_told 102 = .ok (.invokevirtual 148, 3) := by decide +kernel
theorem dX7_told_105 : decode cX7_told 105 = .ok (.ireturn, 1) := by decide +kernel
theorem dX7_told_106 : decode cX7_told 106 = .ok (.aload_n 0, 1) := by decide +kernel
theorem dX7_told_107 : decode cX7_told 107 = .ok (.iload_n 1, 1) := by decide +kernel
theorem dX7_told_108 : decode cX7_told 108 = .ok (.aload_n 0, 1) := by decide +kernel
theorem dX7_told_109 : decode cX7_told 109 = .ok (.getfield 152, 3) := by decide +kernel
theorem dX7_told_112 : decode cX7_told 112 = .ok (.invokevirtual 165, 3) := by decide +kernel
theorem dX7_told_115 : decode cX7_told 115 = .ok (.ifCond .eq 7, 3) := by decide +kernel
theorem dX7_told_118 : decode cX7_told 118 = .ok (.iconst 1, 1) := by decide +kernel
theorem dX7_told_119 : decode cX7_told 119 = .ok (.goto 4, 3) := by decide +kernel
theorem dX7_told_122 : decode cX7_told 122 = .ok (.iconst 0, 1) := by decide +kernel
theorem dX7_told_123 : decode cX7_told 123 = .ok (.ireturn, 1) := by decide +kernel
theorem dX7_boxIs_0 : decode cX7_boxIs 0 = .ok (.aload_n 0, 1) := by decide +kernel
theorem dX7_boxIs_1 : decode cX7_boxIs 1 = .ok (.iload_n 1, 1) := by decide +kernel
theorem dX7_boxIs_2 : decode cX7_boxIs 2 = .ok (.invokevirtual 131, 3) := by decide +kernel
theorem dX7_boxIs_5 : decode cX7_boxIs 5 = .ok (.istore_n 3, 1) := by decide +kernel
theorem dX7_boxIs_6 : decode cX7_boxIs 6 = .ok (.aload_n 0, 1) := by decide +kernel
theorem dX7_boxIs_7 : decode cX7_boxIs 7 = .ok (.iload_n 3, 1) := by decide +kernel
theorem dX7_boxIs_8 : decode cX7_boxIs 8 = .ok (.ifCond .ne 7, 3) := by decide +kernel
theorem dX7_boxIs_11 : decode cX7_boxIs 11 = .ok (.iconst 1, 1) := by decide +kernel
theorem dX7_boxIs_12 : decode cX7_boxIs 12 = .ok (.goto 18, 3) := by decide +kernel
theorem dX7_boxIs_15 : decode cX7_boxIs 15 = .ok (.iload_n 2, 1) := by decide +kernel
theorem dX7_boxIs_16 : decode cX7_boxIs 16 = .ok (.iconst 0, 1) := by decide +kernel
theorem dX7_boxIs_17 : decode cX7_boxIs 17 = .ok (.bipush 7, 2) := by decide +kernel
theorem dX7_boxIs_19 : decode cX7_boxIs 19 = .ok (.invokestatic 111, 3) := by decide +kernel
theorem dX7_boxIs_22 : decode cX7_boxIs 22 = .ok (.ifCond .ne 7, 3) := by decide +kernel
theorem dX7_boxIs_25 : decode cX7_boxIs 25 = .ok (.iconst 2, 1) := by decide +kernel
theorem dX7_boxIs_26 : decode cX7_boxIs 26 = .ok (.goto 4, 3) := by decide +kernel
theorem dX7_boxIs_29 : decode cX7_boxIs 29 = .ok (.iconst 0, 1) := by decide +kernel
theorem dX7_boxIs_30 : decode cX7_boxIs 30 = .ok (.invokevirtual 125, 3) := by decide +kernel
theorem dX7_boxIs_33 : decode cX7_boxIs 33 = .ok (.ifCond .eq 12, 3) := by decide +kernel
theorem dX7_boxIs_36 : decode cX7_boxIs 36 = .ok (.aload_n 0, 1) := by decide +kernel
theorem dX7_boxIs_37 : decode cX7_boxIs 37 = .ok (.iload_n 1, 1) := by decide +kernel
theorem dX7_boxIs_38 : decode cX7_boxIs 38 = .ok (.iload_n 2, 1) := by decide +kernel
theorem dX7_boxIs_39 : decode cX7_boxIs 39 = .ok (.invokevirtual 239, 3) := by decide +kernel
theorem dX7_boxIs_42 : decode cX7_boxIs 42 = .ok (.goto 4, 3) := by decide +kernel
theorem dX7_boxIs_45 : decode cX7_boxIs 45 = .ok (.iconst 0, 1) := by decide +kernel
theorem dX7_boxIs_46 : decode cX7_boxIs 46 = .ok (.ireturn, 1) := by decide +kernel
theorem dX7_lacks_0 : decode cX7_lacks 0 = .ok (.aload_n 0, 1) := by decide +kernel
theorem dX7_lacks_1 : decode cX7_lacks 1 = .ok (.aload_n 0, 1) := by decide +kernel
theorem dX7_lacks_2 : decode cX7_lacks 2 = .ok (.iload_n 1, 1) := by decide +kernel
theorem dX7_lacks_3 : decode cX7_lacks 3 = .ok (.invokevirtual 201, 3) := by decide +kernel
theorem dX7_lacks_6 : decode cX7_lacks 6 = .ok (.ifCond .eq 7, 3) := by decide +kernel
theorem dX7_lacks_9 : decode cX7_lacks 9 = .ok (.iconst 0, 1) := by decide +kernel
theorem dX7_lacks_10 : decode cX7_lacks 10 = .ok (.goto 4, 3) := by decide +kernel
theorem dX7_lacks_13 : decode cX7_lacks 13 = .ok (.iconst 1, 1) := by decide +kernel
theorem dX7_lacks_14 : decode cX7_lacks 14 = .ok (.invokevirtual 125, 3) := by decide +kernel
theorem dX7_lacks_17 : decode cX7_lacks 17 = .ok (.ifCond .eq 11, 3) := by decide +kernel
theorem dX7_lacks_20 : decode cX7_lacks 20 = .ok (.aload_n 0, 1) := by decide +kernel
theorem dX7_lacks_21 : decode cX7_lacks 21 = .ok (.iload_n 1, 1) := by decide +kernel
theorem dX7_lacks_22 : decode cX7_lacks 22 = .ok (.invokevirtual 192, 3) := by decide +kernel
theorem dX7_lacks_25 : decode cX7_lacks 25 = .ok (.goto 4, 3) := by decide +kernel
theorem dX7_lacks_28 : decode cX7_lacks 28 = .ok (.iconst 0, 1) := by decide +kernel
theorem dX7_lacks_29 : decode cX7_lacks 29 = .ok (.ireturn, 1) := by decide +kernel
theorem dX7_pass_0 : decode cX7_pass 0 = .ok (.aload_n 0, 1) := by decide +kernel
theorem dX7_pass_1 : decode cX7_pass 1 = .ok (.iload_n 1, 1) := by decide +kernel
theorem dX7_pass_2 : decode cX7_pass 2 = .ok (.iconst 1, 1) := by decide +kernel
theorem dX7_pass_3 : decode cX7_pass 3 = .ok (.sipush 400, 3) := by decide +kernel
theorem dX7_pass_6 : decode cX7_pass 6 = .ok (.invokestatic 111, 3) := by decide +kernel
theorem dX7_pass_9 : decode cX7_pass 9 = .ok (.ifCond .ne 7, 3) := by decide +kernel
theorem dX7_pass_12 : decode cX7_pass 12 = .ok (.iconst 1, 1) := by decide +kernel
theorem dX7_pass_13 : decode cX7_pass 13 = .ok (.goto 20, 3) := by decide +kernel
theorem dX7_pass_16 : decode cX7_pass 16 = .ok (.aload_n 0, 1) := by decide +kernel
theorem dX7_pass_17 : decode cX7_pass 17 = .ok (.getfield 152, 3) := by decide +kernel
theorem dX7_pass_20 : decode cX7_pass 20 = .ok (.iload_n 1, 1) := by decide +kernel
theorem dX7_pass_21 : decode cX7_pass 21 = .ok (.iadd, 1) := by decide +kernel
theorem dX7_pass_22 : decode cX7_pass 22 = .ok (.sipush 9999, 3) := by decide +kernel
theorem dX7_pass_25 : decode cX7_pass 25 = .ok (.if_icmp .le 7, 3) := by decide +kernel
theorem dX7_pass_28 : decode cX7_pass 28 = .ok (.iconst 2, 1) := by decide +kernel
theorem dX7_pass_29 : decode cX7_pass 29 = .ok (.goto 4, 3) := by decide +kernel
theorem dX7_pass_32 : decode cX7_pass 32 = .ok (.iconst 0, 1) := by decide +kernel
theorem dX7_pass_33 : decode cX7_pass 33 = .ok (.invokevirtual 125, 3) := by decide +kernel
theorem dX7_pass_36 : decode cX7_pass 36 = .ok (.ifCond .ne 5, 3) := by decide +kernel
theorem dX7_pass_39 : decode cX7_pass 39 = .ok (.iconst 0, 1) := by decide +kernel
theorem dX7_pass_40 : decode cX7_pass 40 = .ok (.ireturn, 1) := by decide +kernel
theorem dX7_pass_41 : decode cX7_pass 41 = .ok (.aload_n 0, 1) := by decide +kernel
theorem dX7_pass_42 : decode cX7_pass 42 = .ok (.dup, 1) := by decide +kernel
theorem dX7_pass_43 : decode cX7_pass 43 = .ok (.getfield 152, 3) := by decide +kernel
theorem dX7_pass_46 : decode cX7_pass 46 = .ok (.iload_n 1, 1) := by decide +kernel
theorem dX7_pass_47 : decode cX7_pass 47 = .ok (.iadd, 1) := by decide +kernel
theorem dX7_pass_48 : decode cX7_pass 48 = .ok (.putfield 152, 3) := by decide +kernel
theorem dX7_pass_51 : decode cX7_pass 51 = .ok (.aload_n 0, 1) := by decide +kernel
theorem dX7_pass_52 : decode cX7_pass 52 = .ok (.getfield 152, 3) := by decide +kernel
theorem dX7_pass_55 : decode cX7_pass 55 = .ok (.ireturn, 1) := by decide +kernel
end
section
/-! ===== an abstract machine over whole numbers: its heap is told by kinds and numbers; the real machine follows it =====
A reference is a kind and a number: (4, b) is the life of box b. Numbers are Int. Run I pc xs st h .. Q X: from the instruction at pc of the method I,
with locals xs, stack st, heap h, the method comes to its end, and Q holds of its answer and the heap, or X of the exception and the heap. -/
abbrev Rf : Type := Option (Nat × Int)
abbrev Av : Type := Int ⊕ (Rf ⊕ Int)
abbrev Hp : Type := (Nat → Int → Int → Int) × (Nat → Int → Int → Rf) × (Nat → Int)
abbrev AD : Type := Nat → Int → Nat
abbrev MI : Type := String × MethodName × ByteArray × Nat × Option FieldType × List (Nat × Nat × Nat × Nat) × Room × Option (Nat × (Nat → Int32))
abbrev aI (z : Int) : Av := .inl z
abbrev aR (k : Nat) (i : Int) : Av := .inr (.inl (some (k, i)))
abbrev aN : Av := .inr (.inl none)
abbrev aQ (r : Rf) : Av := .inr (.inl r)
abbrev aL (z : Int) : Av := .inr (.inr z)
abbrev mOwn (I : MI) : String := I.1
abbrev mY (I : MI) : MethodName := I.2.1
abbrev mC (I : MI) : ByteArray := I.2.2.1
abbrev mL (I : MI) : Nat := I.2.2.2.1
abbrev mRet (I : MI) : Option FieldType := I.2.2.2.2.1
abbrev mHH (I : MI) : List (Nat × Nat × Nat × Nat) := I.2.2.2.2.2.1
abbrev mRm (I : MI) : Room := I.2.2.2.2.2.2.1
/-- the script that the method reads: its length, its ints -/
abbrev mSc (I : MI) : Option (Nat × (Nat → Int32)) := I.2.2.2.2.2.2.2
def ax_32 (z : Int) : Prop := -2147483648 ≤ z ∧ z ≤ 2147483647
/-- what the kinds are: the class (its place in vwCl, below 8) or the kind of array (8 int[], 9 boolean[], 10 long[], 11 Booking[], 12 Box[], 13 int[][]), and how many fields or places -/
def ax_kd : Nat → Nat × Nat
  | 0 => (0, 5) | 1 => (1, 10) | 2 => (2, 3) | 3 => (3, 3) | 4 => (4, 6) | 5 => (5, 11) | 6 => (6, 11) | 7 => (7, 38)
  | 8 => (13, 6) | 9 => (8, 6) | 10 => (13, 3) | 11 => (8, 6) | 12 => (8, 5) | 13 => (12, 40) | 14 => (11, 20)
  | 15 => (8, 5) | 16 => (8, 40) | 17 => (8, 40) | 18 => (9, 40) | 19 => (8, 5) | 20 => (8, 5) | 21 => (8, 6)
  | 22 => (8, 30) | 23 => (8, 30) | 24 => (8, 30) | 25 => (8, 30) | 26 => (8, 10) | 27 => (8, 10) | 28 => (8, 12) | 29 => (8, 12)
  | 30 => (8, 36) | 31 => (8, 40) | 32 => (8, 40) | 33 => (8, 40) | 34 => (9, 40) | 35 => (8, 40) | 36 => (8, 40) | 37 => (8, 1200) | 38 => (8, 1200) | 39 => (8, 1200)
  | 40 => (8, 40) | 41 => (8, 400) | 42 => (8, 400) | 43 => (8, 40) | 44 => (8, 18) | 45 => (8, 18) | 46 => (8, 18) | 47 => (8, 480) | 48 => (8, 480) | 49 => (8, 40)
  | 50 => (8, 5) | 51 => (8, 20) | 52 => (8, 20) | 53 => (8, 20) | 54 => (9, 20) | 55 => (8, 5) | 56 => (8, 40) | 57 => (8, 40) | 58 => (8, 5) | 59 => (8, 32)
  | 60 => (10, 1)
  | _ => (99, 0)
def ax_isRef : FieldType → Bool
  | .object _ => true
  | .array _ => true
  | _ => false
def ax_ft (t j : Nat) : FieldType := match t with
  | 0 => tyX0 j | 1 => tyX1 j | 2 => tyX2 j | 3 => tyX3 j | 4 => tyX4 j | 5 => tyX5 j | 6 => tyX6 j | _ => tyX7 j
def ax_rf (t j : Nat) : Bool := ax_isRef (ax_ft t j)
def ax_v (ad : AD) : Av → Value
  | .inl z => .int (Int32.ofInt z)
  | .inr (.inl none) => .null
  | .inr (.inl (some p)) => .ref (ad p.1 p.2)
  | .inr (.inr z) => .long (Int64.ofInt z)
def ax_rk (n : Nat → Int) (r : Rf) : Prop := ∀ p, r = some p → 0 ≤ p.2 ∧ p.2 < n p.1
/-- a value that may stand: in range, a reference to what has been made -/
def ax_k (n : Nat → Int) : Av → Prop
  | .inl z => ax_32 z
  | .inr (.inl r) => ax_rk n r
  | .inr (.inr z) => ax_32 z
def ax_f (ad : AD) (h : Hp) (k : Nat) (i : Int) (b : Bool) (j : Nat) : Value := if b = true then va_rf ((h.2.1 k i j).map fun p => ad p.1 p.2) else .int (Int32.ofInt (h.1 k i j))
def ax_e (cA : Nat → ClassId) (ad : AD) (h : Hp) (k : Nat) (i : Int) : va_E :=
  if (ax_kd k).1 < 8 then .inr ((ax_kd k).1, (List.range (ax_kd k).2).map (fun j => ax_f ad h k i (ax_rf (ax_kd k).1 j) j))
  else if (ax_kd k).1 < 10 then .inl (cA (ax_kd k).1, (ax_kd k).2, .inl (fun j => Int32.ofInt (h.1 k i j)))
  else if (ax_kd k).1 = 10 then .inl (cA (ax_kd k).1, (ax_kd k).2, .inr (.inl (fun j => Int64.ofInt (h.1 k i j))))
  else .inl (cA (ax_kd k).1, (ax_kd k).2, .inr (.inr (.inr (.inr (fun j => (h.2.1 k i j).map fun p => ad p.1 p.2)))))
/-- the heap H holds the abstract heap h, at the addresses ad, all of them from z0 on -/
def ax_R (D : va_G) (cA : Nat → ClassId) (z0 : Nat) (ad : AD) (h : Hp) (H : Heap) : Prop :=
  (∀ (k : Nat) (i : Int), (ax_kd k).1 < 14 → 0 ≤ i → i < h.2.2 k → va_at D vwCl (ad k i, ax_e cA ad h k i) H ∧ z0 ≤ ad k i) ∧
  (∀ (k : Nat) (i : Int) (k' : Nat) (i' : Int), (ax_kd k).1 < 14 → (ax_kd k').1 < 14 → 0 ≤ i → i < h.2.2 k → 0 ≤ i' → i' < h.2.2 k' → ad k i = ad k' i' → k = k' ∧ i = i') ∧
  (∀ (k : Nat) (i j : Int), ax_32 (h.1 k i j)) ∧ (∀ (k : Nat) (i j : Int), 0 ≤ i → i < h.2.2 k → ax_rk h.2.2 (h.2.1 k i j)) ∧ ∀ k : Nat, 0 ≤ h.2.2 k
def ax_ty (cA : Nat → ClassId) : List (ClassId × FieldType) := [(cA 8, .int), (cA 9, .boolean), (cA 10, .long), (cA 11, .object "BoxPool$Booking"), (cA 12, .object "BoxPool$Box"), (cA 13, .array .int)]
/-- the locals: none where nothing is said -/
def ax_L (ad : AD) (nL : Nat) (ls : Array Slot) (xs : List (Option Av)) : Prop := ls.size = nL ∧ lv_wf ls ∧ (∀ (i : Nat) (v : Av), xs[i]? = some (some v) → ls[i]? = some (.val (ax_v ad v)) ∧ (ax_v ad v).category = 1)
def ax_ext (n0 : Nat → Int) (ad0 : AD) (n : Nat → Int) (ad : AD) : Prop := ∀ (k : Nat) (i : Int), 0 ≤ i → i < n0 k → i < n k ∧ ad k i = ad0 k i
/-- the words that hold at every method -/
def ax_GT : List Cond := lw_tbl.filter goodWord
/-- words of the tables that aren't good ones -/
def ax_NW : List Cond := [.castable "java/lang/IndexOutOfBoundsException" "java/lang/IndexOutOfBoundsException", .castable "java/lang/IllegalArgumentException" "java/lang/IllegalArgumentException", .castable "java/lang/IllegalStateException" "java/lang/IllegalStateException",
  .declares ⟨"java/lang/RuntimeException", "<init>", "()V"⟩, .declares ⟨"java/lang/RuntimeException", "<init>", "(Ljava/lang/String;)V"⟩, .declares ⟨"java/lang/Exception", "<init>", "()V"⟩, .declares ⟨"java/lang/Exception", "<init>", "(Ljava/lang/String;)V"⟩, .declares ⟨"java/lang/Throwable", "<init>", "()V"⟩, .declares ⟨"java/lang/Throwable", "<init>", "(Ljava/lang/String;)V"⟩,
  .methodLinkNest RX6 35 yX5_init RX6, .methodLinkNest RX1 11 yX4_init RX6, .methodLinkNest RX1 20 yX3_init RX6, .methodLinkNest RX1 27 yX2_init RX6, .methodLinkNest RX5 47 yX6_isPort RX6]
def ax_strs : List (Nat × String) := [(253, "no such port"), (62, "a box is brought from a port to another one"), (262, "an argument is out of range"), (258, "no such lessor"), (79, "there are 40 boxes"), (266, "no such box"), (264, "the box is GONE"), (109, "the box has 30 reports"), (139, "the box is the line's own"), (148, "the box has had 10 leases"), (156, "the box is not on lease today"), (158, "the box is at no port"), (163, "the box is given to a booking"), (169, "the quota is used up"), (260, "no such code"), (190, "the box has 12 damages"), (197, "the box has no damage that counts"), (199, "mending costs more than the limit"), (204, "there are 20 bookings"), (268, "no such booking"), (219, "the booking is over"), (287, "more than 5 units lack"), (232, "no such unit"), (245, "what is out of range"), (251, "the day would be above 9999")]
def ax_AOA (U : State) : Prop := (Cond.arrayOver (.array .int)).before #[] U = true
def ax_N (s : State) : Prop := (∀ w ∈ ax_NW, va_Nw w s) ∧ va_AO "BoxPool$Box" s ∧ va_AO "BoxPool$Booking" s ∧ ax_AOA s ∧ (∀ q ∈ ax_strs, ∃ a, vk_R RX6 q.1 q.2 a s) ∧
  (∀ q ∈ [("java/lang/IndexOutOfBoundsException", "java/lang/IllegalArgumentException"), ("java/lang/IndexOutOfBoundsException", "java/lang/IllegalStateException"), ("java/lang/IllegalArgumentException", "java/lang/IndexOutOfBoundsException"), ("java/lang/IllegalArgumentException", "java/lang/IllegalStateException"), ("java/lang/IllegalStateException", "java/lang/IndexOutOfBoundsException"), ("java/lang/IllegalStateException", "java/lang/IllegalArgumentException")], va_Nc q.1 q.2 s)
theorem ax_AOA.moved {u U : State} (hvm : u.vm.Alike U.vm) (h : ax_AOA u) : ax_AOA U := by
  obtain ⟨comp, c, k, h1, h2, h3, h4, h5⟩ := arrayOverA_spec h
  obtain ⟨k', hk', he⟩ := hvm.2.2 _ _ h3
  have e1 := va_idx_bare U.vm comp
  have e2 := va_idx_bare u.vm comp
  have e3 : U.vm.bare = u.vm.bare := by first | exact hvm.bare_eq | exact hvm.bare_eq.symm
  rw [e3] at e1
  have hi := (e1.symm.trans e2).trans h2
  have hkind : k'.kind = .array comp (.array .int) := by rw [he]; exact h4
  have f1 : U.vm.findClass (FieldType.array .int).toString = some comp := by rw [hvm.findClass]; exact h1
  have f2 : U.vm.findClass ("[" ++ (FieldType.array .int).toString) = some c := by rw [hvm.findClass]; exact h5
  unfold ax_AOA Cond.before Cond.holds
  simp only [Cond.value]
  rw [f1, Option.bind_some]
  refine (congrArg (fun o : Option Nat => (o.bind (fun c => (U.vm.classes[c]?).map fun (k : Class) => match k.kind with | .array _ ty => decide (ty = FieldType.array .int) && decide (U.vm.findClass ("[" ++ (FieldType.array .int).toString) = some c) | _ => false) == some true)) hi).trans ?_
  simp [hk', hkind, f2]
theorem ax_N.warm {s U : State} (hW : s.WarmedH U.vm) (h : ax_N s) : ax_N U := by
  obtain ⟨h1, h2, h3, h4, h5, h6⟩ := h
  refine ⟨fun w hw => ?_, va_AO.moved hW.alike h2, va_AO.moved hW.alike h3, ax_AOA.moved hW.alike h4, fun q hq => ?_, fun q hq => va_Nc.moved hW.alike (h6 q hq)⟩
  · have h9 := h1 w hw
    simp only [ax_NW, List.mem_cons, List.not_mem_nil, or_false] at hw
    rcases hw with rfl | rfl | rfl | rfl | rfl | rfl | rfl | rfl | rfl | rfl | rfl | rfl | rfl | rfl
    all_goals first | exact va_Nw.warmC hW h9 | exact va_Nw.warmD hW h9 | exact va_Nw.warmM hW h9
  · obtain ⟨a, ha⟩ := h5 q hq
    exact ⟨a, vk_R.warm hW ha⟩
/-- what a method's body has of the machine: its code, its class, the tables' words, the classes, the two statics that a throw reads -/
def ax_Cx (I : MI) (l : Launch) (p : Program) (s : State) (m : MethodId) (args : Array Value) (meth : Method) (c : Code) (D : va_G) (cA : Nat → ClassId) (z0 : Nat) (n0 : Nat → Int) (ad0 : AD) : Prop :=
  p.tables.exec = Jvm.exec ∧ c.code = mC I ∧ c.maxLocals = mL I ∧ s.vm.findClass (mOwn I) = some m.cls ∧ (∀ w ∈ ax_GT, w.before args s = true) ∧ va_K D vwCl (ax_ty cA) s ∧ ax_N s ∧
  vx_Zq Bundle.tN "UNASSIGNED_STACK" Bundle.steD (fun q => z0 ≤ q) s s.heap ∧ vx_Zq Bundle.tN "SUPPRESSED_SENTINEL" Bundle.listD (fun q => z0 ≤ q) s s.heap ∧
  meth.locks = false ∧ meth.name = (mY I).name ∧ l.stackTraces = false ∧ c.exceptionTable.toList = tableOf (mHH I) ∧ z0 ≤ s.heap.size ∧ meth.sig.returnType = mRet I ∧ ∀ q, mSc I = some q → 0 < n0 99 ∧ va_X (ad0 99 0) q.1 q.2 s s.heap ∧ ad0 99 0 < z0
def ax_Q (D : va_G) (cA : Nat → ClassId) (z0 : Nat) (n0 : Nat → Int) (ad0 : AD) (Q : Option Av → Hp → Prop) : Array Value → State → Outcome → State → Prop := fun _ st o t =>
  ∃ (r : Option Av) (h : Hp) (ad : AD), o = .returned (r.map (ax_v ad)) ∧ Q r h ∧ ax_R D cA z0 ad h t.heap ∧ ax_ext n0 ad0 h.2.2 ad ∧ (∀ v, r = some v → ax_k h.2.2 v) ∧ va_F (fun q => z0 ≤ q) st t
def ax_X (D : va_G) (cA : Nat → ClassId) (z0 : Nat) (n0 : Nat → Int) (ad0 : AD) (X : String → Hp → Prop) : String → State → State → Prop := fun E st t =>
  ∃ (h : Hp) (ad : AD), X E h ∧ ax_R D cA z0 ad h t.heap ∧ ax_ext n0 ad0 h.2.2 ad ∧ va_F (fun q => z0 ≤ q) st t
/-- all that is known at an instruction -/
def ax_B (I : MI) (l : Launch) (p : Program) (s : State) (m : MethodId) (args : Array Value) (meth : Method) (c : Code) (D : va_G) (cA : Nat → ClassId) (z0 : Nat) (n0 : Nat → Int) (ad0 ad : AD) (h : Hp) (H : Heap) (locs : List Loc) (ls : Array Slot) (xs : List (Option Av)) (st : List Av) : Prop :=
  ax_Cx I l p s m args meth c D cA z0 n0 ad0 ∧ ax_R D cA z0 ad h H ∧ va_S (fun q => z0 ≤ q) s.heap H locs ∧ ax_ext n0 ad0 h.2.2 ad ∧ ax_L ad (mL I) ls xs ∧ (∀ v, some v ∈ xs → ax_k h.2.2 v) ∧ ∀ v ∈ st, ax_k h.2.2 v
def Run (I : MI) (pc : Nat) (xs : List (Option Av)) (st : List Av) (h : Hp) (cs sl : Nat) (Q : Option Av → Hp → Prop) (X : String → Hp → Prop) : Prop :=
  ∀ (l : Launch) (p : Program) (e : Env) (s : State) (m : MethodId) (args : Array Value) (below : List Frame) (meth : Method) (c : Code) (D : va_G) (cA : Nat → ClassId) (z0 : Nat) (n0 : Nat → Int) (ad0 ad : AD) (H : Heap) (locs : List Loc) (ls : Array Slot),
    ax_B I l p s m args meth c D cA z0 n0 ad0 ad h H locs ls xs st →
    W p l e (mRm I) s m args below meth c H locs cs sl (vx_MQ below (ax_Q D cA z0 n0 ad0 Q) (ax_X D cA z0 n0 ad0 X) args s (mRm I).cells (mRm I).slots (fun q => z0 ≤ q)) (F0 m pc ls (st.map (ax_v ad)))
/-- a contract: called with av in h, the method comes back with Q, or throws with X -/
def ax_ws (I : MI) : List Cond := (match mHH I with | [] => .code (mY I) (mC I) (mL I) (mRet I) | hh => .codeWith (mY I) (mC I) (mL I) (mRet I) hh) :: ax_GT
def ax_P (D : va_G) (cA : Nat → ClassId) (z0 : Nat) (ad : AD) (av : List Av) (h : Hp) : Array Value → State → Prop := va_Pc (av.map (ax_v ad)) (fun U => ax_R D cA z0 ad h U.heap ∧ va_K D vwCl (ax_ty cA) U ∧ ax_N U ∧
  vx_Zq Bundle.tN "UNASSIGNED_STACK" Bundle.steD (fun q => z0 ≤ q) U U.heap ∧ vx_Zq Bundle.tN "SUPPRESSED_SENTINEL" Bundle.listD (fun q => z0 ≤ q) U U.heap ∧ z0 ≤ U.heap.size ∧ ∀ v ∈ av, ax_k h.2.2 v)
def Con (I : MI) (av : List Av) (h : Hp) (Q : Option Av → Hp → Prop) (X : String → Hp → Prop) : Prop :=
  ∀ (l : Launch) (D : va_G) (cA : Nat → ClassId) (z0 : Nat) (ad : AD), l.stackTraces = false →
    vx_Met l (mY I) (ax_ws I) (mRm I) (ax_P D cA z0 ad av h) (ax_Q D cA z0 h.2.2 ad Q) (ax_X D cA z0 h.2.2 ad X) (mRm I).cells (mRm I).slots (fun q => z0 ≤ q)
end
section
/-! ===== rows of the abstract machine ===== -/
theorem ax_to {z : Int} (h : ax_32 z) : (Int32.ofInt z).toInt = z := Int32.toInt_ofInt_of_le h.1 (by have := h.2; omega)
theorem ax_lt {x y : Int} (hx : ax_32 x) (hy : ax_32 y) : Int32.ofInt x < Int32.ofInt y ↔ x < y := by rw [Int32.lt_iff_toInt_lt, ax_to hx, ax_to hy]
theorem ax_le {x y : Int} (hx : ax_32 x) (hy : ax_32 y) : Int32.ofInt x ≤ Int32.ofInt y ↔ x ≤ y := by rw [Int32.le_iff_toInt_le, ax_to hx, ax_to hy]
theorem ax_eq {x y : Int} (hx : ax_32 x) (hy : ax_32 y) : Int32.ofInt x = Int32.ofInt y ↔ x = y := by rw [← Int32.toInt_inj, ax_to hx, ax_to hy]
theorem ax_cl {z : Int} (h : ax_32 z) : (Int32.ofInt z).toNatClampNeg = z.toNat := by
  show (Int32.ofInt z).toInt.toNat = z.toNat
  rw [ax_to h]
theorem ax_in {z : Int} {n : Nat} (h : ax_32 z) (h0 : 0 ≤ z) (h1 : z < n) : vp_in (Int32.ofInt z) n := by
  intro q
  rcases q with q | q
  · rw [Int32.lt_iff_toInt_lt, ax_to h] at q
    have : (0 : Int32).toInt = 0 := rfl
    omega
  · rw [ax_cl h] at q
    omega
theorem ax_to64 {z : Int} (h : ax_32 z) : (Int64.ofInt z).toInt = z := Int64.toInt_ofInt_of_le (by have := h.1; omega) (by have := h.2; omega)
theorem ax_i2l {z : Int} (h : ax_32 z) : (Int32.ofInt z).toInt64 = Int64.ofInt z := by
  apply Int64.toInt_inj.mp
  rw [Int32.toInt_toInt64, ax_to h, ax_to64 h]
def ax_ls (ad : AD) (xs : List (Option Av)) : List (Nat × Value) := (List.range xs.length).filterMap (fun i => match xs[i]? with | some (some v) => some (i, ax_v ad v) | _ => none)
theorem ax_ls_mem {ad : AD} {xs : List (Option Av)} {i : Nat} {w : Value} : (i, w) ∈ ax_ls ad xs ↔ ∃ v, xs[i]? = some (some v) ∧ w = ax_v ad v := by
  unfold ax_ls
  rw [List.mem_filterMap]
  constructor
  · rintro ⟨j, -, hj⟩
    split at hj
    next v hv => cases hj; exact ⟨v, hv, rfl⟩
    next => cases hj
  · rintro ⟨v, hv, rfl⟩
    exact ⟨i, List.mem_range.mpr (List.getElem?_eq_some_iff.mp hv).1, by rw [hv]⟩
theorem ax_L.has {ad : AD} {nL : Nat} {ls : Array Slot} {xs : List (Option Av)} (h : ax_L ad nL ls xs) : lv_has ls nL (ax_ls ad xs) := ⟨h.1, h.2.1, fun q hq => by
  obtain ⟨i, w⟩ := q
  obtain ⟨v, h1, rfl⟩ := ax_ls_mem.mp hq
  exact (h.2.2 i v h1).1⟩
theorem ax_L.put {ad : AD} {nL i : Nat} {ls ls' : Array Slot} {xs xs' : List (Option Av)} {v : Av} (h : ax_L ad nL ls xs) (hv : (ax_v ad v).category = 1)
    (hl : lv_has ls' nL ((i, ax_v ad v) :: (ax_ls ad xs).filter (fun q => !(q.1 == i) && !(q.1 + 1 == i && q.2.category == 2)))) (hx : xs.set i (some v) = xs') : ax_L ad nL ls' xs' := by
  subst hx
  refine ⟨hl.1, hl.2.1, fun j w hj => ?_⟩
  by_cases e : j = i
  · subst e
    rw [List.getElem?_set] at hj
    split at hj
    next => 
      split at hj
      next => cases hj; exact ⟨hl.2.2 (j, ax_v ad v) List.mem_cons_self, hv⟩
      next => cases hj
    next hn => exact absurd rfl hn
  · rw [List.getElem?_set_ne (Ne.symm e)] at hj
    have h9 := h.2.2 j w hj
    refine ⟨hl.2.2 (j, ax_v ad w) (List.mem_cons_of_mem _ (List.mem_filter.mpr ⟨ax_ls_mem.mpr ⟨w, hj, rfl⟩, ?_⟩)), h9.2⟩
    simp [e, h9.2]
theorem ax_xs {n : Nat → Int} {xs xs' : List (Option Av)} {i : Nat} {v : Av} (h : ∀ v, some v ∈ xs → ax_k n v) (hv : ax_k n v) (hx : xs.set i (some v) = xs') : ∀ v, some v ∈ xs' → ax_k n v := by
  subst hx
  intro w hw
  rcases List.mem_or_eq_of_mem_set hw with h1 | h1
  · exact h w h1
  · cases h1; exact hv
theorem ax_xk {n : Nat → Int} {xs : List (Option Av)} {i : Nat} {v : Av} (h : ∀ v, some v ∈ xs → ax_k n v) (hi : xs[i]? = some (some v)) : ax_k n v := h v (List.mem_of_getElem? hi)

theorem r_iconst {I : MI} {pc : Nat} {xs : List (Option Av)} {st : List Av} {h : Hp} {cs sl : Nat} {Q : Option Av → Hp → Prop} {X : String → Hp → Prop} {n : Int} (hd : decode (mC I) pc = .ok (.iconst n, 1)) (hz : -2147483648 ≤ n ∧ n ≤ 2147483647) (k : Run I (pc + 1) xs (aI n :: st) h cs sl Q X) : Run I pc xs (st) h cs sl Q X := by
  intro l p e s m args below meth c D cA z0 n0 ad0 ad H locs ls B
  obtain ⟨hC, hR, hS, hE, hL, hxs, hst⟩ := B
  exact lv_iconst hC.1 hC.2.1 hd rfl (k l p e s m args below meth c D cA z0 n0 ad0 ad H locs ls ⟨hC, hR, hS, hE, hL, hxs, List.forall_mem_cons.mpr ⟨hz, hst⟩⟩)

theorem r_bipush {I : MI} {pc : Nat} {xs : List (Option Av)} {st : List Av} {h : Hp} {cs sl : Nat} {Q : Option Av → Hp → Prop} {X : String → Hp → Prop} {n : Int} (hd : decode (mC I) pc = .ok (.bipush n, 2)) (hv : (Int8.ofInt n).toInt32 = Int32.ofInt n) (hz : -2147483648 ≤ n ∧ n ≤ 2147483647) (k : Run I (pc + 2) xs (aI n :: st) h cs sl Q X) : Run I pc xs (st) h cs sl Q X := by
  intro l p e s m args below meth c D cA z0 n0 ad0 ad H locs ls B
  obtain ⟨hC, hR, hS, hE, hL, hxs, hst⟩ := B
  exact lv_bipush hC.1 hC.2.1 hd hv (k l p e s m args below meth c D cA z0 n0 ad0 ad H locs ls ⟨hC, hR, hS, hE, hL, hxs, List.forall_mem_cons.mpr ⟨hz, hst⟩⟩)

theorem r_sipush {I : MI} {pc : Nat} {xs : List (Option Av)} {st : List Av} {h : Hp} {cs sl : Nat} {Q : Option Av → Hp → Prop} {X : String → Hp → Prop} {n : Int} (hd : decode (mC I) pc = .ok (.sipush n, 3)) (hv : (Int16.ofInt n).toInt32 = Int32.ofInt n) (hz : -2147483648 ≤ n ∧ n ≤ 2147483647) (k : Run I (pc + 3) xs (aI n :: st) h cs sl Q X) : Run I pc xs (st) h cs sl Q X := by
  intro l p e s m args below meth c D cA z0 n0 ad0 ad H locs ls B
  obtain ⟨hC, hR, hS, hE, hL, hxs, hst⟩ := B
  exact lv_sipush hC.1 hC.2.1 hd hv (k l p e s m args below meth c D cA z0 n0 ad0 ad H locs ls ⟨hC, hR, hS, hE, hL, hxs, List.forall_mem_cons.mpr ⟨hz, hst⟩⟩)

theorem r_ldc {I : MI} {pc : Nat} {xs : List (Option Av)} {st : List Av} {h : Hp} {cs sl : Nat} {Q : Option Av → Hp → Prop} {X : String → Hp → Prop} {index : Nat} {n : Int} {v : Int32} (hd : decode (mC I) pc = .ok (.ldc index, 2)) (hw : (Cond.constant (mOwn I) index v) ∈ ax_GT) (hv : v = Int32.ofInt n) (hz : -2147483648 ≤ n ∧ n ≤ 2147483647) (k : Run I (pc + 2) xs (aI n :: st) h cs sl Q X) : Run I pc xs (st) h cs sl Q X := by
  intro l p e s m args below meth c D cA z0 n0 ad0 ad H locs ls B
  obtain ⟨hC, hR, hS, hE, hL, hxs, hst⟩ := B
  subst hv
  exact lv_ldc hC.1 hC.2.1 hC.2.2.2.1 (hC.2.2.2.2.1 _ hw) hd (k l p e s m args below meth c D cA z0 n0 ad0 ad H locs ls ⟨hC, hR, hS, hE, hL, hxs, List.forall_mem_cons.mpr ⟨hz, hst⟩⟩)

theorem r_ldcw {I : MI} {pc : Nat} {xs : List (Option Av)} {st : List Av} {h : Hp} {cs sl : Nat} {Q : Option Av → Hp → Prop} {X : String → Hp → Prop} {index : Nat} {n : Int} {v : Int32} (hd : decode (mC I) pc = .ok (.ldc_w index, 3)) (hw : (Cond.constant (mOwn I) index v) ∈ ax_GT) (hv : v = Int32.ofInt n) (hz : -2147483648 ≤ n ∧ n ≤ 2147483647) (k : Run I (pc + 3) xs (aI n :: st) h cs sl Q X) : Run I pc xs (st) h cs sl Q X := by
  intro l p e s m args below meth c D cA z0 n0 ad0 ad H locs ls B
  obtain ⟨hC, hR, hS, hE, hL, hxs, hst⟩ := B
  subst hv
  exact lv_ldcw hC.1 hC.2.1 hC.2.2.2.1 (hC.2.2.2.2.1 _ hw) hd (k l p e s m args below meth c D cA z0 n0 ad0 ad H locs ls ⟨hC, hR, hS, hE, hL, hxs, List.forall_mem_cons.mpr ⟨hz, hst⟩⟩)

theorem r_lconst {I : MI} {pc : Nat} {xs : List (Option Av)} {st : List Av} {h : Hp} {cs sl : Nat} {Q : Option Av → Hp → Prop} {X : String → Hp → Prop} {n : Fin 2} {v : Int} (hd : decode (mC I) pc = .ok (.lconst n, 1)) (hv : Int64.ofNat (n : Nat) = Int64.ofInt v) (hz : -2147483648 ≤ v ∧ v ≤ 2147483647) (k : Run I (pc + 1) xs (aL v :: st) h cs sl Q X) : Run I pc xs (st) h cs sl Q X := by
  intro l p e s m args below meth c D cA z0 n0 ad0 ad H locs ls B
  obtain ⟨hC, hR, hS, hE, hL, hxs, hst⟩ := B
  exact lv_lconst hC.1 hC.2.1 hd hv (k l p e s m args below meth c D cA z0 n0 ad0 ad H locs ls ⟨hC, hR, hS, hE, hL, hxs, List.forall_mem_cons.mpr ⟨hz, hst⟩⟩)

theorem r_null {I : MI} {pc : Nat} {xs : List (Option Av)} {st : List Av} {h : Hp} {cs sl : Nat} {Q : Option Av → Hp → Prop} {X : String → Hp → Prop} (hd : decode (mC I) pc = .ok (.aconst_null, 1)) (k : Run I (pc + 1) xs (aN :: st) h cs sl Q X) : Run I pc xs (st) h cs sl Q X := by
  intro l p e s m args below meth c D cA z0 n0 ad0 ad H locs ls B
  obtain ⟨hC, hR, hS, hE, hL, hxs, hst⟩ := B
  exact lv_null hC.1 hC.2.1 hd (k l p e s m args below meth c D cA z0 n0 ad0 ad H locs ls ⟨hC, hR, hS, hE, hL, hxs, List.forall_mem_cons.mpr ⟨(fun _ q => by cases q), hst⟩⟩)

theorem r_iload_n {I : MI} {pc : Nat} {xs : List (Option Av)} {st : List Av} {h : Hp} {cs sl : Nat} {Q : Option Av → Hp → Prop} {X : String → Hp → Prop} {k9 : Fin 4} {x : Int} (hd : decode (mC I) pc = .ok (.iload_n k9, 1)) (hx : xs[(k9 : Nat)]? = some (some (aI x))) (k : Run I (pc + 1) xs (aI x :: st) h cs sl Q X) : Run I pc xs (st) h cs sl Q X := by
  intro l p e s m args below meth c D cA z0 n0 ad0 ad H locs ls B
  obtain ⟨hC, hR, hS, hE, hL, hxs, hst⟩ := B
  exact lv_iload_n hC.1 hC.2.1 hd rfl (hL.2.2 _ _ hx).1 (k l p e s m args below meth c D cA z0 n0 ad0 ad H locs ls ⟨hC, hR, hS, hE, hL, hxs, List.forall_mem_cons.mpr ⟨ax_xk hxs hx, hst⟩⟩)

theorem r_iload {I : MI} {pc : Nat} {xs : List (Option Av)} {st : List Av} {h : Hp} {cs sl : Nat} {Q : Option Av → Hp → Prop} {X : String → Hp → Prop} {i : Nat} {x : Int} (hd : decode (mC I) pc = .ok (.iload i, 2)) (hx : xs[i]? = some (some (aI x))) (k : Run I (pc + 2) xs (aI x :: st) h cs sl Q X) : Run I pc xs (st) h cs sl Q X := by
  intro l p e s m args below meth c D cA z0 n0 ad0 ad H locs ls B
  obtain ⟨hC, hR, hS, hE, hL, hxs, hst⟩ := B
  exact lv_iload hC.1 hC.2.1 hd (hL.2.2 _ _ hx).1 (k l p e s m args below meth c D cA z0 n0 ad0 ad H locs ls ⟨hC, hR, hS, hE, hL, hxs, List.forall_mem_cons.mpr ⟨ax_xk hxs hx, hst⟩⟩)

theorem r_aload_n {I : MI} {pc : Nat} {xs : List (Option Av)} {st : List Av} {h : Hp} {cs sl : Nat} {Q : Option Av → Hp → Prop} {X : String → Hp → Prop} {k9 : Fin 4} {x : Rf} (hd : decode (mC I) pc = .ok (.aload_n k9, 1)) (hx : xs[(k9 : Nat)]? = some (some (aQ x))) (k : Run I (pc + 1) xs (aQ x :: st) h cs sl Q X) : Run I pc xs (st) h cs sl Q X := by
  intro l p e s m args below meth c D cA z0 n0 ad0 ad H locs ls B
  obtain ⟨hC, hR, hS, hE, hL, hxs, hst⟩ := B
  have hk := k l p e s m args below meth c D cA z0 n0 ad0 ad H locs ls ⟨hC, hR, hS, hE, hL, hxs, List.forall_mem_cons.mpr ⟨ax_xk hxs hx, hst⟩⟩
  have hx1 := (hL.2.2 _ _ hx).1
  cases x with
  | none => exact lv_aload_nN hC.1 hC.2.1 hd rfl hx1 hk
  | some q => exact lv_aload_n hC.1 hC.2.1 hd rfl hx1 hk

theorem r_aload {I : MI} {pc : Nat} {xs : List (Option Av)} {st : List Av} {h : Hp} {cs sl : Nat} {Q : Option Av → Hp → Prop} {X : String → Hp → Prop} {i : Nat} {x : Rf} (hd : decode (mC I) pc = .ok (.aload i, 2)) (hx : xs[i]? = some (some (aQ x))) (k : Run I (pc + 2) xs (aQ x :: st) h cs sl Q X) : Run I pc xs (st) h cs sl Q X := by
  intro l p e s m args below meth c D cA z0 n0 ad0 ad H locs ls B
  obtain ⟨hC, hR, hS, hE, hL, hxs, hst⟩ := B
  have hk := k l p e s m args below meth c D cA z0 n0 ad0 ad H locs ls ⟨hC, hR, hS, hE, hL, hxs, List.forall_mem_cons.mpr ⟨ax_xk hxs hx, hst⟩⟩
  have hx1 := (hL.2.2 _ _ hx).1
  cases x with
  | none => exact lv_aloadN hC.1 hC.2.1 hd hx1 hk
  | some q => exact lv_aload hC.1 hC.2.1 hd hx1 hk

theorem r_istore_n {I : MI} {pc : Nat} {xs : List (Option Av)} {st : List Av} {h : Hp} {cs sl : Nat} {Q : Option Av → Hp → Prop} {X : String → Hp → Prop} {k9 : Fin 4} {x : Int} {xs' : List (Option Av)} (hd : decode (mC I) pc = .ok (.istore_n k9, 1)) (hn : (k9 : Nat) < mL I) (hx : xs.set (k9 : Nat) (some (aI x)) = xs') (k : Run I (pc + 1) xs' (st) h cs sl Q X) : Run I pc xs (aI x :: st) h cs sl Q X := by
  intro l p e s m args below meth c D cA z0 n0 ad0 ad H locs ls B
  obtain ⟨hC, hR, hS, hE, hL, hxs, hst⟩ := B
  exact lv_istore_n hC.1 hC.2.1 hd rfl hL.has hn rfl (fun ls' hl' => k l p e s m args below meth c D cA z0 n0 ad0 ad H locs ls' ⟨hC, hR, hS, hE, hL.put rfl hl' hx, ax_xs hxs (hst _ List.mem_cons_self) hx, fun v hv => hst v (List.mem_cons_of_mem _ hv)⟩)

theorem r_istore {I : MI} {pc : Nat} {xs : List (Option Av)} {st : List Av} {h : Hp} {cs sl : Nat} {Q : Option Av → Hp → Prop} {X : String → Hp → Prop} {i : Nat} {x : Int} {xs' : List (Option Av)} (hd : decode (mC I) pc = .ok (.istore i, 2)) (hn : i < mL I) (hx : xs.set i (some (aI x)) = xs') (k : Run I (pc + 2) xs' (st) h cs sl Q X) : Run I pc xs (aI x :: st) h cs sl Q X := by
  intro l p e s m args below meth c D cA z0 n0 ad0 ad H locs ls B
  obtain ⟨hC, hR, hS, hE, hL, hxs, hst⟩ := B
  exact lv_istore hC.1 hC.2.1 hd hL.has hn rfl (fun ls' hl' => k l p e s m args below meth c D cA z0 n0 ad0 ad H locs ls' ⟨hC, hR, hS, hE, hL.put rfl hl' hx, ax_xs hxs (hst _ List.mem_cons_self) hx, fun v hv => hst v (List.mem_cons_of_mem _ hv)⟩)

theorem r_astore_n {I : MI} {pc : Nat} {xs : List (Option Av)} {st : List Av} {h : Hp} {cs sl : Nat} {Q : Option Av → Hp → Prop} {X : String → Hp → Prop} {k9 : Fin 4} {x : Rf} {xs' : List (Option Av)} (hd : decode (mC I) pc = .ok (.astore_n k9, 1)) (hn : (k9 : Nat) < mL I) (hx : xs.set (k9 : Nat) (some (aQ x)) = xs') (k : Run I (pc + 1) xs' (st) h cs sl Q X) : Run I pc xs (aQ x :: st) h cs sl Q X := by
  intro l p e s m args below meth c D cA z0 n0 ad0 ad H locs ls B
  obtain ⟨hC, hR, hS, hE, hL, hxs, hst⟩ := B
  cases x with
  | none => exact lv_astore_nN hC.1 hC.2.1 hd rfl hL.has hn rfl (fun ls' hl' => k l p e s m args below meth c D cA z0 n0 ad0 ad H locs ls' ⟨hC, hR, hS, hE, hL.put rfl hl' hx, ax_xs hxs (hst _ List.mem_cons_self) hx, fun v hv => hst v (List.mem_cons_of_mem _ hv)⟩)
  | some q => exact lv_astore_n hC.1 hC.2.1 hd rfl hL.has hn rfl (fun ls' hl' => k l p e s m args below meth c D cA z0 n0 ad0 ad H locs ls' ⟨hC, hR, hS, hE, hL.put rfl hl' hx, ax_xs hxs (hst _ List.mem_cons_self) hx, fun v hv => hst v (List.mem_cons_of_mem _ hv)⟩)

theorem r_astore {I : MI} {pc : Nat} {xs : List (Option Av)} {st : List Av} {h : Hp} {cs sl : Nat} {Q : Option Av → Hp → Prop} {X : String → Hp → Prop} {i : Nat} {x : Rf} {xs' : List (Option Av)} (hd : decode (mC I) pc = .ok (.astore i, 2)) (hn : i < mL I) (hx : xs.set i (some (aQ x)) = xs') (k : Run I (pc + 2) xs' (st) h cs sl Q X) : Run I pc xs (aQ x :: st) h cs sl Q X := by
  intro l p e s m args below meth c D cA z0 n0 ad0 ad H locs ls B
  obtain ⟨hC, hR, hS, hE, hL, hxs, hst⟩ := B
  cases x with
  | none => exact lv_astoreN hC.1 hC.2.1 hd hL.has hn rfl (fun ls' hl' => k l p e s m args below meth c D cA z0 n0 ad0 ad H locs ls' ⟨hC, hR, hS, hE, hL.put rfl hl' hx, ax_xs hxs (hst _ List.mem_cons_self) hx, fun v hv => hst v (List.mem_cons_of_mem _ hv)⟩)
  | some q => exact lv_astore hC.1 hC.2.1 hd hL.has hn rfl (fun ls' hl' => k l p e s m args below meth c D cA z0 n0 ad0 ad H locs ls' ⟨hC, hR, hS, hE, hL.put rfl hl' hx, ax_xs hxs (hst _ List.mem_cons_self) hx, fun v hv => hst v (List.mem_cons_of_mem _ hv)⟩)

theorem r_iinc {I : MI} {pc : Nat} {xs : List (Option Av)} {st : List Av} {h : Hp} {cs sl : Nat} {Q : Option Av → Hp → Prop} {X : String → Hp → Prop} {i : Nat} {n x : Int} {xs' : List (Option Av)} (hd : decode (mC I) pc = .ok (.iinc i n, 3)) (hx : xs[i]? = some (some (aI x))) (hn : i < mL I) (hz : -2147483648 ≤ x + n ∧ x + n ≤ 2147483647) (hs : xs.set i (some (aI (x + n))) = xs') (k : Run I (pc + 3) xs' (st) h cs sl Q X) : Run I pc xs (st) h cs sl Q X := by
  intro l p e s m args below meth c D cA z0 n0 ad0 ad H locs ls B
  obtain ⟨hC, hR, hS, hE, hL, hxs, hst⟩ := B
  obtain ⟨j, hj⟩ := List.getElem?_of_mem (ax_ls_mem.mpr ⟨_, hx, rfl⟩ : (i, ax_v ad (aI x)) ∈ ax_ls ad xs)
  exact lv_iinc (v := Int32.ofInt (x + n)) hC.1 hC.2.1 hd hL.has (k := j) hj (Int32.ofInt_add x n).symm hn rfl (fun ls' hl' => k l p e s m args below meth c D cA z0 n0 ad0 ad H locs ls' ⟨hC, hR, hS, hE, hL.put (v := aI (x + n)) rfl hl' hs, ax_xs (v := aI (x + n)) hxs hz hs, hst⟩)

theorem r_iadd {I : MI} {pc : Nat} {xs : List (Option Av)} {st : List Av} {h : Hp} {cs sl : Nat} {Q : Option Av → Hp → Prop} {X : String → Hp → Prop} {x y : Int} (hd : decode (mC I) pc = .ok (.iadd, 1)) (hz : -2147483648 ≤ x + y ∧ x + y ≤ 2147483647) (k : Run I (pc + 1) xs (aI (x + y) :: st) h cs sl Q X) : Run I pc xs (aI y :: aI x :: st) h cs sl Q X := by
  intro l p e s m args below meth c D cA z0 n0 ad0 ad H locs ls B
  obtain ⟨hC, hR, hS, hE, hL, hxs, hst⟩ := B
  refine lv_iadd hC.1 hC.2.1 hd ?_
  rw [← Int32.ofInt_add x y]
  exact k l p e s m args below meth c D cA z0 n0 ad0 ad H locs ls ⟨hC, hR, hS, hE, hL, hxs, List.forall_mem_cons.mpr ⟨hz, (fun v hv => hst v (List.mem_cons_of_mem _ (List.mem_cons_of_mem _ hv)))⟩⟩

theorem r_isub {I : MI} {pc : Nat} {xs : List (Option Av)} {st : List Av} {h : Hp} {cs sl : Nat} {Q : Option Av → Hp → Prop} {X : String → Hp → Prop} {x y : Int} (hd : decode (mC I) pc = .ok (.isub, 1)) (hz : -2147483648 ≤ x - y ∧ x - y ≤ 2147483647) (k : Run I (pc + 1) xs (aI (x - y) :: st) h cs sl Q X) : Run I pc xs (aI y :: aI x :: st) h cs sl Q X := by
  intro l p e s m args below meth c D cA z0 n0 ad0 ad H locs ls B
  obtain ⟨hC, hR, hS, hE, hL, hxs, hst⟩ := B
  refine lv_isub hC.1 hC.2.1 hd ?_
  rw [← Int32.ofInt_sub x y]
  exact k l p e s m args below meth c D cA z0 n0 ad0 ad H locs ls ⟨hC, hR, hS, hE, hL, hxs, List.forall_mem_cons.mpr ⟨hz, (fun v hv => hst v (List.mem_cons_of_mem _ (List.mem_cons_of_mem _ hv)))⟩⟩

theorem r_imul {I : MI} {pc : Nat} {xs : List (Option Av)} {st : List Av} {h : Hp} {cs sl : Nat} {Q : Option Av → Hp → Prop} {X : String → Hp → Prop} {x y : Int} (hd : decode (mC I) pc = .ok (.imul, 1)) (hz : -2147483648 ≤ x * y ∧ x * y ≤ 2147483647) (k : Run I (pc + 1) xs (aI (x * y) :: st) h cs sl Q X) : Run I pc xs (aI y :: aI x :: st) h cs sl Q X := by
  intro l p e s m args below meth c D cA z0 n0 ad0 ad H locs ls B
  obtain ⟨hC, hR, hS, hE, hL, hxs, hst⟩ := B
  refine lv_imul hC.1 hC.2.1 hd ?_
  rw [← Int32.ofInt_mul x y]
  exact k l p e s m args below meth c D cA z0 n0 ad0 ad H locs ls ⟨hC, hR, hS, hE, hL, hxs, List.forall_mem_cons.mpr ⟨hz, (fun v hv => hst v (List.mem_cons_of_mem _ (List.mem_cons_of_mem _ hv)))⟩⟩

theorem r_iand {I : MI} {pc : Nat} {xs : List (Option Av)} {st : List Av} {h : Hp} {cs sl : Nat} {Q : Option Av → Hp → Prop} {X : String → Hp → Prop} {x y z : Int} (hd : decode (mC I) pc = .ok (.iand, 1)) (hv : Int32.ofInt x &&& Int32.ofInt y = Int32.ofInt z) (hz : -2147483648 ≤ z ∧ z ≤ 2147483647) (k : Run I (pc + 1) xs (aI z :: st) h cs sl Q X) : Run I pc xs (aI y :: aI x :: st) h cs sl Q X := by
  intro l p e s m args below meth c D cA z0 n0 ad0 ad H locs ls B
  obtain ⟨hC, hR, hS, hE, hL, hxs, hst⟩ := B
  refine lv_iand hC.1 hC.2.1 hd ?_
  rw [hv]
  exact k l p e s m args below meth c D cA z0 n0 ad0 ad H locs ls ⟨hC, hR, hS, hE, hL, hxs, List.forall_mem_cons.mpr ⟨hz, (fun v hv => hst v (List.mem_cons_of_mem _ (List.mem_cons_of_mem _ hv)))⟩⟩

theorem r_ior {I : MI} {pc : Nat} {xs : List (Option Av)} {st : List Av} {h : Hp} {cs sl : Nat} {Q : Option Av → Hp → Prop} {X : String → Hp → Prop} {x y z : Int} (hd : decode (mC I) pc = .ok (.ior, 1)) (hv : Int32.ofInt x ||| Int32.ofInt y = Int32.ofInt z) (hz : -2147483648 ≤ z ∧ z ≤ 2147483647) (k : Run I (pc + 1) xs (aI z :: st) h cs sl Q X) : Run I pc xs (aI y :: aI x :: st) h cs sl Q X := by
  intro l p e s m args below meth c D cA z0 n0 ad0 ad H locs ls B
  obtain ⟨hC, hR, hS, hE, hL, hxs, hst⟩ := B
  refine lv_ior hC.1 hC.2.1 hd ?_
  rw [hv]
  exact k l p e s m args below meth c D cA z0 n0 ad0 ad H locs ls ⟨hC, hR, hS, hE, hL, hxs, List.forall_mem_cons.mpr ⟨hz, (fun v hv => hst v (List.mem_cons_of_mem _ (List.mem_cons_of_mem _ hv)))⟩⟩

theorem r_ixor {I : MI} {pc : Nat} {xs : List (Option Av)} {st : List Av} {h : Hp} {cs sl : Nat} {Q : Option Av → Hp → Prop} {X : String → Hp → Prop} {x y z : Int} (hd : decode (mC I) pc = .ok (.ixor, 1)) (hv : Int32.ofInt x ^^^ Int32.ofInt y = Int32.ofInt z) (hz : -2147483648 ≤ z ∧ z ≤ 2147483647) (k : Run I (pc + 1) xs (aI z :: st) h cs sl Q X) : Run I pc xs (aI y :: aI x :: st) h cs sl Q X := by
  intro l p e s m args below meth c D cA z0 n0 ad0 ad H locs ls B
  obtain ⟨hC, hR, hS, hE, hL, hxs, hst⟩ := B
  refine lv_ixor hC.1 hC.2.1 hd ?_
  rw [hv]
  exact k l p e s m args below meth c D cA z0 n0 ad0 ad H locs ls ⟨hC, hR, hS, hE, hL, hxs, List.forall_mem_cons.mpr ⟨hz, (fun v hv => hst v (List.mem_cons_of_mem _ (List.mem_cons_of_mem _ hv)))⟩⟩

theorem r_ishl {I : MI} {pc : Nat} {xs : List (Option Av)} {st : List Av} {h : Hp} {cs sl : Nat} {Q : Option Av → Hp → Prop} {X : String → Hp → Prop} {x y z : Int} (hd : decode (mC I) pc = .ok (.ishl, 1)) (hv : Int32.ofInt x <<< (Int32.ofInt y &&& 31) = Int32.ofInt z) (hz : -2147483648 ≤ z ∧ z ≤ 2147483647) (k : Run I (pc + 1) xs (aI z :: st) h cs sl Q X) : Run I pc xs (aI y :: aI x :: st) h cs sl Q X := by
  intro l p e s m args below meth c D cA z0 n0 ad0 ad H locs ls B
  obtain ⟨hC, hR, hS, hE, hL, hxs, hst⟩ := B
  refine lv_ishl hC.1 hC.2.1 hd ?_
  rw [hv]
  exact k l p e s m args below meth c D cA z0 n0 ad0 ad H locs ls ⟨hC, hR, hS, hE, hL, hxs, List.forall_mem_cons.mpr ⟨hz, (fun v hv => hst v (List.mem_cons_of_mem _ (List.mem_cons_of_mem _ hv)))⟩⟩

theorem r_ishr {I : MI} {pc : Nat} {xs : List (Option Av)} {st : List Av} {h : Hp} {cs sl : Nat} {Q : Option Av → Hp → Prop} {X : String → Hp → Prop} {x y z : Int} (hd : decode (mC I) pc = .ok (.ishr, 1)) (hv : Int32.ofInt x >>> (Int32.ofInt y &&& 31) = Int32.ofInt z) (hz : -2147483648 ≤ z ∧ z ≤ 2147483647) (k : Run I (pc + 1) xs (aI z :: st) h cs sl Q X) : Run I pc xs (aI y :: aI x :: st) h cs sl Q X := by
  intro l p e s m args below meth c D cA z0 n0 ad0 ad H locs ls B
  obtain ⟨hC, hR, hS, hE, hL, hxs, hst⟩ := B
  refine lv_ishr hC.1 hC.2.1 hd ?_
  rw [hv]
  exact k l p e s m args below meth c D cA z0 n0 ad0 ad H locs ls ⟨hC, hR, hS, hE, hL, hxs, List.forall_mem_cons.mpr ⟨hz, (fun v hv => hst v (List.mem_cons_of_mem _ (List.mem_cons_of_mem _ hv)))⟩⟩

theorem r_idiv {I : MI} {pc : Nat} {xs : List (Option Av)} {st : List Av} {h : Hp} {cs sl : Nat} {Q : Option Av → Hp → Prop} {X : String → Hp → Prop} {x y : Int} (hd : decode (mC I) pc = .ok (.idiv, 1)) (hx : 0 ≤ x) (hy : 0 < y) (k : Run I (pc + 1) xs (aI (x / y) :: st) h cs sl Q X) : Run I pc xs (aI y :: aI x :: st) h cs sl Q X := by
  intro l p e s m args below meth c D cA z0 n0 ad0 ad H locs ls B
  obtain ⟨hC, hR, hS, hE, hL, hxs, hst⟩ := B
  have kx : ax_32 x := hst _ (List.mem_cons_of_mem _ List.mem_cons_self)
  have ky : ax_32 y := hst _ List.mem_cons_self
  have hq : x / y ≤ x := Int.ediv_le_self y hx
  have hq0 : 0 ≤ x / y := Int.ediv_nonneg hx (Int.le_of_lt hy)
  have e9 : Int32.ofInt x / Int32.ofInt y = Int32.ofInt (x / y) := by
    have h1 : x / y = x.tdiv y := (Int.tdiv_eq_ediv_of_nonneg hx).symm
    rw [h1]
    exact (Int32.ofInt_tdiv kx.1 kx.2 ky.1 ky.2).symm
  have hne : ¬ Int32.ofInt y = 0 := fun q => by
    have := (ax_eq ky (show ax_32 0 from ⟨by omega, by omega⟩)).mp q
    omega
  refine lv_idiv hC.1 hC.2.1 hd hne ?_
  rw [e9]
  exact k l p e s m args below meth c D cA z0 n0 ad0 ad H locs ls ⟨hC, hR, hS, hE, hL, hxs, List.forall_mem_cons.mpr ⟨⟨by have := kx.1; omega, by have := kx.2; omega⟩, (fun v hv => hst v (List.mem_cons_of_mem _ (List.mem_cons_of_mem _ hv)))⟩⟩

theorem r_irem {I : MI} {pc : Nat} {xs : List (Option Av)} {st : List Av} {h : Hp} {cs sl : Nat} {Q : Option Av → Hp → Prop} {X : String → Hp → Prop} {x y : Int} (hd : decode (mC I) pc = .ok (.irem, 1)) (hx : 0 ≤ x) (hy : 0 < y) (k : Run I (pc + 1) xs (aI (x % y) :: st) h cs sl Q X) : Run I pc xs (aI y :: aI x :: st) h cs sl Q X := by
  intro l p e s m args below meth c D cA z0 n0 ad0 ad H locs ls B
  obtain ⟨hC, hR, hS, hE, hL, hxs, hst⟩ := B
  have kx : ax_32 x := hst _ (List.mem_cons_of_mem _ List.mem_cons_self)
  have ky : ax_32 y := hst _ List.mem_cons_self
  have hq : x % y < y := Int.emod_lt_of_pos x hy
  have hq0 : 0 ≤ x % y := Int.emod_nonneg x (by omega)
  have e1 : Int32.ofInt x / Int32.ofInt y = Int32.ofInt (x / y) := by
    have h1 : x / y = x.tdiv y := (Int.tdiv_eq_ediv_of_nonneg hx).symm
    rw [h1]
    exact (Int32.ofInt_tdiv kx.1 kx.2 ky.1 ky.2).symm
  have e9 : Int32.ofInt x - Int32.ofInt x / Int32.ofInt y * Int32.ofInt y = Int32.ofInt (x % y) := by
    rw [e1, ← Int32.ofInt_mul, ← Int32.ofInt_sub]
    congr 1
    rw [Int.emod_def, Int.mul_comm]
  have hne : ¬ Int32.ofInt y = 0 := fun q => by
    have := (ax_eq ky (show ax_32 0 from ⟨by omega, by omega⟩)).mp q
    omega
  refine lv_irem hC.1 hC.2.1 hd hne ?_
  rw [e9]
  exact k l p e s m args below meth c D cA z0 n0 ad0 ad H locs ls ⟨hC, hR, hS, hE, hL, hxs, List.forall_mem_cons.mpr ⟨⟨by have := kx.1; omega, by have := ky.2; omega⟩, (fun v hv => hst v (List.mem_cons_of_mem _ (List.mem_cons_of_mem _ hv)))⟩⟩

theorem r_i2l {I : MI} {pc : Nat} {xs : List (Option Av)} {st : List Av} {h : Hp} {cs sl : Nat} {Q : Option Av → Hp → Prop} {X : String → Hp → Prop} {x : Int} (hd : decode (mC I) pc = .ok (.i2l, 1)) (k : Run I (pc + 1) xs (aL x :: st) h cs sl Q X) : Run I pc xs (aI x :: st) h cs sl Q X := by
  intro l p e s m args below meth c D cA z0 n0 ad0 ad H locs ls B
  obtain ⟨hC, hR, hS, hE, hL, hxs, hst⟩ := B
  have kx : ax_32 x := hst _ List.mem_cons_self
  exact lv_i2l hC.1 hC.2.1 hd (ax_i2l kx) (k l p e s m args below meth c D cA z0 n0 ad0 ad H locs ls ⟨hC, hR, hS, hE, hL, hxs, List.forall_mem_cons.mpr ⟨kx, (fun v hv => hst v (List.mem_cons_of_mem _ hv))⟩⟩)

def ax_cmp (x y : Int) : Int := if y < x then 1 else if x = y then 0 else -1
theorem r_lcmp {I : MI} {pc : Nat} {xs : List (Option Av)} {st : List Av} {h : Hp} {cs sl : Nat} {Q : Option Av → Hp → Prop} {X : String → Hp → Prop} {x y : Int} (hd : decode (mC I) pc = .ok (.lcmp, 1)) (k : Run I (pc + 1) xs (aI (ax_cmp x y) :: st) h cs sl Q X) : Run I pc xs (aL y :: aL x :: st) h cs sl Q X := by
  intro l p e s m args below meth c D cA z0 n0 ad0 ad H locs ls B
  obtain ⟨hC, hR, hS, hE, hL, hxs, hst⟩ := B
  have kx : ax_32 x := hst _ (List.mem_cons_of_mem _ List.mem_cons_self)
  have ky : ax_32 y := hst _ List.mem_cons_self
  refine W.lcmp hC.1 hC.2.1 hd ?_
  have e9 : lg_cmp (Int64.ofInt x) (Int64.ofInt y) = Int32.ofInt (ax_cmp x y) := by
    unfold lg_cmp ax_cmp
    simp only [Int64.lt_iff_toInt_lt, ← Int64.toInt_inj, ax_to64 kx, ax_to64 ky]
    split <;> (try rfl)
    split <;> rfl
  rw [e9]
  refine k l p e s m args below meth c D cA z0 n0 ad0 ad H locs ls ⟨hC, hR, hS, hE, hL, hxs, List.forall_mem_cons.mpr ⟨?_, (fun v hv => hst v (List.mem_cons_of_mem _ (List.mem_cons_of_mem _ hv)))⟩⟩
  show ax_32 (ax_cmp x y)
  unfold ax_cmp ax_32
  split <;> (try split) <;> omega

theorem r_dup {I : MI} {pc : Nat} {xs : List (Option Av)} {st : List Av} {h : Hp} {cs sl : Nat} {Q : Option Av → Hp → Prop} {X : String → Hp → Prop} {v : Av} (hd : decode (mC I) pc = .ok (.dup, 1)) (hv : ∀ ad, (ax_v ad v).category = 1) (k : Run I (pc + 1) xs (v :: v :: st) h cs sl Q X) : Run I pc xs (v :: st) h cs sl Q X := by
  intro l p e s m args below meth c D cA z0 n0 ad0 ad H locs ls B
  obtain ⟨hC, hR, hS, hE, hL, hxs, hst⟩ := B
  exact lv_dup hC.1 hC.2.1 hd (hv ad) (k l p e s m args below meth c D cA z0 n0 ad0 ad H locs ls ⟨hC, hR, hS, hE, hL, hxs, List.forall_mem_cons.mpr ⟨hst _ List.mem_cons_self, hst⟩⟩)

theorem r_icmp_eq {I : MI} {pc : Nat} {xs : List (Option Av)} {st : List Av} {h : Hp} {cs sl : Nat} {Q : Option Av → Hp → Prop} {X : String → Hp → Prop} {x y : Int} {off : Int} {tgt : Nat} (hd : decode (mC I) pc = .ok (.if_icmp .eq off, 3)) (ht : (pc : Int) + off = (tgt : Int)) (kt : x = y → Run I tgt xs st h cs sl Q X) (kf : x ≠ y → Run I (pc + 3) xs st h cs sl Q X) : Run I pc xs (aI y :: aI x :: st) h cs sl Q X := by
  intro l p e s m args below meth c D cA z0 n0 ad0 ad H locs ls B
  obtain ⟨hC, hR, hS, hE, hL, hxs, hst⟩ := B
  have kx := (show ax_32 x from hst _ (List.mem_cons_of_mem _ List.mem_cons_self))
  have ky := (show ax_32 y from hst _ List.mem_cons_self)
  have q1 := ax_eq kx ky
  have q2 := ax_lt kx ky
  have q3 := ax_le kx ky
  have q4 := ax_lt ky kx
  have q5 := ax_le ky kx
  refine lv_icmp_eq hC.1 hC.2.1 hd ht (fun c9 => kt ?_ l p e s m args below meth c D cA z0 n0 ad0 ad H locs ls ⟨hC, hR, hS, hE, hL, hxs, (fun v hv => hst v (List.mem_cons_of_mem _ (List.mem_cons_of_mem _ hv)))⟩) (fun c9 => kf ?_ l p e s m args below meth c D cA z0 n0 ad0 ad H locs ls ⟨hC, hR, hS, hE, hL, hxs, (fun v hv => hst v (List.mem_cons_of_mem _ (List.mem_cons_of_mem _ hv)))⟩)
  · first | exact q1.mp c9 | exact q2.mp c9 | exact q3.mp c9 | exact q4.mp c9 | exact q5.mp c9 | exact fun z => c9 (q1.mpr z)
  · first | exact q1.mp c9 | exact fun z => c9 (q1.mpr z) | exact Classical.byContradiction (fun z => c9 (fun z2 => z (q1.mp z2))) | exact Int.not_lt.mp (fun z => c9 (q2.mpr z)) | exact Int.not_lt.mp (fun z => c9 (q4.mpr z)) | exact Int.not_le.mp (fun z => c9 (q3.mpr z)) | exact Int.not_le.mp (fun z => c9 (q5.mpr z))

theorem r_if_eq {I : MI} {pc : Nat} {xs : List (Option Av)} {st : List Av} {h : Hp} {cs sl : Nat} {Q : Option Av → Hp → Prop} {X : String → Hp → Prop} {x : Int} {off : Int} {tgt : Nat} (hd : decode (mC I) pc = .ok (.ifCond .eq off, 3)) (ht : (pc : Int) + off = (tgt : Int)) (kt : x = 0 → Run I tgt xs st h cs sl Q X) (kf : x ≠ 0 → Run I (pc + 3) xs st h cs sl Q X) : Run I pc xs (aI x :: st) h cs sl Q X := by
  intro l p e s m args below meth c D cA z0 n0 ad0 ad H locs ls B
  obtain ⟨hC, hR, hS, hE, hL, hxs, hst⟩ := B
  have kx := (show ax_32 x from hst _ List.mem_cons_self)
  have ky := (show ax_32 0 from ⟨by omega, by omega⟩)
  have q1 := ax_eq kx ky
  have q2 := ax_lt kx ky
  have q3 := ax_le kx ky
  have q4 := ax_lt ky kx
  have q5 := ax_le ky kx
  refine lv_if_eq hC.1 hC.2.1 hd ht (fun c9 => kt ?_ l p e s m args below meth c D cA z0 n0 ad0 ad H locs ls ⟨hC, hR, hS, hE, hL, hxs, (fun v hv => hst v (List.mem_cons_of_mem _ hv))⟩) (fun c9 => kf ?_ l p e s m args below meth c D cA z0 n0 ad0 ad H locs ls ⟨hC, hR, hS, hE, hL, hxs, (fun v hv => hst v (List.mem_cons_of_mem _ hv))⟩)
  · first | exact q1.mp c9 | exact q2.mp c9 | exact q3.mp c9 | exact q4.mp c9 | exact q5.mp c9 | exact fun z => c9 (q1.mpr z)
  · first | exact q1.mp c9 | exact fun z => c9 (q1.mpr z) | exact Classical.byContradiction (fun z => c9 (fun z2 => z (q1.mp z2))) | exact Int.not_lt.mp (fun z => c9 (q2.mpr z)) | exact Int.not_lt.mp (fun z => c9 (q4.mpr z)) | exact Int.not_le.mp (fun z => c9 (q3.mpr z)) | exact Int.not_le.mp (fun z => c9 (q5.mpr z))

theorem r_icmp_ne {I : MI} {pc : Nat} {xs : List (Option Av)} {st : List Av} {h : Hp} {cs sl : Nat} {Q : Option Av → Hp → Prop} {X : String → Hp → Prop} {x y : Int} {off : Int} {tgt : Nat} (hd : decode (mC I) pc = .ok (.if_icmp .ne off, 3)) (ht : (pc : Int) + off = (tgt : Int)) (kt : x ≠ y → Run I tgt xs st h cs sl Q X) (kf : x = y → Run I (pc + 3) xs st h cs sl Q X) : Run I pc xs (aI y :: aI x :: st) h cs sl Q X := by
  intro l p e s m args below meth c D cA z0 n0 ad0 ad H locs ls B
  obtain ⟨hC, hR, hS, hE, hL, hxs, hst⟩ := B
  have kx := (show ax_32 x from hst _ (List.mem_cons_of_mem _ List.mem_cons_self))
  have ky := (show ax_32 y from hst _ List.mem_cons_self)
  have q1 := ax_eq kx ky
  have q2 := ax_lt kx ky
  have q3 := ax_le kx ky
  have q4 := ax_lt ky kx
  have q5 := ax_le ky kx
  refine lv_icmp_ne hC.1 hC.2.1 hd ht (fun c9 => kt ?_ l p e s m args below meth c D cA z0 n0 ad0 ad H locs ls ⟨hC, hR, hS, hE, hL, hxs, (fun v hv => hst v (List.mem_cons_of_mem _ (List.mem_cons_of_mem _ hv)))⟩) (fun c9 => kf ?_ l p e s m args below meth c D cA z0 n0 ad0 ad H locs ls ⟨hC, hR, hS, hE, hL, hxs, (fun v hv => hst v (List.mem_cons_of_mem _ (List.mem_cons_of_mem _ hv)))⟩)
  · first | exact q1.mp c9 | exact q2.mp c9 | exact q3.mp c9 | exact q4.mp c9 | exact q5.mp c9 | exact fun z => c9 (q1.mpr z)
  · first | exact q1.mp c9 | exact fun z => c9 (q1.mpr z) | exact Classical.byContradiction (fun z => c9 (fun z2 => z (q1.mp z2))) | exact Int.not_lt.mp (fun z => c9 (q2.mpr z)) | exact Int.not_lt.mp (fun z => c9 (q4.mpr z)) | exact Int.not_le.mp (fun z => c9 (q3.mpr z)) | exact Int.not_le.mp (fun z => c9 (q5.mpr z))

theorem r_if_ne {I : MI} {pc : Nat} {xs : List (Option Av)} {st : List Av} {h : Hp} {cs sl : Nat} {Q : Option Av → Hp → Prop} {X : String → Hp → Prop} {x : Int} {off : Int} {tgt : Nat} (hd : decode (mC I) pc = .ok (.ifCond .ne off, 3)) (ht : (pc : Int) + off = (tgt : Int)) (kt : x ≠ 0 → Run I tgt xs st h cs sl Q X) (kf : x = 0 → Run I (pc + 3) xs st h cs sl Q X) : Run I pc xs (aI x :: st) h cs sl Q X := by
  intro l p e s m args below meth c D cA z0 n0 ad0 ad H locs ls B
  obtain ⟨hC, hR, hS, hE, hL, hxs, hst⟩ := B
  have kx := (show ax_32 x from hst _ List.mem_cons_self)
  have ky := (show ax_32 0 from ⟨by omega, by omega⟩)
  have q1 := ax_eq kx ky
  have q2 := ax_lt kx ky
  have q3 := ax_le kx ky
  have q4 := ax_lt ky kx
  have q5 := ax_le ky kx
  refine lv_if_ne hC.1 hC.2.1 hd ht (fun c9 => kt ?_ l p e s m args below meth c D cA z0 n0 ad0 ad H locs ls ⟨hC, hR, hS, hE, hL, hxs, (fun v hv => hst v (List.mem_cons_of_mem _ hv))⟩) (fun c9 => kf ?_ l p e s m args below meth c D cA z0 n0 ad0 ad H locs ls ⟨hC, hR, hS, hE, hL, hxs, (fun v hv => hst v (List.mem_cons_of_mem _ hv))⟩)
  · first | exact q1.mp c9 | exact q2.mp c9 | exact q3.mp c9 | exact q4.mp c9 | exact q5.mp c9 | exact fun z => c9 (q1.mpr z)
  · first | exact q1.mp c9 | exact fun z => c9 (q1.mpr z) | exact Classical.byContradiction (fun z => c9 (fun z2 => z (q1.mp z2))) | exact Int.not_lt.mp (fun z => c9 (q2.mpr z)) | exact Int.not_lt.mp (fun z => c9 (q4.mpr z)) | exact Int.not_le.mp (fun z => c9 (q3.mpr z)) | exact Int.not_le.mp (fun z => c9 (q5.mpr z))

theorem r_icmp_lt {I : MI} {pc : Nat} {xs : List (Option Av)} {st : List Av} {h : Hp} {cs sl : Nat} {Q : Option Av → Hp → Prop} {X : String → Hp → Prop} {x y : Int} {off : Int} {tgt : Nat} (hd : decode (mC I) pc = .ok (.if_icmp .lt off, 3)) (ht : (pc : Int) + off = (tgt : Int)) (kt : x < y → Run I tgt xs st h cs sl Q X) (kf : y ≤ x → Run I (pc + 3) xs st h cs sl Q X) : Run I pc xs (aI y :: aI x :: st) h cs sl Q X := by
  intro l p e s m args below meth c D cA z0 n0 ad0 ad H locs ls B
  obtain ⟨hC, hR, hS, hE, hL, hxs, hst⟩ := B
  have kx := (show ax_32 x from hst _ (List.mem_cons_of_mem _ List.mem_cons_self))
  have ky := (show ax_32 y from hst _ List.mem_cons_self)
  have q1 := ax_eq kx ky
  have q2 := ax_lt kx ky
  have q3 := ax_le kx ky
  have q4 := ax_lt ky kx
  have q5 := ax_le ky kx
  refine lv_icmp_lt hC.1 hC.2.1 hd ht (fun c9 => kt ?_ l p e s m args below meth c D cA z0 n0 ad0 ad H locs ls ⟨hC, hR, hS, hE, hL, hxs, (fun v hv => hst v (List.mem_cons_of_mem _ (List.mem_cons_of_mem _ hv)))⟩) (fun c9 => kf ?_ l p e s m args below meth c D cA z0 n0 ad0 ad H locs ls ⟨hC, hR, hS, hE, hL, hxs, (fun v hv => hst v (List.mem_cons_of_mem _ (List.mem_cons_of_mem _ hv)))⟩)
  · first | exact q1.mp c9 | exact q2.mp c9 | exact q3.mp c9 | exact q4.mp c9 | exact q5.mp c9 | exact fun z => c9 (q1.mpr z)
  · first | exact q1.mp c9 | exact fun z => c9 (q1.mpr z) | exact Classical.byContradiction (fun z => c9 (fun z2 => z (q1.mp z2))) | exact Int.not_lt.mp (fun z => c9 (q2.mpr z)) | exact Int.not_lt.mp (fun z => c9 (q4.mpr z)) | exact Int.not_le.mp (fun z => c9 (q3.mpr z)) | exact Int.not_le.mp (fun z => c9 (q5.mpr z))

theorem r_if_lt {I : MI} {pc : Nat} {xs : List (Option Av)} {st : List Av} {h : Hp} {cs sl : Nat} {Q : Option Av → Hp → Prop} {X : String → Hp → Prop} {x : Int} {off : Int} {tgt : Nat} (hd : decode (mC I) pc = .ok (.ifCond .lt off, 3)) (ht : (pc : Int) + off = (tgt : Int)) (kt : x < 0 → Run I tgt xs st h cs sl Q X) (kf : 0 ≤ x → Run I (pc + 3) xs st h cs sl Q X) : Run I pc xs (aI x :: st) h cs sl Q X := by
  intro l p e s m args below meth c D cA z0 n0 ad0 ad H locs ls B
  obtain ⟨hC, hR, hS, hE, hL, hxs, hst⟩ := B
  have kx := (show ax_32 x from hst _ List.mem_cons_self)
  have ky := (show ax_32 0 from ⟨by omega, by omega⟩)
  have q1 := ax_eq kx ky
  have q2 := ax_lt kx ky
  have q3 := ax_le kx ky
  have q4 := ax_lt ky kx
  have q5 := ax_le ky kx
  refine lv_if_lt hC.1 hC.2.1 hd ht (fun c9 => kt ?_ l p e s m args below meth c D cA z0 n0 ad0 ad H locs ls ⟨hC, hR, hS, hE, hL, hxs, (fun v hv => hst v (List.mem_cons_of_mem _ hv))⟩) (fun c9 => kf ?_ l p e s m args below meth c D cA z0 n0 ad0 ad H locs ls ⟨hC, hR, hS, hE, hL, hxs, (fun v hv => hst v (List.mem_cons_of_mem _ hv))⟩)
  · first | exact q1.mp c9 | exact q2.mp c9 | exact q3.mp c9 | exact q4.mp c9 | exact q5.mp c9 | exact fun z => c9 (q1.mpr z)
  · first | exact q1.mp c9 | exact fun z => c9 (q1.mpr z) | exact Classical.byContradiction (fun z => c9 (fun z2 => z (q1.mp z2))) | exact Int.not_lt.mp (fun z => c9 (q2.mpr z)) | exact Int.not_lt.mp (fun z => c9 (q4.mpr z)) | exact Int.not_le.mp (fun z => c9 (q3.mpr z)) | exact Int.not_le.mp (fun z => c9 (q5.mpr z))

theorem r_icmp_ge {I : MI} {pc : Nat} {xs : List (Option Av)} {st : List Av} {h : Hp} {cs sl : Nat} {Q : Option Av → Hp → Prop} {X : String → Hp → Prop} {x y : Int} {off : Int} {tgt : Nat} (hd : decode (mC I) pc = .ok (.if_icmp .ge off, 3)) (ht : (pc : Int) + off = (tgt : Int)) (kt : y ≤ x → Run I tgt xs st h cs sl Q X) (kf : x < y → Run I (pc + 3) xs st h cs sl Q X) : Run I pc xs (aI y :: aI x :: st) h cs sl Q X := by
  intro l p e s m args below meth c D cA z0 n0 ad0 ad H locs ls B
  obtain ⟨hC, hR, hS, hE, hL, hxs, hst⟩ := B
  have kx := (show ax_32 x from hst _ (List.mem_cons_of_mem _ List.mem_cons_self))
  have ky := (show ax_32 y from hst _ List.mem_cons_self)
  have q1 := ax_eq kx ky
  have q2 := ax_lt kx ky
  have q3 := ax_le kx ky
  have q4 := ax_lt ky kx
  have q5 := ax_le ky kx
  refine lv_icmp_ge hC.1 hC.2.1 hd ht (fun c9 => kt ?_ l p e s m args below meth c D cA z0 n0 ad0 ad H locs ls ⟨hC, hR, hS, hE, hL, hxs, (fun v hv => hst v (List.mem_cons_of_mem _ (List.mem_cons_of_mem _ hv)))⟩) (fun c9 => kf ?_ l p e s m args below meth c D cA z0 n0 ad0 ad H locs ls ⟨hC, hR, hS, hE, hL, hxs, (fun v hv => hst v (List.mem_cons_of_mem _ (List.mem_cons_of_mem _ hv)))⟩)
  · first | exact q1.mp c9 | exact q2.mp c9 | exact q3.mp c9 | exact q4.mp c9 | exact q5.mp c9 | exact fun z => c9 (q1.mpr z)
  · first | exact q1.mp c9 | exact fun z => c9 (q1.mpr z) | exact Classical.byContradiction (fun z => c9 (fun z2 => z (q1.mp z2))) | exact Int.not_lt.mp (fun z => c9 (q2.mpr z)) | exact Int.not_lt.mp (fun z => c9 (q4.mpr z)) | exact Int.not_le.mp (fun z => c9 (q3.mpr z)) | exact Int.not_le.mp (fun z => c9 (q5.mpr z))

theorem r_if_ge {I : MI} {pc : Nat} {xs : List (Option Av)} {st : List Av} {h : Hp} {cs sl : Nat} {Q : Option Av → Hp → Prop} {X : String → Hp → Prop} {x : Int} {off : Int} {tgt : Nat} (hd : decode (mC I) pc = .ok (.ifCond .ge off, 3)) (ht : (pc : Int) + off = (tgt : Int)) (kt : 0 ≤ x → Run I tgt xs st h cs sl Q X) (kf : x < 0 → Run I (pc + 3) xs st h cs sl Q X) : Run I pc xs (aI x :: st) h cs sl Q X := by
  intro l p e s m args below meth c D cA z0 n0 ad0 ad H locs ls B
  obtain ⟨hC, hR, hS, hE, hL, hxs, hst⟩ := B
  have kx := (show ax_32 x from hst _ List.mem_cons_self)
  have ky := (show ax_32 0 from ⟨by omega, by omega⟩)
  have q1 := ax_eq kx ky
  have q2 := ax_lt kx ky
  have q3 := ax_le kx ky
  have q4 := ax_lt ky kx
  have q5 := ax_le ky kx
  refine lv_if_ge hC.1 hC.2.1 hd ht (fun c9 => kt ?_ l p e s m args below meth c D cA z0 n0 ad0 ad H locs ls ⟨hC, hR, hS, hE, hL, hxs, (fun v hv => hst v (List.mem_cons_of_mem _ hv))⟩) (fun c9 => kf ?_ l p e s m args below meth c D cA z0 n0 ad0 ad H locs ls ⟨hC, hR, hS, hE, hL, hxs, (fun v hv => hst v (List.mem_cons_of_mem _ hv))⟩)
  · first | exact q1.mp c9 | exact q2.mp c9 | exact q3.mp c9 | exact q4.mp c9 | exact q5.mp c9 | exact fun z => c9 (q1.mpr z)
  · first | exact q1.mp c9 | exact fun z => c9 (q1.mpr z) | exact Classical.byContradiction (fun z => c9 (fun z2 => z (q1.mp z2))) | exact Int.not_lt.mp (fun z => c9 (q2.mpr z)) | exact Int.not_lt.mp (fun z => c9 (q4.mpr z)) | exact Int.not_le.mp (fun z => c9 (q3.mpr z)) | exact Int.not_le.mp (fun z => c9 (q5.mpr z))

theorem r_icmp_gt {I : MI} {pc : Nat} {xs : List (Option Av)} {st : List Av} {h : Hp} {cs sl : Nat} {Q : Option Av → Hp → Prop} {X : String → Hp → Prop} {x y : Int} {off : Int} {tgt : Nat} (hd : decode (mC I) pc = .ok (.if_icmp .gt off, 3)) (ht : (pc : Int) + off = (tgt : Int)) (kt : y < x → Run I tgt xs st h cs sl Q X) (kf : x ≤ y → Run I (pc + 3) xs st h cs sl Q X) : Run I pc xs (aI y :: aI x :: st) h cs sl Q X := by
  intro l p e s m args below meth c D cA z0 n0 ad0 ad H locs ls B
  obtain ⟨hC, hR, hS, hE, hL, hxs, hst⟩ := B
  have kx := (show ax_32 x from hst _ (List.mem_cons_of_mem _ List.mem_cons_self))
  have ky := (show ax_32 y from hst _ List.mem_cons_self)
  have q1 := ax_eq kx ky
  have q2 := ax_lt kx ky
  have q3 := ax_le kx ky
  have q4 := ax_lt ky kx
  have q5 := ax_le ky kx
  refine lv_icmp_gt hC.1 hC.2.1 hd ht (fun c9 => kt ?_ l p e s m args below meth c D cA z0 n0 ad0 ad H locs ls ⟨hC, hR, hS, hE, hL, hxs, (fun v hv => hst v (List.mem_cons_of_mem _ (List.mem_cons_of_mem _ hv)))⟩) (fun c9 => kf ?_ l p e s m args below meth c D cA z0 n0 ad0 ad H locs ls ⟨hC, hR, hS, hE, hL, hxs, (fun v hv => hst v (List.mem_cons_of_mem _ (List.mem_cons_of_mem _ hv)))⟩)
  · first | exact q1.mp c9 | exact q2.mp c9 | exact q3.mp c9 | exact q4.mp c9 | exact q5.mp c9 | exact fun z => c9 (q1.mpr z)
  · first | exact q1.mp c9 | exact fun z => c9 (q1.mpr z) | exact Classical.byContradiction (fun z => c9 (fun z2 => z (q1.mp z2))) | exact Int.not_lt.mp (fun z => c9 (q2.mpr z)) | exact Int.not_lt.mp (fun z => c9 (q4.mpr z)) | exact Int.not_le.mp (fun z => c9 (q3.mpr z)) | exact Int.not_le.mp (fun z => c9 (q5.mpr z))

theorem r_if_gt {I : MI} {pc : Nat} {xs : List (Option Av)} {st : List Av} {h : Hp} {cs sl : Nat} {Q : Option Av → Hp → Prop} {X : String → Hp → Prop} {x : Int} {off : Int} {tgt : Nat} (hd : decode (mC I) pc = .ok (.ifCond .gt off, 3)) (ht : (pc : Int) + off = (tgt : Int)) (kt : 0 < x → Run I tgt xs st h cs sl Q X) (kf : x ≤ 0 → Run I (pc + 3) xs st h cs sl Q X) : Run I pc xs (aI x :: st) h cs sl Q X := by
  intro l p e s m args below meth c D cA z0 n0 ad0 ad H locs ls B
  obtain ⟨hC, hR, hS, hE, hL, hxs, hst⟩ := B
  have kx := (show ax_32 x from hst _ List.mem_cons_self)
  have ky := (show ax_32 0 from ⟨by omega, by omega⟩)
  have q1 := ax_eq kx ky
  have q2 := ax_lt kx ky
  have q3 := ax_le kx ky
  have q4 := ax_lt ky kx
  have q5 := ax_le ky kx
  refine lv_if_gt hC.1 hC.2.1 hd ht (fun c9 => kt ?_ l p e s m args below meth c D cA z0 n0 ad0 ad H locs ls ⟨hC, hR, hS, hE, hL, hxs, (fun v hv => hst v (List.mem_cons_of_mem _ hv))⟩) (fun c9 => kf ?_ l p e s m args below meth c D cA z0 n0 ad0 ad H locs ls ⟨hC, hR, hS, hE, hL, hxs, (fun v hv => hst v (List.mem_cons_of_mem _ hv))⟩)
  · first | exact q1.mp c9 | exact q2.mp c9 | exact q3.mp c9 | exact q4.mp c9 | exact q5.mp c9 | exact fun z => c9 (q1.mpr z)
  · first | exact q1.mp c9 | exact fun z => c9 (q1.mpr z) | exact Classical.byContradiction (fun z => c9 (fun z2 => z (q1.mp z2))) | exact Int.not_lt.mp (fun z => c9 (q2.mpr z)) | exact Int.not_lt.mp (fun z => c9 (q4.mpr z)) | exact Int.not_le.mp (fun z => c9 (q3.mpr z)) | exact Int.not_le.mp (fun z => c9 (q5.mpr z))

theorem r_icmp_le {I : MI} {pc : Nat} {xs : List (Option Av)} {st : List Av} {h : Hp} {cs sl : Nat} {Q : Option Av → Hp → Prop} {X : String → Hp → Prop} {x y : Int} {off : Int} {tgt : Nat} (hd : decode (mC I) pc = .ok (.if_icmp .le off, 3)) (ht : (pc : Int) + off = (tgt : Int)) (kt : x ≤ y → Run I tgt xs st h cs sl Q X) (kf : y < x → Run I (pc + 3) xs st h cs sl Q X) : Run I pc xs (aI y :: aI x :: st) h cs sl Q X := by
  intro l p e s m args below meth c D cA z0 n0 ad0 ad H locs ls B
  obtain ⟨hC, hR, hS, hE, hL, hxs, hst⟩ := B
  have kx := (show ax_32 x from hst _ (List.mem_cons_of_mem _ List.mem_cons_self))
  have ky := (show ax_32 y from hst _ List.mem_cons_self)
  have q1 := ax_eq kx ky
  have q2 := ax_lt kx ky
  have q3 := ax_le kx ky
  have q4 := ax_lt ky kx
  have q5 := ax_le ky kx
  refine lv_icmp_le hC.1 hC.2.1 hd ht (fun c9 => kt ?_ l p e s m args below meth c D cA z0 n0 ad0 ad H locs ls ⟨hC, hR, hS, hE, hL, hxs, (fun v hv => hst v (List.mem_cons_of_mem _ (List.mem_cons_of_mem _ hv)))⟩) (fun c9 => kf ?_ l p e s m args below meth c D cA z0 n0 ad0 ad H locs ls ⟨hC, hR, hS, hE, hL, hxs, (fun v hv => hst v (List.mem_cons_of_mem _ (List.mem_cons_of_mem _ hv)))⟩)
  · first | exact q1.mp c9 | exact q2.mp c9 | exact q3.mp c9 | exact q4.mp c9 | exact q5.mp c9 | exact fun z => c9 (q1.mpr z)
  · first | exact q1.mp c9 | exact fun z => c9 (q1.mpr z) | exact Classical.byContradiction (fun z => c9 (fun z2 => z (q1.mp z2))) | exact Int.not_lt.mp (fun z => c9 (q2.mpr z)) | exact Int.not_lt.mp (fun z => c9 (q4.mpr z)) | exact Int.not_le.mp (fun z => c9 (q3.mpr z)) | exact Int.not_le.mp (fun z => c9 (q5.mpr z))

theorem r_if_le {I : MI} {pc : Nat} {xs : List (Option Av)} {st : List Av} {h : Hp} {cs sl : Nat} {Q : Option Av → Hp → Prop} {X : String → Hp → Prop} {x : Int} {off : Int} {tgt : Nat} (hd : decode (mC I) pc = .ok (.ifCond .le off, 3)) (ht : (pc : Int) + off = (tgt : Int)) (kt : x ≤ 0 → Run I tgt xs st h cs sl Q X) (kf : 0 < x → Run I (pc + 3) xs st h cs sl Q X) : Run I pc xs (aI x :: st) h cs sl Q X := by
  intro l p e s m args below meth c D cA z0 n0 ad0 ad H locs ls B
  obtain ⟨hC, hR, hS, hE, hL, hxs, hst⟩ := B
  have kx := (show ax_32 x from hst _ List.mem_cons_self)
  have ky := (show ax_32 0 from ⟨by omega, by omega⟩)
  have q1 := ax_eq kx ky
  have q2 := ax_lt kx ky
  have q3 := ax_le kx ky
  have q4 := ax_lt ky kx
  have q5 := ax_le ky kx
  refine lv_if_le hC.1 hC.2.1 hd ht (fun c9 => kt ?_ l p e s m args below meth c D cA z0 n0 ad0 ad H locs ls ⟨hC, hR, hS, hE, hL, hxs, (fun v hv => hst v (List.mem_cons_of_mem _ hv))⟩) (fun c9 => kf ?_ l p e s m args below meth c D cA z0 n0 ad0 ad H locs ls ⟨hC, hR, hS, hE, hL, hxs, (fun v hv => hst v (List.mem_cons_of_mem _ hv))⟩)
  · first | exact q1.mp c9 | exact q2.mp c9 | exact q3.mp c9 | exact q4.mp c9 | exact q5.mp c9 | exact fun z => c9 (q1.mpr z)
  · first | exact q1.mp c9 | exact fun z => c9 (q1.mpr z) | exact Classical.byContradiction (fun z => c9 (fun z2 => z (q1.mp z2))) | exact Int.not_lt.mp (fun z => c9 (q2.mpr z)) | exact Int.not_lt.mp (fun z => c9 (q4.mpr z)) | exact Int.not_le.mp (fun z => c9 (q3.mpr z)) | exact Int.not_le.mp (fun z => c9 (q5.mpr z))

theorem r_goto {I : MI} {pc : Nat} {xs : List (Option Av)} {st : List Av} {h : Hp} {cs sl : Nat} {Q : Option Av → Hp → Prop} {X : String → Hp → Prop} {off : Int} {tgt : Nat} (hd : decode (mC I) pc = .ok (.goto off, 3)) (ht : (pc : Int) + off = (tgt : Int)) (k : Run I tgt xs st h cs sl Q X) : Run I pc xs st h cs sl Q X := by
  intro l p e s m args below meth c D cA z0 n0 ad0 ad H locs ls B
  exact lv_goto B.1.1 B.1.2.1 hd ht (k l p e s m args below meth c D cA z0 n0 ad0 ad H locs ls B)

theorem r_ifnull {I : MI} {pc : Nat} {xs : List (Option Av)} {st : List Av} {h : Hp} {cs sl : Nat} {Q : Option Av → Hp → Prop} {X : String → Hp → Prop} {x : Rf} {off : Int} {tgt : Nat} (hd : decode (mC I) pc = .ok (.ifnull off, 3)) (ht : (pc : Int) + off = (tgt : Int)) (kt : x = none → Run I tgt xs st h cs sl Q X) (kf : x ≠ none → Run I (pc + 3) xs st h cs sl Q X) : Run I pc xs (aQ x :: st) h cs sl Q X := by
  intro l p e s m args below meth c D cA z0 n0 ad0 ad H locs ls B
  obtain ⟨hC, hR, hS, hE, hL, hxs, hst⟩ := B
  cases x with
  | none => exact lv_ifnullN hC.1 hC.2.1 hd ht (kt rfl l p e s m args below meth c D cA z0 n0 ad0 ad H locs ls ⟨hC, hR, hS, hE, hL, hxs, (fun v hv => hst v (List.mem_cons_of_mem _ hv))⟩)
  | some q => exact lv_ifnull hC.1 hC.2.1 hd (kf (by simp) l p e s m args below meth c D cA z0 n0 ad0 ad H locs ls ⟨hC, hR, hS, hE, hL, hxs, (fun v hv => hst v (List.mem_cons_of_mem _ hv))⟩)

theorem r_ifnonnull {I : MI} {pc : Nat} {xs : List (Option Av)} {st : List Av} {h : Hp} {cs sl : Nat} {Q : Option Av → Hp → Prop} {X : String → Hp → Prop} {x : Rf} {off : Int} {tgt : Nat} (hd : decode (mC I) pc = .ok (.ifnonnull off, 3)) (ht : (pc : Int) + off = (tgt : Int)) (kt : x ≠ none → Run I tgt xs st h cs sl Q X) (kf : x = none → Run I (pc + 3) xs st h cs sl Q X) : Run I pc xs (aQ x :: st) h cs sl Q X := by
  intro l p e s m args below meth c D cA z0 n0 ad0 ad H locs ls B
  obtain ⟨hC, hR, hS, hE, hL, hxs, hst⟩ := B
  cases x with
  | none => exact lv_ifnonnullN hC.1 hC.2.1 hd (kf rfl l p e s m args below meth c D cA z0 n0 ad0 ad H locs ls ⟨hC, hR, hS, hE, hL, hxs, (fun v hv => hst v (List.mem_cons_of_mem _ hv))⟩)
  | some q => exact lv_ifnonnull hC.1 hC.2.1 hd ht (kt (by simp) l p e s m args below meth c D cA z0 n0 ad0 ad H locs ls ⟨hC, hR, hS, hE, hL, hxs, (fun v hv => hst v (List.mem_cons_of_mem _ hv))⟩)

theorem r_lookup {I : MI} {pc : Nat} {xs : List (Option Av)} {st : List Av} {h : Hp} {cs sl : Nat} {Q : Option Av → Hp → Prop} {X : String → Hp → Prop} {x off dflt : Int} {ps : Array (Int × Int)} {len tgt : Nat} (hd : decode (mC I) pc = .ok (.lookupswitch dflt ps, len)) (hp : (ps.toList.zip (ps.toList.drop 1)).all (fun (a, next) => a.1 < next.1) = true) (ho : Op.lookupswitch.offset ps.toList dflt x = off) (ht : (pc : Int) + off = (tgt : Int)) (k : Run I tgt xs st h cs sl Q X) : Run I pc xs (aI x :: st) h cs sl Q X := by
  intro l p e s m args below meth c D cA z0 n0 ad0 ad H locs ls B
  obtain ⟨hC, hR, hS, hE, hL, hxs, hst⟩ := B
  have kx : ax_32 x := hst _ List.mem_cons_self
  exact lv_lookup hC.1 hC.2.1 hd hp (by rw [ax_to kx]; exact ho) ht (k l p e s m args below meth c D cA z0 n0 ad0 ad H locs ls ⟨hC, hR, hS, hE, hL, hxs, (fun v hv => hst v (List.mem_cons_of_mem _ hv))⟩)
theorem r_tableOut {I : MI} {pc : Nat} {xs : List (Option Av)} {st : List Av} {h : Hp} {cs sl : Nat} {Q : Option Av → Hp → Prop} {X : String → Hp → Prop} {x dflt lo hi : Int} {offs : Array Int} {len tgt : Nat} (hd : decode (mC I) pc = .ok (.tableswitch dflt lo hi offs, len)) (hx : x < lo ∨ hi < x) (ht : (pc : Int) + dflt = (tgt : Int)) (k : Run I tgt xs st h cs sl Q X) : Run I pc xs (aI x :: st) h cs sl Q X := by
  intro l p e s m args below meth c D cA z0 n0 ad0 ad H locs ls B
  obtain ⟨hC, hR, hS, hE, hL, hxs, hst⟩ := B
  have kx : ax_32 x := hst _ List.mem_cons_self
  exact lv_tableOut hC.1 hC.2.1 hd (by rw [ax_to kx]; exact hx) ht (k l p e s m args below meth c D cA z0 n0 ad0 ad H locs ls ⟨hC, hR, hS, hE, hL, hxs, (fun v hv => hst v (List.mem_cons_of_mem _ hv))⟩)
theorem r_tableIn {I : MI} {pc : Nat} {xs : List (Option Av)} {st : List Av} {h : Hp} {cs sl : Nat} {Q : Option Av → Hp → Prop} {X : String → Hp → Prop} {x off dflt lo hi : Int} {offs : Array Int} {len tgt : Nat} (hd : decode (mC I) pc = .ok (.tableswitch dflt lo hi offs, len)) (h1 : lo ≤ x) (h2 : x ≤ hi) (ho : offs[(x - lo).toNat]? = some off) (ht : (pc : Int) + off = (tgt : Int)) (k : Run I tgt xs st h cs sl Q X) : Run I pc xs (aI x :: st) h cs sl Q X := by
  intro l p e s m args below meth c D cA z0 n0 ad0 ad H locs ls B
  obtain ⟨hC, hR, hS, hE, hL, hxs, hst⟩ := B
  have kx : ax_32 x := hst _ List.mem_cons_self
  exact lv_tableIn hC.1 hC.2.1 hd (by rw [ax_to kx]; omega) (by rw [ax_to kx]; omega) (by rw [ax_to kx]; exact ho) ht (k l p e s m args below meth c D cA z0 n0 ad0 ad H locs ls ⟨hC, hR, hS, hE, hL, hxs, (fun v hv => hst v (List.mem_cons_of_mem _ hv))⟩)
end
section
/-! ===== rows that read and write the heap ===== -/
/-- one place told anew -/
def up1 {α : Type} (f : Nat → Int → Int → α) (k : Nat) (i j : Int) (v : α) : Nat → Int → Int → α := fun k' i' j' => if k' = k ∧ i' = i ∧ j' = j then v else f k' i' j'
theorem up1_s {α : Type} {f : Nat → Int → Int → α} {k : Nat} {i j : Int} {v : α} : up1 f k i j v k i j = v := by simp [up1]
theorem up1_n {α : Type} {f : Nat → Int → Int → α} {k k' : Nat} {i j i' j' : Int} {v : α} (h : ¬ (k' = k ∧ i' = i ∧ j' = j)) : up1 f k i j v k' i' j' = f k' i' j' := if_neg h
theorem ax_vf {ad : AD} {r : Rf} : va_rf (r.map fun p => ad p.1 p.2) = ax_v ad (aQ r) := by cases r <;> rfl
theorem ax_R.put {D : va_G} {cA : Nat → ClassId} {z0 : Nat} {ad : AD} {h h' : Hp} {H H' : Heap} {k : Nat} {i : Int} (hR : ax_R D cA z0 ad h H) (hk : (ax_kd k).1 < 14) (h0 : 0 ≤ i) (h1 : i < h.2.2 k)
    (hc : va_at D vwCl (ad k i, ax_e cA ad h' k i) H') (oq : ∀ q : Nat, q ≠ ad k i → H'[q]? = H[q]?) (hs : ∀ (k' : Nat) (i' : Int), ¬ (k' = k ∧ i' = i) → ax_e cA ad h' k' i' = ax_e cA ad h k' i')
    (hn : h'.2.2 = h.2.2) (h32 : ∀ (k : Nat) (i j : Int), ax_32 (h'.1 k i j)) (hrf : ∀ (k : Nat) (i j : Int), 0 ≤ i → i < h.2.2 k → ax_rk h.2.2 (h'.2.1 k i j)) : ax_R D cA z0 ad h' H' := by
  obtain ⟨a1, a2, a3, a4, a5⟩ := hR
  refine ⟨fun k' i' hk' h0' h1' => ?_, by rw [hn]; exact a2, h32, by rw [hn]; exact hrf, by rw [hn]; exact a5⟩
  rw [hn] at h1'
  refine ⟨?_, (a1 k' i' hk' h0' h1').2⟩
  by_cases e : k' = k ∧ i' = i
  · obtain ⟨rfl, rfl⟩ := e; exact hc
  · rw [hs k' i' e]
    exact (a1 k' i' hk' h0' h1').1.kept (oq _ (fun q => e (a2 k' i' k i hk' hk h0' h1' h0 h1 q)))
theorem ax_e_i {cA : Nat → ClassId} {ad : AD} {h : Hp} {k k' : Nat} {i i' j : Int} {x : Int} (e : ¬ (k' = k ∧ i' = i)) : ax_e cA ad (up1 h.1 k i j x, h.2.1, h.2.2) k' i' = ax_e cA ad h k' i' := by
  have f : ∀ j' : Int, up1 h.1 k i j x k' i' j' = h.1 k' i' j' := fun j' => up1_n (fun q => e ⟨q.1, q.2.1⟩)
  unfold ax_e ax_f
  simp only [f]
theorem ax_e_r {cA : Nat → ClassId} {ad : AD} {h : Hp} {k k' : Nat} {i i' j : Int} {x : Rf} (e : ¬ (k' = k ∧ i' = i)) : ax_e cA ad (h.1, up1 h.2.1 k i j x, h.2.2) k' i' = ax_e cA ad h k' i' := by
  have f : ∀ j' : Int, up1 h.2.1 k i j x k' i' j' = h.2.1 k' i' j' := fun j' => up1_n (fun q => e ⟨q.1, q.2.1⟩)
  unfold ax_e ax_f
  simp only [f]
theorem ax_32up {f : Nat → Int → Int → Int} {k : Nat} {i j x : Int} (h : ∀ k i j, ax_32 (f k i j)) (hx : ax_32 x) : ∀ k' i' j', ax_32 (up1 f k i j x k' i' j') := by
  intro k' i' j'
  unfold up1
  split
  · exact hx
  · exact h k' i' j'
/-- what is known of a field: its class's place and its own, the words -/
def ax_Fl (own : String) (index t j : Nat) : Prop := ∃ (C : String) (T : u_T) (N : Nat), vwCl[t]? = some (C, T, N) ∧ j < N ∧ ax_kd t = (t, N) ∧ t < 8 ∧ (∀ w ∈ u_ws C T N, w ∈ ax_GT) ∧
  Cond.fieldLink own index (T j).1 (T j).2.1 (T j).2.2.1 ∈ ax_GT ∧ (∀ k, k < N → parseFieldDescriptor (T k).2.2.1 = some (ax_ft t k)) ∧ (∀ a, a < N → ∀ b, b < N → a ≠ b → (T a).2.1 ≠ (T b).2.1) ∧ ((T j).2.2.2 = true → (T j).1 = own)
def ax_fin (t j : Nat) : Bool := match vwCl[t]? with | some (_, T, _) => (T j).2.2.2 | none => false
theorem ax_at {D : va_G} {cl : List vw_C} {q : Nat × va_E} {H : Heap} (h : va_at D cl q H) : va_P D cl [q] H := by
  intro k x hx
  have hz : k < 1 := (List.getElem?_eq_some_iff.mp hx).1
  rw [show k = 0 by omega] at hx
  cases hx
  exact h
theorem ax_eo {cA : Nat → ClassId} {ad : AD} {h : Hp} {t N : Nat} {i : Int} (hk : ax_kd t = (t, N)) (ht : t < 8) : ax_e cA ad h t i = .inr (t, (List.range N).map (fun j => ax_f ad h t i (ax_rf t j) j)) := by
  unfold ax_e
  rw [hk]
  simp [ht]
section AXH
variable {I : MI} {pc : Nat} {xs : List (Option Av)} {st : List Av} {h : Hp} {cs sl : Nat} {Q : Option Av → Hp → Prop} {X : String → Hp → Prop}
theorem r_getI {t j index : Nat} {i : Int} (hf : ax_Fl (mOwn I) index t j) (hr : ax_rf t j = false) (hd : decode (mC I) pc = .ok (.getfield index, 3)) (h0 : 0 ≤ i) (h1 : i < h.2.2 t) (k : Run I (pc + 3) xs (aI (h.1 t i j) :: st) h cs sl Q X) : Run I pc xs (aR t i :: st) h cs sl Q X := by
  intro l p e s m args below meth c D cA z0 n0 ad0 ad H locs ls B
  obtain ⟨hC, hR, hS, hE, hL, hxs, hst⟩ := B
  obtain ⟨C, T, N, f1, f2, f3, f4, f5, f6, f7, f8, -⟩ := hf
  have ha := (hR.1 t i (by rw [f3]; show t < 14; omega) h0 h1).1
  rw [ax_eo f3 f4] at ha
  refine va_get (D := D) (v := .int (Int32.ofInt (h.1 t i j))) hC.1 hC.2.1 hC.2.2.2.2.1 f5 hC.2.2.2.1 hC.2.2.2.2.2.1 (ax_at ha) 0 rfl f1 j f2 (hC.2.2.2.2.1 _ f6) (fun _ z => z) ?_ hd ?_
  · rw [List.getElem?_map, List.getElem?_range f2]
    simp [ax_f, hr]
  · exact k l p e s m args below meth c D cA z0 n0 ad0 ad H locs ls ⟨hC, hR, hS, hE, hL, hxs, List.forall_mem_cons.mpr ⟨hR.2.2.1 _ _ _, fun v hv => hst v (List.mem_cons_of_mem _ hv)⟩⟩
theorem r_getQ {t j index : Nat} {i : Int} {r : Rf} (hf : ax_Fl (mOwn I) index t j) (hr : ax_rf t j = true) (hd : decode (mC I) pc = .ok (.getfield index, 3)) (h0 : 0 ≤ i) (h1 : i < h.2.2 t) (hv : h.2.1 t i j = r) (k : Run I (pc + 3) xs (aQ r :: st) h cs sl Q X) : Run I pc xs (aR t i :: st) h cs sl Q X := by
  intro l p e s m args below meth c D cA z0 n0 ad0 ad H locs ls B
  obtain ⟨hC, hR, hS, hE, hL, hxs, hst⟩ := B
  obtain ⟨C, T, N, f1, f2, f3, f4, f5, f6, f7, f8, -⟩ := hf
  have ha := (hR.1 t i (by rw [f3]; show t < 14; omega) h0 h1).1
  rw [ax_eo f3 f4] at ha
  refine va_get (D := D) (v := ax_v ad (aQ r)) hC.1 hC.2.1 hC.2.2.2.2.1 f5 hC.2.2.2.1 hC.2.2.2.2.2.1 (ax_at ha) 0 rfl f1 j f2 (hC.2.2.2.2.1 _ f6) (fun _ z => z) ?_ hd ?_
  · rw [List.getElem?_map, List.getElem?_range f2]
    simp only [Option.map_some, ax_f, hr, if_true, hv, ax_vf]
  · exact k l p e s m args below meth c D cA z0 n0 ad0 ad H locs ls ⟨hC, hR, hS, hE, hL, hxs, List.forall_mem_cons.mpr ⟨by rw [← hv]; exact hR.2.2.2.1 _ _ _ h0 h1, fun v hv => hst v (List.mem_cons_of_mem _ hv)⟩⟩
end AXH
section AXP
variable {p : Program} {l : Launch} {e : Env} {R : Room} {s : State} {m : MethodId} {args : Array Value} {below : List Frame} {meth : Method} {c : Code} {H : Heap} {locs : List Loc} {cells slots : Nat} {Q : State → Prop}
variable {cc : ByteArray} {pc : Nat} {ls : Array Slot} {rest : List Value} {D : va_G} {cl : List vw_C} {A : Nat → Prop} {a : Nat} {tys : List (ClassId × FieldType)} {H0 : Heap}
/-- va_put, saying that no other cell changes (its proof is va_put's) -/
theorem ax_putG (hexec : p.tables.exec = Jvm.exec) (hb : c.code = cc) {own ref C : String} {T : u_T} {N ci index : Nat} {Ts : List Cond} (hts : ∀ w ∈ Ts, w.before args s = true) (hin : ∀ w ∈ u_ws C T N, w ∈ Ts) (ty0 : Nat → FieldType) (hty : ∀ k, k < N → parseFieldDescriptor (T k).2.2.1 = some (ty0 k)) (hnm : ∀ a, a < N → ∀ b, b < N → a ≠ b → (T a).2.1 ≠ (T b).2.1) (hown : s.vm.findClass own = some m.cls) (hK : va_K D cl tys s) (hA : A a) (hS0 : va_S A H0 H locs) {fs : List Value} (he : va_at D cl (a, .inr (ci, fs)) H) (hc : cl[ci]? = some (C, T, N)) (k : Nat) (hk : k < N) (hlink : (Cond.fieldLink own index ref (T k).2.1 (T k).2.2.1).before args s = true) (hsame : ∀ x, s.fieldFound? (T k).1 (T k).2.1 (T k).2.2.1 = some x → s.fieldFound? ref (T k).2.1 (T k).2.2.1 = some x)
    (hfin : (T k).2.2.2 = true → meth.name = "<init>" ∧ (T k).1 = own) {ty : FieldType} {v : Value} (hd : parseFieldDescriptor (T k).2.2.1 = some ty) (hn : narrow ty v = v) (hfit : fits ty v = true) (hl : k < fs.length)
    (hdg : decode cc pc = .ok (.putfield index, 3)) (kk : ∀ (H1 : Heap) (locs1 : List Loc), va_at D cl (a, .inr (ci, fs.set k v)) H1 → (∀ q : Nat, q ≠ a → H1[q]? = H[q]?) → va_S A H0 H1 locs1 → W p l e R s m args below meth c H1 locs1 cells slots Q (F0 m (pc + 3) ls rest)) : W p l e R s m args below meth c H locs cells slots Q (F0 m pc ls (v :: .ref a :: rest)) := by
  have hap := va_apart (own := own) hts hin ty0 hty hnm hK hc
  obtain ⟨r, h1, cell, q1, q2, q3, q4⟩ := he
  have hr : r = (C, T, N) := Option.some.inj (h1.symm.trans hc)
  subst hr
  obtain ⟨hS, hfc, kC, hkC, hkind⟩ := hK.1 ci _ hc
  obtain ⟨cf, kf, fi, f, hi, hsl⟩ := hS k hk
  have hlay := hts _ (hin _ (u_in_lay hk))
  unfold u_lay at hlay
  have hst := (u_facts hfc hkC (u_lays hts hin hk) hi).1
  by_cases hz : (T k).2.2.2 = true
  · obtain ⟨hin2, hdecl⟩ := hfin hz
    rw [if_pos hz] at hlay
    have hcf : m.cls = cf := by
      obtain ⟨_, _, c', _, _, _, -, -, hf', -, -, -, hown2, -⟩ := Cond.laysFinal_spec hlay
      have e1 : c' = cf := by have := hi.symm.trans hf'; simp at this; exact this.1.symm
      rw [hdecl] at hown2
      rw [← e1]; exact Option.some.inj (hown.symm.trans hown2)
    have h6 := u_fits hfc hkC hkind (Or.inr hlay) hi hd hn hfit
    refine W.putFinK hexec hb hown hlink (hsame _ hi) hst hcf hin2 (by rw [q2]; exact h6) q1 q3 (by rw [hsl]; exact k2_hasslot (q4 k hk)) rfl rfl hdg fun H' e1 e2 e3 => ?_
    rw [hsl] at e1 ⊢
    exact kk H' _ ⟨_, hc, t_OB.to (V := updV (vp_V fs) k v) ⟨_, e1, q2, q3, t_set q4 hap hk v⟩ (fun j _ => vp_updV_set hl v j)⟩ e3 (hS0.put e2 e3 hA)
  · rw [if_neg hz] at hlay
    have h6 := u_store hfc hkC hkind hlay hi hd hn hfit
    refine W.putK hexec hb (f := f) ⟨hown, hlink, ⟨_, _, _, hsame _ hi⟩, hst⟩ (by rw [q2]; exact h6) q1 q3 (by rw [hsl]; exact k2_hasslot (q4 k hk)) rfl rfl hdg fun H' e1 e2 e3 => ?_
    rw [hsl] at e1 ⊢
    exact kk H' _ ⟨_, hc, t_OB.to (V := updV (vp_V fs) k v) ⟨_, e1, q2, q3, t_set q4 hap hk v⟩ (fun j _ => vp_updV_set hl v j)⟩ e3 (hS0.put e2 e3 hA)
end AXP
theorem ax_fit_ref {ty : FieldType} (h : ax_isRef ty = true) (ad : AD) (r : Rf) : narrow ty (ax_v ad (aQ r)) = ax_v ad (aQ r) ∧ fits ty (ax_v ad (aQ r)) = true := by
  cases ty <;> first | (simp [ax_isRef] at h; done) | (cases r <;> exact ⟨rfl, rfl⟩)
section AXQ
variable {I : MI} {pc : Nat} {xs : List (Option Av)} {st : List Av} {h : Hp} {cs sl : Nat} {Q : Option Av → Hp → Prop} {X : String → Hp → Prop}
theorem r_putI {t j index : Nat} {i x : Int} (hf : ax_Fl (mOwn I) index t j) (hr : ax_ft t j = .int ∨ (ax_ft t j = .boolean ∧ (x = 0 ∨ x = 1))) (hfin : ax_fin t j = false ∨ (mY I).name = "<init>") (hd : decode (mC I) pc = .ok (.putfield index, 3)) (h0 : 0 ≤ i) (h1 : i < h.2.2 t) (k : Run I (pc + 3) xs st (up1 h.1 t i j x, h.2.1, h.2.2) cs sl Q X) : Run I pc xs (aI x :: aR t i :: st) h cs sl Q X := by
  intro l p e s m args below meth c D cA z0 n0 ad0 ad H locs ls B
  obtain ⟨hC, hR, hS, hE, hL, hxs, hst⟩ := B
  obtain ⟨C, T, N, f1, f2, f3, f4, f5, f6, f7, f8, f9⟩ := hf
  obtain ⟨ha, hz⟩ := hR.1 t i (by rw [f3]; show t < 14; omega) h0 h1
  rw [ax_eo f3 f4] at ha
  have hx : ax_32 x := hst _ List.mem_cons_self
  have hrf : ax_rf t j = false := by
    unfold ax_rf
    rcases hr with hr | hr
    · rw [hr]; rfl
    · rw [hr.1]; rfl
  have hnf : narrow (ax_ft t j) (.int (Int32.ofInt x)) = .int (Int32.ofInt x) ∧ fits (ax_ft t j) (.int (Int32.ofInt x)) = true := by
    rcases hr with hr | ⟨hr, rfl | rfl⟩
    · rw [hr]; exact ⟨rfl, rfl⟩
    · rw [hr]; exact ⟨rfl, rfl⟩
    · rw [hr]; exact ⟨rfl, rfl⟩
  refine ax_putG (D := D) (v := .int (Int32.ofInt x)) (A := fun q => z0 ≤ q) hC.1 hC.2.1 hC.2.2.2.2.1 f5 (ax_ft t) f7 f8 hC.2.2.2.1 hC.2.2.2.2.2.1 hz hS ha f1 j f2 (hC.2.2.2.2.1 _ f6) (fun _ z => z) ?_ (f7 j f2) hnf.1 hnf.2 (by rw [List.length_map, List.length_range]; exact f2) hd ?_
  · intro hz
    refine ⟨?_, f9 hz⟩
    rcases hfin with q | q
    · unfold ax_fin at q; rw [f1] at q; exact absurd (q.symm.trans hz) (by decide)
    · rw [hC.2.2.2.2.2.2.2.2.2.2.1]; exact q
  · intro H1 locs1 e1 oq hS1
    refine k l p e s m args below meth c D cA z0 n0 ad0 ad H1 locs1 ls ⟨hC, ?_, hS1, hE, hL, hxs, fun v hv => hst v (List.mem_cons_of_mem _ (List.mem_cons_of_mem _ hv))⟩
    refine hR.put (by rw [f3]; show t < 14; omega) h0 h1 ?_ oq (fun k' i' e => ax_e_i e) rfl (ax_32up hR.2.2.1 hx) hR.2.2.2.1
    rw [ax_eo f3 f4]
    have hl : (List.range N).map (fun j' => ax_f ad (up1 h.1 t i j x, h.2.1, h.2.2) t i (ax_rf t j') j') = ((List.range N).map (fun j' => ax_f ad h t i (ax_rf t j') j')).set j (.int (Int32.ofInt x)) := by
      apply List.ext_getElem?
      intro q
      rw [List.getElem?_set]
      by_cases hq : j = q
      · subst hq
        rw [if_pos rfl, List.getElem?_map, List.getElem?_range f2]
        simp [ax_f, hrf, up1, f2]
      · rw [if_neg hq, List.getElem?_map, List.getElem?_map]
        by_cases hqn : q < N
        · rw [List.getElem?_range hqn]
          have hjq : ¬ ((q : Int) = (j : Int)) := fun z => hq (by omega)
          simp [ax_f, up1, hjq]
        · rw [List.getElem?_eq_none (by rw [List.length_range]; omega)]
          rfl
    rw [hl]
    exact e1
end AXQ
end
section
/-! ===== rows of arrays ===== -/
def ax_aty : Nat → FieldType
  | 8 => .int | 9 => .boolean | 10 => .long | 11 => .object "BoxPool$Booking" | 12 => .object "BoxPool$Box" | _ => .array .int
theorem ax_tyAt (cA : Nat → ClassId) {t : Nat} (h8 : 8 ≤ t) (h14 : t < 14) : (ax_ty cA)[t - 8]? = some (cA t, ax_aty t) := by
  rcases (show t = 8 ∨ t = 9 ∨ t = 10 ∨ t = 11 ∨ t = 12 ∨ t = 13 by omega) with rfl | rfl | rfl | rfl | rfl | rfl <;> rfl
theorem ax_ei {cA : Nat → ClassId} {ad : AD} {h : Hp} {k t n : Nat} {i : Int} (hk : ax_kd k = (t, n)) (ht : t = 8 ∨ t = 9) : ax_e cA ad h k i = .inl (cA t, n, .inl (fun j => Int32.ofInt (h.1 k i j))) := by
  unfold ax_e
  rw [hk]
  rcases ht with rfl | rfl <;> simp
theorem ax_el {cA : Nat → ClassId} {ad : AD} {h : Hp} {k n : Nat} {i : Int} (hk : ax_kd k = (10, n)) : ax_e cA ad h k i = .inl (cA 10, n, .inr (.inl (fun j => Int64.ofInt (h.1 k i j)))) := by
  unfold ax_e
  rw [hk]
  simp
theorem ax_er {cA : Nat → ClassId} {ad : AD} {h : Hp} {k t n : Nat} {i : Int} (hk : ax_kd k = (t, n)) (ht : 11 ≤ t) : ax_e cA ad h k i = .inl (cA t, n, .inr (.inr (.inr (.inr (fun j => (h.2.1 k i j).map fun p => ad p.1 p.2))))) := by
  unfold ax_e
  rw [hk]
  simp only
  rw [if_neg (by omega), if_neg (by omega), if_neg (by omega)]
theorem ax_nn {x : Int} (h : ax_32 x) (h0 : 0 ≤ x) : (((Int32.ofInt x).toNatClampNeg : Nat) : Int) = x := by
  rw [ax_cl h]
  omega
section AXA
variable {I : MI} {pc : Nat} {xs : List (Option Av)} {st : List Av} {h : Hp} {cs sl : Nat} {Q : Option Av → Hp → Prop} {X : String → Hp → Prop}
theorem r_alen {kk t n : Nat} {i : Int} (hk : ax_kd kk = (t, n)) (ht : 8 ≤ t ∧ t < 14) (hn : n ≤ 100000) (hd : decode (mC I) pc = .ok (.arraylength, 1)) (h0 : 0 ≤ i) (h1 : i < h.2.2 kk) (k : Run I (pc + 1) xs (aI (n : Int) :: st) h cs sl Q X) : Run I pc xs (aR kk i :: st) h cs sl Q X := by
  intro l p e s m args below meth c D cA z0 n0 ad0 ad H locs ls B
  obtain ⟨hC, hR, hS, hE, hL, hxs, hst⟩ := B
  have ha := (hR.1 kk i (by rw [hk]; exact ht.2) h0 h1).1
  have hk2 := k l p e s m args below meth c D cA z0 n0 ad0 ad H locs ls ⟨hC, hR, hS, hE, hL, hxs, List.forall_mem_cons.mpr ⟨(⟨by omega, by omega⟩ : ax_32 (n : Int)), fun v hv => hst v (List.mem_cons_of_mem _ hv)⟩⟩
  have hx : ∃ x : vp_A, ax_e cA ad h kk i = .inl (cA t, x) ∧ x.1 = n := by
    by_cases a : t = 8 ∨ t = 9
    · exact ⟨_, ax_ei hk a, rfl⟩
    · by_cases b : t = 10
      · subst b; exact ⟨_, ax_el hk, rfl⟩
      · exact ⟨_, ax_er hk (by omega), rfl⟩
  obtain ⟨x, hx, hxn⟩ := hx
  rw [hx] at ha
  exact va_alen (D := D) (v := Int32.ofInt (n : Int)) hC.1 hC.2.1 hC.2.2.2.2.2.1 (ax_at ha) 0 (t - 8) rfl (ax_tyAt cA ht.1 ht.2) (by rw [hxn]; exact Int32.ofInt_eq_ofNat.symm) hd hk2
theorem r_iald {kk n : Nat} {i x : Int} (hk : ax_kd kk = (8, n)) (hd : decode (mC I) pc = .ok (.iaload, 1)) (h0 : 0 ≤ i) (h1 : i < h.2.2 kk) (x0 : 0 ≤ x) (x1 : x < n) (k : Run I (pc + 1) xs (aI (h.1 kk i x) :: st) h cs sl Q X) : Run I pc xs (aI x :: aR kk i :: st) h cs sl Q X := by
  intro l p e s m args below meth c D cA z0 n0 ad0 ad H locs ls B
  obtain ⟨hC, hR, hS, hE, hL, hxs, hst⟩ := B
  have ha := (hR.1 kk i (by rw [hk]; show 8 < 14; omega) h0 h1).1
  rw [ax_ei hk (Or.inl rfl)] at ha
  have kx : ax_32 x := hst _ List.mem_cons_self
  refine va_iald (D := D) hC.1 hC.2.1 hC.2.2.2.2.2.1 (ax_at ha) 0 0 rfl (ax_tyAt cA (t := 8) (by omega) (by omega)) (ax_in kx x0 x1) hd ?_
  rw [ax_nn kx x0]
  exact k l p e s m args below meth c D cA z0 n0 ad0 ad H locs ls ⟨hC, hR, hS, hE, hL, hxs, List.forall_mem_cons.mpr ⟨hR.2.2.1 _ _ _, fun v hv => hst v (List.mem_cons_of_mem _ (List.mem_cons_of_mem _ hv))⟩⟩
theorem r_zald {kk n : Nat} {i x : Int} (hk : ax_kd kk = (9, n)) (hd : decode (mC I) pc = .ok (.baload, 1)) (h0 : 0 ≤ i) (h1 : i < h.2.2 kk) (x0 : 0 ≤ x) (x1 : x < n) (k : Run I (pc + 1) xs (aI (h.1 kk i x) :: st) h cs sl Q X) : Run I pc xs (aI x :: aR kk i :: st) h cs sl Q X := by
  intro l p e s m args below meth c D cA z0 n0 ad0 ad H locs ls B
  obtain ⟨hC, hR, hS, hE, hL, hxs, hst⟩ := B
  have ha := (hR.1 kk i (by rw [hk]; show 9 < 14; omega) h0 h1).1
  rw [ax_ei hk (Or.inr rfl)] at ha
  have kx : ax_32 x := hst _ List.mem_cons_self
  refine va_zald (D := D) hC.1 hC.2.1 hC.2.2.2.2.2.1 (ax_at ha) 0 1 rfl (ax_tyAt cA (t := 9) (by omega) (by omega)) (ax_in kx x0 x1) hd ?_
  rw [ax_nn kx x0]
  exact k l p e s m args below meth c D cA z0 n0 ad0 ad H locs ls ⟨hC, hR, hS, hE, hL, hxs, List.forall_mem_cons.mpr ⟨hR.2.2.1 _ _ _, fun v hv => hst v (List.mem_cons_of_mem _ (List.mem_cons_of_mem _ hv))⟩⟩
theorem r_lald {kk n : Nat} {i x : Int} (hk : ax_kd kk = (10, n)) (hd : decode (mC I) pc = .ok (.laload, 1)) (h0 : 0 ≤ i) (h1 : i < h.2.2 kk) (x0 : 0 ≤ x) (x1 : x < n) (k : Run I (pc + 1) xs (aL (h.1 kk i x) :: st) h cs sl Q X) : Run I pc xs (aI x :: aR kk i :: st) h cs sl Q X := by
  intro l p e s m args below meth c D cA z0 n0 ad0 ad H locs ls B
  obtain ⟨hC, hR, hS, hE, hL, hxs, hst⟩ := B
  have ha := (hR.1 kk i (by rw [hk]; show 10 < 14; omega) h0 h1).1
  rw [ax_el hk] at ha
  have kx : ax_32 x := hst _ List.mem_cons_self
  refine va_lald (D := D) hC.1 hC.2.1 hC.2.2.2.2.2.1 (ax_at ha) 0 2 rfl (ax_tyAt cA (t := 10) (by omega) (by omega)) (ax_in kx x0 x1) hd ?_
  rw [ax_nn kx x0]
  exact k l p e s m args below meth c D cA z0 n0 ad0 ad H locs ls ⟨hC, hR, hS, hE, hL, hxs, List.forall_mem_cons.mpr ⟨hR.2.2.1 _ _ _, fun v hv => hst v (List.mem_cons_of_mem _ (List.mem_cons_of_mem _ hv))⟩⟩
theorem r_aald {kk t n : Nat} {i x : Int} {r : Rf} (hk : ax_kd kk = (t, n)) (ht : 11 ≤ t ∧ t < 14) (hd : decode (mC I) pc = .ok (.aaload, 1)) (h0 : 0 ≤ i) (h1 : i < h.2.2 kk) (x0 : 0 ≤ x) (x1 : x < n) (hv : h.2.1 kk i x = r) (k : Run I (pc + 1) xs (aQ r :: st) h cs sl Q X) : Run I pc xs (aI x :: aR kk i :: st) h cs sl Q X := by
  intro l p e s m args below meth c D cA z0 n0 ad0 ad H locs ls B
  obtain ⟨hC, hR, hS, hE, hL, hxs, hst⟩ := B
  have ha := (hR.1 kk i (by rw [hk]; exact ht.2) h0 h1).1
  rw [ax_er hk ht.1] at ha
  have kx : ax_32 x := hst _ List.mem_cons_self
  have hin := ax_in kx x0 x1
  have hlt : (Int32.ofInt x).toNatClampNeg < n := Nat.not_le.mp fun q => hin (Or.inr q)
  have hrd : va_rf ((h.2.1 kk i (((Int32.ofInt x).toNatClampNeg : Nat) : Int)).map fun p => ad p.1 p.2) = ax_v ad (aQ r) := by rw [ax_nn kx x0, hv, ax_vf]
  refine W.aald (v := ax_v ad (aQ r)) (ty := ax_aty t) hC.1 hC.2.1 ha ((hC.2.2.2.2.2.1.2 (t - 8) _ (ax_tyAt cA (by omega) ht.2)).1 n (fun j => va_rf ((h.2.1 kk i j).map fun p => ad p.1 p.2))) ?_ (fun q => by cases q) (by show ¬ (_ < 0 ∨ (arrV _ _ _).slots.size ≤ _); rw [arrV_size]; exact hin) ?_ rfl rfl hd ?_
  · rcases (show t = 11 ∨ t = 12 ∨ t = 13 by omega) with rfl | rfl | rfl <;> rfl
  · show (arrV _ _ _).slots[_]? = _
    rw [arrV_read _ _ hlt, hrd]
  · exact k l p e s m args below meth c D cA z0 n0 ad0 ad H locs ls ⟨hC, hR, hS, hE, hL, hxs, List.forall_mem_cons.mpr ⟨by rw [← hv]; exact hR.2.2.2.1 _ _ _ h0 h1, fun v hv => hst v (List.mem_cons_of_mem _ (List.mem_cons_of_mem _ hv))⟩⟩
theorem ax_upf {α β : Type} {f : Nat → Int → Int → α} {k : Nat} {i x : Int} {v : α} {u : Int32} {F : α → β} (hu : ((u.toNatClampNeg : Nat) : Int) = x) (j : Nat) : F (up1 f k i x v k i (j : Int)) = if j = u.toNatClampNeg then F v else F (f k i j) := by
  by_cases e : j = u.toNatClampNeg
  · rw [if_pos e, e, hu]
    simp [up1]
  · rw [if_neg e]
    have : ¬ ((j : Int) = x) := fun z => e (by omega)
    simp [up1, this]
theorem r_iast {kk n : Nat} {i x v : Int} (hk : ax_kd kk = (8, n)) (hd : decode (mC I) pc = .ok (.iastore, 1)) (h0 : 0 ≤ i) (h1 : i < h.2.2 kk) (x0 : 0 ≤ x) (x1 : x < n) (k : Run I (pc + 1) xs st (up1 h.1 kk i x v, h.2.1, h.2.2) cs sl Q X) : Run I pc xs (aI v :: aI x :: aR kk i :: st) h cs sl Q X := by
  intro l p e s m args below meth c D cA z0 n0 ad0 ad H locs ls B
  obtain ⟨hC, hR, hS, hE, hL, hxs, hst⟩ := B
  obtain ⟨ha, hz⟩ := hR.1 kk i (by rw [hk]; show 8 < 14; omega) h0 h1
  rw [ax_ei hk (Or.inl rfl)] at ha
  have kv : ax_32 v := hst _ List.mem_cons_self
  have kx : ax_32 x := hst _ (List.mem_cons_of_mem _ List.mem_cons_self)
  have hin := ax_in kx x0 x1
  refine W.iast hC.1 hC.2.1 ha ((hC.2.2.2.2.2.1.2 0 _ (ax_tyAt cA (t := 8) (by omega) (by omega))).1 n (fun j => .int (Int32.ofInt (h.1 kk i j)))) (fun q => by cases q) (by show ¬ (_ < 0 ∨ (arrV _ _ _).slots.size ≤ _); rw [arrV_size]; exact hin) rfl rfl hd fun H1 e1 z1 oq => ?_
  refine k l p e s m args below meth c D cA z0 n0 ad0 ad H1 _ ls ⟨hC, ?_, hS.put z1 oq hz, hE, hL, hxs, fun w hw => hst w (List.mem_cons_of_mem _ (List.mem_cons_of_mem _ (List.mem_cons_of_mem _ hw)))⟩
  refine hR.put (by rw [hk]; show 8 < 14; omega) h0 h1 ?_ oq (fun k' i' e => ax_e_i e) rfl (ax_32up hR.2.2.1 kv) hR.2.2.2.1
  rw [ax_ei hk (Or.inl rfl)]
  show H1[_]? = some (vp_cell _ _)
  rw [e1, vp_cell_i, vp_cell_i, arrV_store]
  congr 2
  funext j
  rw [ax_upf (F := fun z => Value.int (Int32.ofInt z)) (ax_nn kx x0) j]
  rfl
theorem r_zast {kk n : Nat} {i x v : Int} (hk : ax_kd kk = (9, n)) (hv : v = 0 ∨ v = 1) (hd : decode (mC I) pc = .ok (.bastore, 1)) (h0 : 0 ≤ i) (h1 : i < h.2.2 kk) (x0 : 0 ≤ x) (x1 : x < n) (k : Run I (pc + 1) xs st (up1 h.1 kk i x v, h.2.1, h.2.2) cs sl Q X) : Run I pc xs (aI v :: aI x :: aR kk i :: st) h cs sl Q X := by
  intro l p e s m args below meth c D cA z0 n0 ad0 ad H locs ls B
  obtain ⟨hC, hR, hS, hE, hL, hxs, hst⟩ := B
  obtain ⟨ha, hz⟩ := hR.1 kk i (by rw [hk]; show 9 < 14; omega) h0 h1
  rw [ax_ei hk (Or.inr rfl)] at ha
  have kv : ax_32 v := hst _ List.mem_cons_self
  have kx : ax_32 x := hst _ (List.mem_cons_of_mem _ List.mem_cons_self)
  have hin := ax_in kx x0 x1
  refine W.zast hC.1 hC.2.1 ha ((hC.2.2.2.2.2.1.2 1 _ (ax_tyAt cA (t := 9) (by omega) (by omega))).1 n (fun j => .int (Int32.ofInt (h.1 kk i j)))) (fun q => by cases q) (by show ¬ (_ < 0 ∨ (arrV _ _ _).slots.size ≤ _); rw [arrV_size]; exact hin) rfl rfl hd fun H1 e1 z1 oq => ?_
  refine k l p e s m args below meth c D cA z0 n0 ad0 ad H1 _ ls ⟨hC, ?_, hS.put z1 oq hz, hE, hL, hxs, fun w hw => hst w (List.mem_cons_of_mem _ (List.mem_cons_of_mem _ (List.mem_cons_of_mem _ hw)))⟩
  refine hR.put (by rw [hk]; show 9 < 14; omega) h0 h1 ?_ oq (fun k' i' e => ax_e_i e) rfl (ax_32up hR.2.2.1 kv) hR.2.2.2.1
  rw [ax_ei hk (Or.inr rfl)]
  show H1[_]? = some (vp_cell _ _)
  have hnr : narrow .boolean (.int (Int32.ofInt v)) = .int (Int32.ofInt v) := by rcases hv with rfl | rfl <;> rfl
  rw [e1, hnr, vp_cell_i, vp_cell_i, arrV_store]
  congr 2
  funext j
  rw [ax_upf (F := fun z => Value.int (Int32.ofInt z)) (ax_nn kx x0) j]
  rfl
theorem r_last {kk n : Nat} {i x v : Int} (hk : ax_kd kk = (10, n)) (hd : decode (mC I) pc = .ok (.lastore, 1)) (h0 : 0 ≤ i) (h1 : i < h.2.2 kk) (x0 : 0 ≤ x) (x1 : x < n) (k : Run I (pc + 1) xs st (up1 h.1 kk i x v, h.2.1, h.2.2) cs sl Q X) : Run I pc xs (aL v :: aI x :: aR kk i :: st) h cs sl Q X := by
  intro l p e s m args below meth c D cA z0 n0 ad0 ad H locs ls B
  obtain ⟨hC, hR, hS, hE, hL, hxs, hst⟩ := B
  obtain ⟨ha, hz⟩ := hR.1 kk i (by rw [hk]; show 10 < 14; omega) h0 h1
  rw [ax_el hk] at ha
  have kv : ax_32 v := hst _ List.mem_cons_self
  have kx : ax_32 x := hst _ (List.mem_cons_of_mem _ List.mem_cons_self)
  have hin := ax_in kx x0 x1
  refine W.last hC.1 hC.2.1 ha ((hC.2.2.2.2.2.1.2 2 _ (ax_tyAt cA (t := 10) (by omega) (by omega))).1 n (fun j => .long (Int64.ofInt (h.1 kk i j)))) (fun q => by cases q) (by show ¬ (_ < 0 ∨ (arrV _ _ _).slots.size ≤ _); rw [arrV_size]; exact hin) rfl rfl hd fun H1 e1 z1 oq => ?_
  refine k l p e s m args below meth c D cA z0 n0 ad0 ad H1 _ ls ⟨hC, ?_, hS.put z1 oq hz, hE, hL, hxs, fun w hw => hst w (List.mem_cons_of_mem _ (List.mem_cons_of_mem _ (List.mem_cons_of_mem _ hw)))⟩
  refine hR.put (by rw [hk]; show 10 < 14; omega) h0 h1 ?_ oq (fun k' i' e => ax_e_i e) rfl (ax_32up hR.2.2.1 kv) hR.2.2.2.1
  rw [ax_el hk]
  show H1[_]? = some (vp_cell _ _)
  rw [e1, vp_cell_l, vp_cell_l, arrV_store]
  congr 2
  funext j
  rw [ax_upf (F := fun z => Value.long (Int64.ofInt z)) (ax_nn kx x0) j]
  rfl
/-- an object goes into an array of its class -/
theorem r_aast {kk t n : Nat} {i x y : Int} (hk : ax_kd kk = (t + 11, n)) (ht : t = 0 ∨ t = 1) (hd : decode (mC I) pc = .ok (.aastore, 1)) (h0 : 0 ≤ i) (h1 : i < h.2.2 kk) (x0 : 0 ≤ x) (x1 : x < n) (y0 : 0 ≤ y) (y1 : y < h.2.2 t) (k : Run I (pc + 1) xs st (h.1, up1 h.2.1 kk i x (some (t, y)), h.2.2) cs sl Q X) : Run I pc xs (aR t y :: aI x :: aR kk i :: st) h cs sl Q X := by
  intro l p e s m args below meth c D cA z0 n0 ad0 ad H locs ls B
  obtain ⟨hC, hR, hS, hE, hL, hxs, hst⟩ := B
  obtain ⟨ha, hz⟩ := hR.1 kk i (by rw [hk]; show t + 11 < 14; omega) h0 h1
  rw [ax_er hk (by omega)] at ha
  have kx : ax_32 x := hst _ (List.mem_cons_of_mem _ List.mem_cons_self)
  have hin := ax_in kx x0 x1
  have hK := hC.2.2.2.2.2.1
  obtain ⟨N, C, T, hkt, hcl, hnm⟩ : ∃ (N : Nat) (C : String) (T : u_T), ax_kd t = (t, N) ∧ vwCl[t]? = some (C, T, N) ∧ ax_aty (t + 11) = .object C := by
    rcases ht with rfl | rfl
    · exact ⟨_, _, _, rfl, rfl, rfl⟩
    · exact ⟨_, _, _, rfl, rfl, rfl⟩
  have hv := (hR.1 t y (by rw [hkt]; show t < 14; omega) y0 y1).1
  rw [ax_eo hkt (by omega)] at hv
  obtain ⟨r', hr', cellV, g1, g2, g3, -⟩ := hv
  have hcls := (hK.1 t _ hcl).2
  have hta := ax_tyAt cA (t := t + 11) (by omega) (by omega)
  rw [hnm] at hta
  obtain ⟨kA, comp, k1, k2, k3, -⟩ := (hK.2 _ _ hta).2
  have hcomp : comp = D.1 t := Option.some.inj (k3.symm.trans hcls.1)
  subst hcomp
  obtain ⟨kC, hkC, -⟩ := hcls.2
  have hlt : (Int32.ofInt x).toNatClampNeg < n := Nat.not_le.mp fun q => hin (Or.inr q)
  have hx0 : ¬ Int32.ofInt x < 0 := fun q => hin (Or.inl q)
  refine W.aast hC.1 hC.2.1 ha (fun q h => by cases h) (fun h => by cases h) k1 k2 rfl hkC ⟨hx0, by show _ < (arrV _ _ _).slots.size; rw [arrV_size]; exact hlt⟩ g1 (fun q h => by rw [g3] at h; cases h) (by rw [g2]; exact hkC) (by rw [g2]; exact va_assign hcls) rfl rfl hd fun H1 e1 z1 oq => ?_
  refine k l p e s m args below meth c D cA z0 n0 ad0 ad H1 _ ls ⟨hC, ?_, hS.put z1 oq hz, hE, hL, hxs, fun w hw => hst w (List.mem_cons_of_mem _ (List.mem_cons_of_mem _ (List.mem_cons_of_mem _ hw)))⟩
  refine hR.put (by rw [hk]; show t + 11 < 14; omega) h0 h1 ?_ oq (fun k' i' e => ax_e_r e) rfl hR.2.2.1 ?_
  · rw [ax_er hk (by omega)]
    show H1[_]? = some (vp_cell _ _)
    rw [e1, vp_cell_q, vp_cell_q, arrV_store]
    congr 2
    funext j
    rw [ax_upf (F := fun z : Rf => va_rf (z.map fun p => ad p.1 p.2)) (ax_nn kx x0) j]
    rfl
  · intro k' i' j' a b
    show ax_rk _ (up1 h.2.1 kk i x (some (t, y)) k' i' j')
    unfold up1
    split
    · intro q hq; cases hq; exact ⟨y0, y1⟩
    · exact hR.2.2.2.1 k' i' j' a b
/-- a reference into a field -/
theorem r_putQ {t j index : Nat} {i : Int} {x : Rf} (hf : ax_Fl (mOwn I) index t j) (hr : ax_rf t j = true) (hfin : ax_fin t j = false ∨ (mY I).name = "<init>") (hd : decode (mC I) pc = .ok (.putfield index, 3)) (h0 : 0 ≤ i) (h1 : i < h.2.2 t) (k : Run I (pc + 3) xs st (h.1, up1 h.2.1 t i j x, h.2.2) cs sl Q X) : Run I pc xs (aQ x :: aR t i :: st) h cs sl Q X := by
  intro l p e s m args below meth c D cA z0 n0 ad0 ad H locs ls B
  obtain ⟨hC, hR, hS, hE, hL, hxs, hst⟩ := B
  obtain ⟨C, T, N, f1, f2, f3, f4, f5, f6, f7, f8, f9⟩ := hf
  obtain ⟨ha, hz⟩ := hR.1 t i (by rw [f3]; show t < 14; omega) h0 h1
  rw [ax_eo f3 f4] at ha
  have hx : ax_rk h.2.2 x := hst _ List.mem_cons_self
  have hnf := ax_fit_ref (show ax_isRef (ax_ft t j) = true from hr) ad x
  refine ax_putG (D := D) (v := ax_v ad (aQ x)) (A := fun q => z0 ≤ q) hC.1 hC.2.1 hC.2.2.2.2.1 f5 (ax_ft t) f7 f8 hC.2.2.2.1 hC.2.2.2.2.2.1 hz hS ha f1 j f2 (hC.2.2.2.2.1 _ f6) (fun _ z => z) ?_ (f7 j f2) hnf.1 hnf.2 (by rw [List.length_map, List.length_range]; exact f2) hd ?_
  · intro hz
    refine ⟨?_, f9 hz⟩
    rcases hfin with q | q
    · unfold ax_fin at q; rw [f1] at q; exact absurd (q.symm.trans hz) (by decide)
    · rw [hC.2.2.2.2.2.2.2.2.2.2.1]; exact q
  · intro H1 locs1 e1 oq hS1
    refine k l p e s m args below meth c D cA z0 n0 ad0 ad H1 locs1 ls ⟨hC, ?_, hS1, hE, hL, hxs, fun v hv => hst v (List.mem_cons_of_mem _ (List.mem_cons_of_mem _ hv))⟩
    refine hR.put (by rw [f3]; show t < 14; omega) h0 h1 ?_ oq (fun k' i' e => ax_e_r e) rfl hR.2.2.1 ?_
    · rw [ax_eo f3 f4]
      have hl : (List.range N).map (fun j' => ax_f ad (h.1, up1 h.2.1 t i j x, h.2.2) t i (ax_rf t j') j') = ((List.range N).map (fun j' => ax_f ad h t i (ax_rf t j') j')).set j (ax_v ad (aQ x)) := by
        apply List.ext_getElem?
        intro q
        rw [List.getElem?_set]
        by_cases hq : j = q
        · subst hq
          rw [if_pos rfl, List.getElem?_map, List.getElem?_range f2]
          simp only [Option.map_some, ax_f, hr, if_true, up1_s, ax_vf, List.length_map, List.length_range, f2]
        · rw [if_neg hq, List.getElem?_map, List.getElem?_map]
          by_cases hqn : q < N
          · rw [List.getElem?_range hqn]
            have hjq : ¬ ((q : Int) = (j : Int)) := fun z => hq (by omega)
            simp [ax_f, up1, hjq]
          · rw [List.getElem?_eq_none (by rw [List.length_range]; omega)]
            rfl
      rw [hl]
      exact e1
    · intro k' i' j' a b
      show ax_rk _ (up1 h.2.1 t i j x k' i' j')
      unfold up1
      split
      · exact hx
      · exact hR.2.2.2.1 k' i' j' a b
end AXA
end
section
/-! ===== rows that make cells ===== -/
def ax_nw (k : Nat) (h : Hp) : Hp := (fun k' i' j => if k' = k ∧ i' = h.2.2 k then 0 else h.1 k' i' j, fun k' i' j => if k' = k ∧ i' = h.2.2 k then none else h.2.1 k' i' j, fun k' => if k' = k then h.2.2 k + 1 else h.2.2 k')
theorem ax_v_ext {n n' : Nat → Int} {ad ad' : AD} {v : Av} (hk : ax_k n v) (hx : ax_ext n ad n' ad') : ax_v ad' v = ax_v ad v := by
  rcases v with z | r | z
  · rfl
  · cases r with
    | none => rfl
    | some p =>
      have := hk p rfl
      show Value.ref _ = Value.ref _
      rw [(hx p.1 p.2 this.1 this.2).2]
  · rfl
theorem ax_k_ext {n n' : Nat → Int} {ad ad' : AD} {v : Av} (hk : ax_k n v) (hx : ax_ext n ad n' ad') : ax_k n' v := by
  rcases v with z | r | z
  · exact hk
  · intro p hp
    have := hk p hp
    exact ⟨this.1, (hx p.1 p.2 this.1 this.2).1⟩
  · exact hk
theorem ax_st_ext {n n' : Nat → Int} {ad ad' : AD} {st : List Av} (hk : ∀ v ∈ st, ax_k n v) (hx : ax_ext n ad n' ad') : st.map (ax_v ad') = st.map (ax_v ad) := List.map_congr_left fun v hv => ax_v_ext (hk v hv) hx
theorem ax_L.ext {n n' : Nat → Int} {ad ad' : AD} {nL : Nat} {ls : Array Slot} {xs : List (Option Av)} (hL : ax_L ad nL ls xs) (hk : ∀ v, some v ∈ xs → ax_k n v) (hx : ax_ext n ad n' ad') : ax_L ad' nL ls xs := ⟨hL.1, hL.2.1, fun i v hv => by
  rw [ax_v_ext (hk v (List.mem_of_getElem? hv)) hx]
  exact hL.2.2 i v hv⟩
theorem ax_ext.trans {n0 n n' : Nat → Int} {ad0 ad ad' : AD} (h1 : ax_ext n0 ad0 n ad) (h2 : ax_ext n ad n' ad') : ax_ext n0 ad0 n' ad' := fun k i a b => by
  obtain ⟨c1, c2⟩ := h1 k i a b
  obtain ⟨d1, d2⟩ := h2 k i a c1
  exact ⟨d1, d2.trans c2⟩
theorem ax_B.go {I : MI} {l : Launch} {p : Program} {s : State} {m : MethodId} {args : Array Value} {meth : Method} {c : Code} {D : va_G} {cA : Nat → ClassId} {z0 : Nat} {n0 : Nat → Int} {ad0 ad ad' : AD} {h h' : Hp} {H H' : Heap} {locs locs' : List Loc} {ls : Array Slot} {xs : List (Option Av)} {st : List Av}
    (B : ax_B I l p s m args meth c D cA z0 n0 ad0 ad h H locs ls xs st) (hR : ax_R D cA z0 ad' h' H') (hS : va_S (fun q => z0 ≤ q) s.heap H' locs') (hx : ax_ext h.2.2 ad h'.2.2 ad') : ax_B I l p s m args meth c D cA z0 n0 ad0 ad' h' H' locs' ls xs st ∧ st.map (ax_v ad') = st.map (ax_v ad) := by
  obtain ⟨b1, b2, b3, b4, b5, b6, b7⟩ := B
  exact ⟨⟨b1, hR, hS, b4.trans hx, b5.ext b6 hx, fun v hv => ax_k_ext (b6 v hv) hx, fun v hv => ax_k_ext (b7 v hv) hx⟩, ax_st_ext b7 hx⟩
theorem ax_e_ext {cA : Nat → ClassId} {ad ad' : AD} {h h' : Hp} {k : Nat} {i : Int} (hr : ∀ j : Int, h'.2.1 k i j = h.2.1 k i j) (hi : ∀ j : Int, h'.1 k i j = h.1 k i j) (hk : ∀ j : Int, ax_rk h.2.2 (h.2.1 k i j)) (hx : ∀ (k : Nat) (i : Int), 0 ≤ i → i < h.2.2 k → ad' k i = ad k i) : ax_e cA ad' h' k i = ax_e cA ad h k i := by
  have f : ∀ j : Int, (h'.2.1 k i j).map (fun p => ad' p.1 p.2) = (h.2.1 k i j).map (fun p => ad p.1 p.2) := by
    intro j
    rw [hr]
    have := hk j
    cases hz : h.2.1 k i j with
    | none => rfl
    | some p =>
      have h9 := this p hz
      simp only [Option.map_some, hx p.1 p.2 h9.1 h9.2]
  unfold ax_e ax_f
  simp only [f, hi]
theorem ax_R.new {D : va_G} {cA : Nat → ClassId} {z0 : Nat} {ad : AD} {h : Hp} {H H' : Heap} {k : Nat} (hR : ax_R D cA z0 ad h H) (hz : z0 ≤ H.size) (o : ∀ q : Nat, q < H.size → H'[q]? = H[q]?)
    (hc : va_at D vwCl (H.size, ax_e cA (fun k' i' => if k' = k ∧ i' = h.2.2 k then H.size else ad k' i') (ax_nw k h) k (h.2.2 k)) H') :
    ax_R D cA z0 (fun k' i' => if k' = k ∧ i' = h.2.2 k then H.size else ad k' i') (ax_nw k h) H' ∧ ax_ext h.2.2 ad (ax_nw k h).2.2 (fun k' i' => if k' = k ∧ i' = h.2.2 k then H.size else ad k' i') := by
  obtain ⟨a1, a2, a3, a4, a5⟩ := hR
  have hx : ∀ (k' : Nat) (i' : Int), i' < h.2.2 k' → ¬ (k' = k ∧ i' = h.2.2 k) := fun k' i' q e => by
    obtain ⟨rfl, rfl⟩ := e
    omega
  have hnk : ∀ k' : Nat, (ax_nw k h).2.2 k' = if k' = k then h.2.2 k + 1 else h.2.2 k' := fun k' => rfl
  refine ⟨⟨fun k' i' hk' h0' h1' => ?_, fun k1 i1 k2 i2 g1 g2 p1 p2 p3 p4 e => ?_, fun k' i' j' => ?_, fun k' i' j' p1 p2 => ?_, fun k' => ?_⟩, fun k' i' p1 p2 => ⟨?_, if_neg (hx k' i' p2)⟩⟩
  · by_cases e : k' = k ∧ i' = h.2.2 k
    · obtain ⟨rfl, rfl⟩ := e
      simp only [and_self, if_true]
      exact ⟨hc, hz⟩
    · have hi : i' < h.2.2 k' := by
        rw [hnk] at h1'
        split at h1'
        next q => subst q; exact Classical.byContradiction fun z => e ⟨rfl, by omega⟩
        next => exact h1'
      simp only [if_neg e]
      obtain ⟨b1, b2⟩ := a1 k' i' hk' h0' hi
      refine ⟨?_, b2⟩
      rw [ax_e_ext (h := h) (ad := ad) (fun j => if_neg e) (fun j => if_neg e) (fun j => a4 k' i' j h0' hi) (fun k9 i9 q1 q2 => if_neg (hx k9 i9 q2))]
      exact b1.kept (o _ b1.lt)
  · have lt : ∀ (k' : Nat) (i' : Int), (ax_kd k').1 < 14 → 0 ≤ i' → i' < h.2.2 k' → ad k' i' < H.size := fun k' i' q1 q2 q3 => (a1 k' i' q1 q2 q3).1.lt
    have inn : ∀ (k' : Nat) (i' : Int), ¬ (k' = k ∧ i' = h.2.2 k) → i' < (ax_nw k h).2.2 k' → i' < h.2.2 k' := fun k' i' e h1' => by
      rw [hnk] at h1'
      split at h1'
      next q => subst q; exact Classical.byContradiction fun z => e ⟨rfl, by omega⟩
      next => exact h1'
    by_cases e1 : k1 = k ∧ i1 = h.2.2 k
    · by_cases e2 : k2 = k ∧ i2 = h.2.2 k
      · exact ⟨e1.1.trans e2.1.symm, e1.2.trans e2.2.symm⟩
      · simp only [if_pos e1, if_neg e2] at e
        have := lt k2 i2 g2 p3 (inn k2 i2 e2 p4)
        omega
    · by_cases e2 : k2 = k ∧ i2 = h.2.2 k
      · simp only [if_neg e1, if_pos e2] at e
        have := lt k1 i1 g1 p1 (inn k1 i1 e1 p2)
        omega
      · simp only [if_neg e1, if_neg e2] at e
        exact a2 k1 i1 k2 i2 g1 g2 p1 (inn k1 i1 e1 p2) p3 (inn k2 i2 e2 p4) e
  · show ax_32 (if _ then _ else _)
    split
    · exact ⟨by omega, by omega⟩
    · exact a3 _ _ _
  · show ax_rk _ (if _ then _ else _)
    split
    · exact fun _ q => by cases q
    · next e =>
      have hi : i' < h.2.2 k' := by
        rw [hnk] at p2
        split at p2
        next q => subst q; exact Classical.byContradiction fun z => e ⟨rfl, by omega⟩
        next => exact p2
      intro q hq
      obtain ⟨b1, b2⟩ := a4 k' i' j' p1 hi q hq
      refine ⟨b1, ?_⟩
      rw [hnk]
      split
      next w => rw [w] at b2; omega
      next => exact b2
  · rw [hnk]
    split
    · have := a5 k; omega
    · exact a5 k'
  · rw [hnk]
    split
    next w => rw [w] at p2; omega
    next => exact p2
theorem va_S.grow {A : Nat → Prop} {H0 H H1 : Heap} {locs : List Loc} (h : va_S A H0 H locs) (o : ∀ q : Nat, q < H.size → H1[q]? = H[q]?) (z : H.size ≤ H1.size) : va_S A H0 H1 locs := ⟨Nat.le_trans h.1 z, fun q a b => (o q (Nat.lt_of_lt_of_le a h.1)).trans (h.2.1 q a b), h.2.2⟩
/-- what is known of a class whose objects are made -/
def ax_Nl (own : String) (index t : Nat) : Prop := ∃ (C : String) (T : u_T) (N : Nat), vwCl[t]? = some (C, T, N) ∧ ax_kd t = (t, N) ∧ t < 8 ∧ (∀ w ∈ u_ws C T N, w ∈ ax_GT) ∧ (∀ k, k < N → parseFieldDescriptor (T k).2.2.1 = some (ax_ft t k)) ∧
  Cond.classLink own index C ∈ ax_GT ∧ Cond.instantiable C N ∈ ax_GT ∧ Cond.initialized C ∈ ax_GT ∧ ∀ j, j < N → ax_rf t j = true ∨ ax_ft t j = .int ∨ ax_ft t j = .boolean
section AXN
variable {I : MI} {pc : Nat} {xs : List (Option Av)} {st : List Av} {h : Hp} {cs sl : Nat} {Q : Option Av → Hp → Prop} {X : String → Hp → Prop}
theorem r_new {t index : Nat} (hf : ax_Nl (mOwn I) index t) (hd : decode (mC I) pc = .ok (.new index, 3)) (hc : cs + 1 ≤ (mRm I).cells) (hs : sl + (ax_kd t).2 ≤ (mRm I).slots) (k : Run I (pc + 3) xs (aR t (h.2.2 t) :: st) (ax_nw t h) (cs + 1) (sl + (ax_kd t).2) Q X) : Run I pc xs st h cs sl Q X := by
  intro l p e s m args below meth c D cA z0 n0 ad0 ad H locs ls B
  obtain ⟨hC, hR, hS, hE, hL, hxs, hst⟩ := id B
  obtain ⟨C, T, N, f1, f3, f4, f5, f7, f8, f9, f10, f11⟩ := hf
  have hK := hC.2.2.2.2.2.1
  have hKn := hK.1 t _ f1
  have hN : (ax_kd t).2 = N := by rw [f3]
  rw [hN] at hs k
  refine W.newcK hC.1 hC.2.1 hC.2.2.2.1 (hC.2.2.2.2.1 _ f8) (hC.2.2.2.2.1 _ f9) (hC.2.2.2.2.1 _ f10) rfl hd hc hs hKn.2.1 rfl fun H1 kC hkC e1 z1 o1 => ?_
  have hz : z0 ≤ H.size := Nat.le_trans hC.2.2.2.2.2.2.2.2.2.2.2.2.2.1 hS.1
  obtain ⟨hR', hx'⟩ := hR.new (k := t) (H' := H1) hz o1 (by
    rw [ax_eo f3 f4]
    refine ⟨_, f1, (u_born (ax_ft t) hC.2.2.2.2.1 f5 hKn hkC e1 f7).to fun j hj => ?_⟩
    show _ = ((List.range N).map _).getD j Value.null
    rw [List.getD_eq_getElem?_getD, List.getElem?_map, List.getElem?_range hj]
    simp only [Option.map_some, Option.getD_some, ax_f, ax_nw, and_self, if_true]
    rcases f11 j hj with q | q | q
    · rw [q]
      simp only [if_true, Option.map_none]
      unfold ax_rf at q
      generalize ax_ft t j = ty at q ⊢
      cases ty <;> first | (simp [ax_isRef] at q; done) | rfl
    · have : ax_rf t j = false := by unfold ax_rf; rw [q]; rfl
      rw [this, q]; rfl
    · have : ax_rf t j = false := by unfold ax_rf; rw [q]; rfl
      rw [this, q]; rfl)
  obtain ⟨hB', hm⟩ := B.go hR' (hS.grow o1 (by omega)) hx'
  have hk2 := k l p e s m args below meth c D cA z0 n0 ad0 _ H1 locs ls ⟨hB'.1, hB'.2.1, hB'.2.2.1, hB'.2.2.2.1, hB'.2.2.2.2.1, hB'.2.2.2.2.2.1, List.forall_mem_cons.mpr ⟨?_, hB'.2.2.2.2.2.2⟩⟩
  · have hh : ax_v (fun k' i' => if k' = t ∧ i' = h.2.2 t then H.size else ad k' i') (aR t (h.2.2 t)) = .ref H.size := by simp [ax_v]
    rw [List.map_cons, hm, hh] at hk2
    exact hk2
  · intro q hq
    cases hq
    refine ⟨hR.2.2.2.2 t, ?_⟩
    show _ < (ax_nw t h).2.2 t
    simp only [ax_nw, if_true]
    omega
theorem r_newa {kk t n : Nat} {atype : ArrayType} {x : Int} (hk : ax_kd kk = (t, n)) (hx : x = n) (hn : n ≤ 10000) (ht : newarray.typeOf atype = ax_aty t ∧ 8 ≤ t ∧ t < 11) (hw : Cond.arrayClass (ax_aty t) ∈ ax_GT) (hd : decode (mC I) pc = .ok (.newarray atype, 2)) (hc : cs + 1 ≤ (mRm I).cells) (hs : sl + n ≤ (mRm I).slots) (k : Run I (pc + 2) xs (aR kk (h.2.2 kk) :: st) (ax_nw kk h) (cs + 1) (sl + n) Q X) : Run I pc xs (aI x :: st) h cs sl Q X := by
  intro l p e s m args below meth c D cA z0 n0 ad0 ad H locs ls B
  obtain ⟨hC, hR, hS, hE, hL, hxs, hst⟩ := id B
  subst hx
  have hK := hC.2.2.2.2.2.1
  have hx32 : ax_32 (n : Int) := hst _ List.mem_cons_self
  have hcl : (Int32.ofInt (n : Int)).toNatClampNeg = n := by rw [ax_cl hx32]; omega
  have hn0 : ¬ Int32.ofInt (n : Int) < 0 := by
    intro q
    rw [Int32.lt_iff_toInt_lt, ax_to hx32] at q
    have : (0 : Int32).toInt = 0 := rfl
    omega
  have hcb : componentBytes (newarray.typeOf atype) ≤ 8 := by cases atype <;> decide
  refine va_newaK hC.1 hC.2.1 (by rw [ht.1]; exact hC.2.2.2.2.1 _ hw) rfl hd rfl hn0 hcl (Nat.le_trans (Nat.mul_le_mul hn hcb) (by decide)) hc hs rfl fun H1 cA' e1 z1 o1 hAr hNm => ?_
  have hz : z0 ≤ H.size := Nat.le_trans hC.2.2.2.2.2.2.2.2.2.2.2.2.2.1 hS.1
  have hty := (hK.2 _ _ (ax_tyAt cA ht.2.1 (by omega))).2
  have hcc : cA' = cA t := by
    rw [ht.1] at hNm
    rcases (show t = 8 ∨ t = 9 ∨ t = 10 by omega) with rfl | rfl | rfl
    all_goals exact Option.some.inj (hNm.symm.trans hty)
  subst hcc
  obtain ⟨hR', hx'⟩ := hR.new (k := kk) (H' := H1) hz o1 (by
    by_cases t10 : t = 10
    · subst t10
      rw [ax_el hk]
      show H1[_]? = some (vp_cell _ _)
      rw [e1, vp_cell_l, ht.1]
      simp only [ax_nw, and_self, if_true]
      rfl
    · rw [ax_ei hk (by omega)]
      show H1[_]? = some (vp_cell _ _)
      rw [e1, vp_cell_i, ht.1]
      simp only [ax_nw, and_self, if_true]
      rcases (show t = 8 ∨ t = 9 by omega) with rfl | rfl <;> rfl)
  have B' : ax_B I l p s m args meth c D cA z0 n0 ad0 ad h H locs ls xs st := ⟨hC, hR, hS, hE, hL, hxs, fun v hv => hst v (List.mem_cons_of_mem _ hv)⟩
  obtain ⟨hB', hm⟩ := B'.go hR' (hS.grow o1 (by omega)) hx'
  have hk2 := k l p e s m args below meth c D cA z0 n0 ad0 _ H1 locs ls ⟨hB'.1, hB'.2.1, hB'.2.2.1, hB'.2.2.2.1, hB'.2.2.2.2.1, hB'.2.2.2.2.2.1, List.forall_mem_cons.mpr ⟨?_, hB'.2.2.2.2.2.2⟩⟩
  · have hh : ax_v (fun k' i' => if k' = kk ∧ i' = h.2.2 kk then H.size else ad k' i') (aR kk (h.2.2 kk)) = .ref H.size := by simp [ax_v]
    rw [List.map_cons, hm, hh] at hk2
    exact hk2
  · intro q hq
    cases hq
    refine ⟨hR.2.2.2.2 kk, ?_⟩
    show _ < (ax_nw kk h).2.2 kk
    simp only [ax_nw, if_true]
    omega
theorem r_anew {kk t n index : Nat} {C : String} {x : Int} (hk : ax_kd kk = (t, n)) (hx : x = n) (hn : n ≤ 10000) (ht : ax_aty t = .object C ∧ (t = 11 ∨ t = 12)) (hw : Cond.classLink (mOwn I) index C ∈ ax_GT) (hd : decode (mC I) pc = .ok (.anewarray index, 3)) (hc : cs + 1 ≤ (mRm I).cells) (hs : sl + n ≤ (mRm I).slots) (k : Run I (pc + 3) xs (aR kk (h.2.2 kk) :: st) (ax_nw kk h) (cs + 1) (sl + n) Q X) : Run I pc xs (aI x :: st) h cs sl Q X := by
  intro l p e s m args below meth c D cA z0 n0 ad0 ad H locs ls B
  obtain ⟨hC, hR, hS, hE, hL, hxs, hst⟩ := id B
  subst hx
  have hK := hC.2.2.2.2.2.1
  have hx32 : ax_32 (n : Int) := hst _ List.mem_cons_self
  have hcl : (Int32.ofInt (n : Int)).toNatClampNeg = n := by rw [ax_cl hx32]; omega
  have hn0 : ¬ Int32.ofInt (n : Int) < 0 := by
    intro q
    rw [Int32.lt_iff_toInt_lt, ax_to hx32] at q
    have : (0 : Int32).toInt = 0 := rfl
    omega
  have hov : va_AO C s := by
    obtain ⟨ht1, ht2 | ht2⟩ := ht
    · rw [ht2] at ht1; cases ht1; exact hC.2.2.2.2.2.2.1.2.2.1
    · rw [ht2] at ht1; cases ht1; exact hC.2.2.2.2.2.2.1.2.1
  refine W.anew hC.1 hC.2.1 hC.2.2.2.1 (hC.2.2.2.2.1 _ hw) (va_AO.use hov) rfl hd rfl hn0 (by rw [hcl]; omega) hc (by rw [hcl]; exact hs) fun cA' kA comp q1 q2 q3 q4 => ?_
  rw [hcl]
  generalize hH1 : H.push ({ cls := cA', slots := Array.replicate n .null, vm := .none } : Cell) = H1
  have z1 : H1.size = H.size + 1 := by rw [← hH1, Array.size_push]
  have e1 : H1[H.size]? = some (arrV cA' n (fun _ => .null)) := by rw [← hH1, Array.getElem?_push_size, ← arrV_new]
  have o1 : ∀ q, q < H.size → H1[q]? = H[q]? := fun q hq => by rw [← hH1, Array.getElem?_push, if_neg (Nat.ne_of_lt hq)]
  have hz : z0 ≤ H.size := Nat.le_trans hC.2.2.2.2.2.2.2.2.2.2.2.2.2.1 hS.1
  have hta := ax_tyAt cA (t := t) (by omega) (by omega)
  rw [ht.1] at hta
  obtain ⟨kA', comp', k1, k2, k3, k4⟩ := (hK.2 _ _ hta).2
  have hcc : cA' = cA t := Option.some.inj (q1.symm.trans k4)
  subst hcc
  obtain ⟨hR', hx'⟩ := hR.new (k := kk) (H' := H1) hz o1 (by
    rw [ax_er hk (by omega)]
    show H1[_]? = some (vp_cell _ _)
    rw [e1, vp_cell_q]
    simp only [ax_nw, and_self, if_true]
    rfl)
  have B' : ax_B I l p s m args meth c D cA z0 n0 ad0 ad h H locs ls xs st := ⟨hC, hR, hS, hE, hL, hxs, fun v hv => hst v (List.mem_cons_of_mem _ hv)⟩
  obtain ⟨hB', hm⟩ := B'.go hR' (hS.grow o1 (by omega)) hx'
  have hk2 := k l p e s m args below meth c D cA z0 n0 ad0 _ H1 locs ls ⟨hB'.1, hB'.2.1, hB'.2.2.1, hB'.2.2.2.1, hB'.2.2.2.2.1, hB'.2.2.2.2.2.1, List.forall_mem_cons.mpr ⟨?_, hB'.2.2.2.2.2.2⟩⟩
  · have hh : ax_v (fun k' i' => if k' = kk ∧ i' = h.2.2 kk then H.size else ad k' i') (aR kk (h.2.2 kk)) = .ref H.size := by simp [ax_v]
    rw [List.map_cons, hm, hh] at hk2
    exact hk2
  · intro q hq
    cases hq
    refine ⟨hR.2.2.2.2 kk, ?_⟩
    show _ < (ax_nw kk h).2.2 kk
    simp only [ax_nw, if_true]
    omega
end AXN
end
section
section VXIA
variable {p : Program} {l : Launch} {e : Env} {R : Room} {s : State} {m : MethodId} {args : Array Value} {below : List Frame} {meth : Method} {c : Code} {T : State} {locs : List Loc} {cells slots : Nat}
theorem vx_callI (X : Stand p l e R s m args below meth c T locs cells slots) (hexec : p.tables.exec = Jvm.exec) {own : String} {index : Nat} {y : MethodName} {bytes : ByteArray} {maxL : Nat}
    (hown : s.vm.findClass own = some m.cls) (hy1 : y.name = "<init>") (hlink : (Cond.methodLink own index y).before args s = true) (hinst : (Cond.instanceMethod y).before args s = true)
    (hcode : (Cond.code y bytes maxL none).before args s = true) (hy : y.cls ≠ "java/lang/invoke/MethodHandle" ∧ y.cls ≠ "java/lang/invoke/VarHandle")
    {W9 : Nat} {Pre : Pt → Array Value → Prop} {Post : Pt → Array Value → Option Value → Pt → Prop} {PostX : Pt → Array Value → Addr → Pt → Prop} (hK : vx_Back l R p e below s args y 3 W9 Pre Post PostX)
    {g : JFrame} (hg : g.method = m) (hsize : g.locals.size = c.maxLocals) {a : Addr} {argsL rest : List Value} (hlen : ∀ sig, parseMethodDescriptor y.desc = some sig → argsL.length = sig.parameters.length)
    (hstack : g.stack = argsL.reverse ++ .ref a :: rest) (hW : 2 * g.monitorRoom + (rest.map fun v => v.category).sum ≤ W9) (hdg : decode c.code g.pc = .ok (.invokespecial index, 3))
    (hpre : ∀ vm₁, s.WarmedH vm₁ → Pre ⟨T.setVm vm₁, locs, cells, slots⟩ (Value.ref a :: argsL).toArray) :
    (∃ (v : Option Value) (vm₁ : Vm) (B : Pt), s.WarmedH vm₁ ∧ Stand p l e R s m args below meth c B.U B.locs B.cells B.slots ∧ Post ⟨T.setVm vm₁, locs, cells, slots⟩ (Value.ref a :: argsL).toArray v B ∧
      ∀ target, Steps p.tables e below (B.U.setTop { g with pc := g.pc + 3, stack := v.toList ++ rest }) target → Steps p.tables e below (T.setTop g) target) ∨
    (∃ (q : Addr) (vm₁ : Vm) (B : Pt), s.WarmedH vm₁ ∧ Stand p l e R s m args below meth c B.U B.locs B.cells B.slots ∧ PostX ⟨T.setVm vm₁, locs, cells, slots⟩ (Value.ref a :: argsL).toArray q B ∧
      Steps p.tables e below (T.setTop g) ((B.U.setTop { g with stack := rest }).pushFrame (.throwing q))) := by
  subst hg
  have hpl : e.platform.magicAccessors = ({} : Platform).magicAccessors := by rw [X.admits.platform]
  obtain ⟨mk, methM, cM, kP, vm₁, hnamed, hmethM, hcodeM, -, hlocalsM, -, hkP, -, hW₁, hstep₁⟩ := Steps.initColdArgs (e := e) X.here hexec X.warmed hpl hown hy1 hy hlink hinst hcode (f := g) rfl hlen hstack hdg
  have X₁ := X.noted hW₁
  rcases hK g.method meth c ⟨T.setVm vm₁, locs, cells, slots⟩ { g with stack := rest } (.invokespecial index) mk (Value.ref a :: argsL).toArray X₁ rfl hsize hdg hW (X₁.named hnamed) (hpre vm₁ X₁.warmed) with ⟨v, B, X', hpost, hsteps⟩ | ⟨q, B, X', hpost, hsteps⟩
  · exact Or.inl ⟨v, vm₁, B, X₁.warmed, X', hpost, fun target h => hstep₁ _ fun acts => by rw [doInvoke_state]; exact hsteps.trans h⟩
  · exact Or.inr ⟨q, vm₁, B, X₁.warmed, X', hpost, hstep₁ _ fun acts => by rw [doInvoke_state]; exact hsteps⟩
end VXIA
section VXIB
variable {p : Program} {l : Launch} {e : Env} {R : Room} {s : State} {m : MethodId} {args : Array Value} {below : List Frame} {meth : Method} {c : Code} {H : Heap} {locs : List Loc} {cells slots : Nat}
variable {y : MethodName} {bytes cc : ByteArray} {maxL nL mc ms n index : Nat} {ret : Option FieldType} {ws : List Cond} {rm : Room} {Pc : Array Value → State → Prop} {Qc : Array Value → State → Outcome → State → Prop} {XC : String → State → State → Prop} {free : Addr → Prop} {Ts : List Cond} {own C : String} {b : Addr} {As rest : List Value} {g : JFrame}
theorem vx_runI (S : CallFix p m c cc nL s args Ts own) (hM : vx_Met l y ws rm Pc Qc XC mc ms free) (cw : CallB R s args own index y bytes maxL none ws rm mc ms n ∧ y.name = "<init>" ∧ (Cond.instanceMethod y).before args s = true) (hp : PreS s H Pc (.ref b :: As))
    (hg : g.method = m) (hn : As.length = n) (hsize : g.locals.size = nL) (hstack : g.stack = As.reverse ++ .ref b :: rest) (hW : 2 * g.monitorRoom + (rest.map fun v => v.category).sum ≤ 8) (hdg : decode cc g.pc = .ok (.invokespecial index, 3)) (hf : cells + mc ≤ R.cells ∧ slots + ms ≤ R.slots) :
    vx_Run p l e R s m args below meth c H locs cells slots mc ms g rest (Qc (Value.ref b :: As).toArray) XC free := by
  have hK : vx_Back l R p e below s args y 3 8 (PreOf R mc ms Pc) (PostOf Qc mc ms free) (vx_Post XC mc ms free) := vx_callBack cw.1 hM hp.1
  obtain ⟨⟨-, -, -, -, -, -, hcode, -, hy, hlen, hl⟩, hy1, hin⟩ := cw
  obtain ⟨hx, hb, hml, ho, -⟩ := S
  have hPc := hp.2
  intro T hT X
  rcases vx_callI X hx (bytes := bytes) (maxL := maxL) ho hy1 hl hin hcode hy hK hg (hsize.trans hml.symm) (a := b) (argsL := As) (rest := rest) (fun sig h => hn.trans (hlen sig h)) hstack hW (by rw [hb]; exact hdg)
    (fun vm₁ hW₁ => ⟨hf.1, hf.2, hPc (T.setVm vm₁) hT hW₁⟩) with ⟨v, vm₁, ⟨U', l2, c2, s2⟩, hW₁, X', ⟨g', mk, t, L, e1, e2, hq, h1, hL, h2, h3⟩, st⟩ | ⟨q, vm₁, ⟨U', l2, c2, s2⟩, hW₁, X', ⟨g', mk, t, L, E, ce, e1, e2, hq, hce, hcv, hcl, h1, hL, h2, h3⟩, st⟩
  · dsimp only [Pt.U, Pt.locs, Pt.cells, Pt.slots] at X' e1 e2 h1 h2 h3 st
    subst h1; subst h2; subst h3
    exact Or.inl ⟨v, (T.setVm vm₁).calling g' mk (Value.ref b :: As).toArray, t, U', L, hT, X', hL, e1, e2, hq, st⟩
  · dsimp only [Pt.U, Pt.locs, Pt.cells, Pt.slots] at X' e1 e2 h1 h2 h3 st hcl
    subst h1; subst h2; subst h3
    exact Or.inr ⟨q, (T.setVm vm₁).calling g' mk (Value.ref b :: As).toArray, t, U', L, E, ce, hT, X', hL, e1, e2, hq, hce, hcv, vx_cls hW₁ hcl, st⟩
end VXIB
/-! ===== END ===== -/
/-! ===== BEGIN a private constructor of a nest mate that throws ===== -/
section VXIC
variable {p : Program} {l : Launch} {e : Env} {R : Room} {s : State} {m : MethodId} {args : Array Value} {below : List Frame} {meth : Method} {c : Code} {T : State} {locs : List Loc} {cells slots : Nat}
theorem vx_callIN (X : Stand p l e R s m args below meth c T locs cells slots) (hexec : p.tables.exec = Jvm.exec) {own : String} {index : Nat} {host : String} {y : MethodName} {bytes : ByteArray} {maxL : Nat}
    (hown : s.vm.findClass own = some m.cls) (hy1 : y.name = "<init>") (hlink : (Cond.methodLinkNest own index y host).before args s = true) (hinst : (Cond.instanceMethod y).before args s = true)
    (hcode : (Cond.code y bytes maxL none).before args s = true) (hy : y.cls ≠ "java/lang/invoke/MethodHandle" ∧ y.cls ≠ "java/lang/invoke/VarHandle")
    {W9 : Nat} {Pre : Pt → Array Value → Prop} {Post : Pt → Array Value → Option Value → Pt → Prop} {PostX : Pt → Array Value → Addr → Pt → Prop} (hK : vx_Back l R p e below s args y 3 W9 Pre Post PostX)
    {g : JFrame} (hg : g.method = m) (hsize : g.locals.size = c.maxLocals) {a : Addr} {argsL rest : List Value} (hlen : ∀ sig, parseMethodDescriptor y.desc = some sig → argsL.length = sig.parameters.length)
    (hstack : g.stack = argsL.reverse ++ .ref a :: rest) (hW : 2 * g.monitorRoom + (rest.map fun v => v.category).sum ≤ W9) (hdg : decode c.code g.pc = .ok (.invokespecial index, 3))
    (hpre : ∀ vm₁, s.WarmedH vm₁ → Pre ⟨T.setVm vm₁, locs, cells, slots⟩ (Value.ref a :: argsL).toArray) :
    (∃ (v : Option Value) (vm₁ : Vm) (B : Pt), s.WarmedH vm₁ ∧ Stand p l e R s m args below meth c B.U B.locs B.cells B.slots ∧ Post ⟨T.setVm vm₁, locs, cells, slots⟩ (Value.ref a :: argsL).toArray v B ∧
      ∀ target, Steps p.tables e below (B.U.setTop { g with pc := g.pc + 3, stack := v.toList ++ rest }) target → Steps p.tables e below (T.setTop g) target) ∨
    (∃ (q : Addr) (vm₁ : Vm) (B : Pt), s.WarmedH vm₁ ∧ Stand p l e R s m args below meth c B.U B.locs B.cells B.slots ∧ PostX ⟨T.setVm vm₁, locs, cells, slots⟩ (Value.ref a :: argsL).toArray q B ∧
      Steps p.tables e below (T.setTop g) ((B.U.setTop { g with stack := rest }).pushFrame (.throwing q))) := by
  subst hg
  have hpl : e.platform.magicAccessors = ({} : Platform).magicAccessors := by rw [X.admits.platform]
  obtain ⟨mk, methM, cM, kP, vm₁, hnamed, hmethM, hcodeM, -, hlocalsM, -, hkP, -, hW₁, hstep₁⟩ := Steps.initColdArgsNest (e := e) X.here hexec X.warmed hpl hown hy1 hy hlink hinst hcode (f := g) rfl hlen hstack hdg
  have X₁ := X.noted hW₁
  rcases hK g.method meth c ⟨T.setVm vm₁, locs, cells, slots⟩ { g with stack := rest } (.invokespecial index) mk (Value.ref a :: argsL).toArray X₁ rfl hsize hdg hW (X₁.named hnamed) (hpre vm₁ X₁.warmed) with ⟨v, B, X', hpost, hsteps⟩ | ⟨q, B, X', hpost, hsteps⟩
  · exact Or.inl ⟨v, vm₁, B, X₁.warmed, X', hpost, fun target h => hstep₁ _ fun acts => by rw [doInvoke_state]; exact hsteps.trans h⟩
  · exact Or.inr ⟨q, vm₁, B, X₁.warmed, X', hpost, hstep₁ _ fun acts => by rw [doInvoke_state]; exact hsteps⟩
end VXIC
section VXID
variable {p : Program} {l : Launch} {e : Env} {R : Room} {s : State} {m : MethodId} {args : Array Value} {below : List Frame} {meth : Method} {c : Code} {H : Heap} {locs : List Loc} {cells slots : Nat}
theorem vx_runIN {y : MethodName} {bytes cc : ByteArray} {maxL nL mc ms n index : Nat} {ws : List Cond} {rm : Room} {Pc : Array Value → State → Prop} {Qc : Array Value → State → Outcome → State → Prop} {XC : String → State → State → Prop} {free : Addr → Prop} {Ts : List Cond} {own host : String} {b : Addr} {As rest : List Value} {g : JFrame}
    (S : CallFix p m c cc nL s args Ts own) (hM : vx_Met l y ws rm Pc Qc XC mc ms free) (cw : va_CN R s args own index y host bytes maxL none ws rm mc ms n ∧ y.name = "<init>" ∧ (Cond.instanceMethod y).before args s = true) (hp : PreS s H Pc (.ref b :: As))
    (hg : g.method = m) (hn : As.length = n) (hsize : g.locals.size = nL) (hstack : g.stack = As.reverse ++ .ref b :: rest) (hW : 2 * g.monitorRoom + (rest.map fun v => v.category).sum ≤ 8) (hdg : decode cc g.pc = .ok (.invokespecial index, 3)) (hf : cells + mc ≤ R.cells ∧ slots + ms ≤ R.slots) :
    vx_Run p l e R s m args below meth c H locs cells slots mc ms g rest (Qc (Value.ref b :: As).toArray) XC free := by
  obtain ⟨⟨⟨hrc, hrs, hfr, hlo, hws, hcw⟩, hcode, hini, hy, hlen, hl⟩, hx1, hx2⟩ := cw
  have hK : vx_Back l R p e below s args y 3 8 (PreOf R mc ms Pc) (PostOf Qc mc ms free) (vx_Post XC mc ms free) := vx_back (bytes := bytes) (maxL := maxL) (ret := none) hM hp.1 hrc hrs hfr hlo hws hcw (fun a' U hW => word_at hW (Or.inl (by first | rfl | simp [Cond.onTables, Cond.keeps, Cond.steady])) hini)
  obtain ⟨hx, hb, hml, ho, -⟩ := S
  have hPc := hp.2
  intro T hT X
  rcases vx_callIN X hx (bytes := bytes) (maxL := maxL) ho hx1 hl hx2 hcode hy hK hg (hsize.trans hml.symm) (a := b) (argsL := As) (rest := rest) (fun sig h => hn.trans (hlen sig h)) hstack hW (by rw [hb]; exact hdg)
    (fun vm₁ hW₁ => ⟨hf.1, hf.2, hPc (T.setVm vm₁) hT hW₁⟩) with ⟨v, vm₁, ⟨U', l2, c2, s2⟩, hW₁, X', ⟨g', mk, t, L, e1, e2, hq, h1, hL, h2, h3⟩, st⟩ | ⟨q, vm₁, ⟨U', l2, c2, s2⟩, hW₁, X', ⟨g', mk, t, L, E, ce, e1, e2, hq, hce, hcv, hcl, h1, hL, h2, h3⟩, st⟩
  · dsimp only [Pt.U, Pt.locs, Pt.cells, Pt.slots] at X' e1 e2 h1 h2 h3 st
    subst h1; subst h2; subst h3
    exact Or.inl ⟨v, (T.setVm vm₁).calling g' mk (Value.ref b :: As).toArray, t, U', L, hT, X', hL, e1, e2, hq, st⟩
  · dsimp only [Pt.U, Pt.locs, Pt.cells, Pt.slots] at X' e1 e2 h1 h2 h3 st hcl
    subst h1; subst h2; subst h3
    exact Or.inr ⟨q, (T.setVm vm₁).calling g' mk (Value.ref b :: As).toArray, t, U', L, E, ce, hT, X', hL, e1, e2, hq, hce, hcv, vx_cls hW₁ hcl, st⟩
end VXID
section
variable {p : Program} {l : Launch} {e : Env} {R : Room} {s : State} {m : MethodId} {args : Array Value} {below : List Frame} {meth : Method} {c : Code} {H : Heap} {locs : List Loc} {cells slots : Nat}
variable {T : State}
theorem vx_callVN (X : Stand p l e R s m args below meth c T locs cells slots) (hexec : p.tables.exec = Jvm.exec) {own C : String} {index : Nat} {host : String} {y : MethodName} {bytes : ByteArray} {maxL : Nat} {ret : Option FieldType}
    (hown : s.vm.findClass own = some m.cls) (hlink : (Cond.methodLinkNest own index y host).before args s = true) (hinst : (Cond.instanceMethod y).before args s = true) (hsel : (Cond.selects C y y).before args s = true)
    (hcode : (Cond.code y bytes maxL ret).before args s = true) (hy : y.cls ≠ "java/lang/invoke/MethodHandle" ∧ y.cls ≠ "java/lang/invoke/VarHandle")
    {W : Nat} {Pre : Pt → Array Value → Prop} {Post : Pt → Array Value → Option Value → Pt → Prop} {PostX : Pt → Array Value → Addr → Pt → Prop} (hK : vx_Back l R p e below s args y 3 W Pre Post PostX)
    {b : Addr} {cellB : Cell} (hcell : T.heap[b]? = some cellB) (hobj : cellB.vm.isStatics = false) (hcls : s.vm.findClass C = some cellB.cls)
    {g : JFrame} (hg : g.method = m) (hsize : g.locals.size = c.maxLocals) {argsL rest : List Value} (hlen : ∀ sig, parseMethodDescriptor y.desc = some sig → argsL.length = sig.parameters.length)
    (hstack : g.stack = argsL.reverse ++ .ref b :: rest) (hW : 2 * g.monitorRoom + (rest.map fun v => v.category).sum ≤ W) (hdg : decode c.code g.pc = .ok (.invokevirtual index, 3))
    (hpre : ∀ vm₁, s.WarmedH vm₁ → Pre ⟨T.setVm vm₁, locs, cells, slots⟩ (Value.ref b :: argsL).toArray) :
    (∃ (v : Option Value) (vm₁ : Vm) (B : Pt), s.WarmedH vm₁ ∧ Stand p l e R s m args below meth c B.U B.locs B.cells B.slots ∧ Post ⟨T.setVm vm₁, locs, cells, slots⟩ (Value.ref b :: argsL).toArray v B ∧
      ∀ target, Steps p.tables e below (B.U.setTop { g with pc := g.pc + 3, stack := v.toList ++ rest }) target → Steps p.tables e below (T.setTop g) target) ∨
    (∃ (q : Addr) (vm₁ : Vm) (B : Pt), s.WarmedH vm₁ ∧ Stand p l e R s m args below meth c B.U B.locs B.cells B.slots ∧ PostX ⟨T.setVm vm₁, locs, cells, slots⟩ (Value.ref b :: argsL).toArray q B ∧
      Steps p.tables e below (T.setTop g) ((B.U.setTop { g with stack := rest }).pushFrame (.throwing q))) := by
  obtain ⟨mk, methM, hnamed, hmethM, hstM, habM⟩ := Cond.instanceMethod_spec hinst
  obtain ⟨methM', cM, hmethM', -, -, -, -, -, -, hsigM⟩ := Cond.code_spec hnamed hcode
  cases hmethM.symm.trans hmethM'
  obtain ⟨c2, r2, m2, q1, q2, q3, q4, kP, hkP, hkPi⟩ := Cond.selects_spec hsel
  cases hcls.symm.trans q1
  cases (State.methodFound?_of_named hnamed hy).symm.trans q2
  cases hnamed.symm.trans q3
  have hselP : selectMethod e.platform s.vm cellB.cls mk = .method mk := by rw [Launch.admits_selectMethod X.admits]; exact q4
  obtain ⟨vm₁, X₁, hstep₁⟩ := X.invokevirtualNest hexec hown hlink hnamed hmethM hstM hkP hkPi hy (a := b) (cell := cellB) hcell
    (fun z h => by rw [h] at hobj; cases hobj) hselP hmethM habM hkP hkPi (g := g) hg (argsL := argsL) (rest := rest) (hlen _ hsigM) hstack hdg
  rcases hK m meth c ⟨T.setVm vm₁, locs, cells, slots⟩ { g with stack := rest } (.invokevirtual index) mk (Value.ref b :: argsL).toArray X₁ hg hsize hdg hW (X₁.named hnamed) (hpre vm₁ X₁.warmed) with ⟨v, B, X', hpost, hsteps⟩ | ⟨q, B, X', hpost, hsteps⟩
  · exact Or.inl ⟨v, vm₁, B, X₁.warmed, X', hpost, fun target h => hstep₁ _ fun acts => by rw [doInvoke_state]; exact hsteps.trans h⟩
  · exact Or.inr ⟨q, vm₁, B, X₁.warmed, X', hpost, hstep₁ _ fun acts => by rw [doInvoke_state]; exact hsteps⟩
theorem vx_callSN (X : Stand p l e R s m args below meth c T locs cells slots) (hexec : p.tables.exec = Jvm.exec) {own : String} {index : Nat} {host : String} {y : MethodName} {bytes : ByteArray} {maxL : Nat} {ret : Option FieldType}
    (hown : s.vm.findClass own = some m.cls) (hlink : (Cond.methodLinkNest own index y host).before args s = true) (hstat : (Cond.static y).before args s = true) (hinit : (Cond.initialized y.cls).before args s = true)
    (hcode : (Cond.code y bytes maxL ret).before args s = true) (hy : y.cls ≠ "java/lang/invoke/MethodHandle" ∧ y.cls ≠ "java/lang/invoke/VarHandle")
    {W : Nat} {Pre : Pt → Array Value → Prop} {Post : Pt → Array Value → Option Value → Pt → Prop} {PostX : Pt → Array Value → Addr → Pt → Prop} (hK : vx_Back l R p e below s args y 3 W Pre Post PostX)
    {g : JFrame} (hg : g.method = m) (hsize : g.locals.size = c.maxLocals) {argsL rest : List Value} (hlen : ∀ sig, parseMethodDescriptor y.desc = some sig → argsL.length = sig.parameters.length)
    (hstack : g.stack = argsL.reverse ++ rest) (hW : 2 * g.monitorRoom + (rest.map fun v => v.category).sum ≤ W) (hdg : decode c.code g.pc = .ok (.invokestatic index, 3))
    (hpre : ∀ vm₁, s.WarmedH vm₁ → Pre ⟨T.setVm vm₁, locs, cells, slots⟩ argsL.toArray) :
    (∃ (v : Option Value) (vm₁ : Vm) (B : Pt), s.WarmedH vm₁ ∧ Stand p l e R s m args below meth c B.U B.locs B.cells B.slots ∧ Post ⟨T.setVm vm₁, locs, cells, slots⟩ argsL.toArray v B ∧
      ∀ target, Steps p.tables e below (B.U.setTop { g with pc := g.pc + 3, stack := v.toList ++ rest }) target → Steps p.tables e below (T.setTop g) target) ∨
    (∃ (q : Addr) (vm₁ : Vm) (B : Pt), s.WarmedH vm₁ ∧ Stand p l e R s m args below meth c B.U B.locs B.cells B.slots ∧ PostX ⟨T.setVm vm₁, locs, cells, slots⟩ argsL.toArray q B ∧
      Steps p.tables e below (T.setTop g) ((B.U.setTop { g with stack := rest }).pushFrame (.throwing q))) := by
  obtain ⟨mk, hnamed⟩ := Cond.code_named hcode
  obtain ⟨methM, cM, hmethM, -, -, -, -, -, -, hsigM⟩ := Cond.code_spec hnamed hcode
  have hstatic : methM.isStatic = true := Cond.static_spec hnamed hmethM hstat
  obtain ⟨kP, hkP, -⟩ := className_of_methodNamed hnamed
  have hinitP : kP.init = .initialized := Cond.initialized_spec (findClass_of_methodNamed hnamed) hkP hinit
  obtain ⟨vm₁, X₁, hstep₁⟩ := X.invokestaticNest hexec hown hlink hnamed hmethM hstatic hkP hinitP hy (g := g) hg (argsL := argsL) (rest := rest) (hlen _ hsigM) hstack hdg
  rcases hK m meth c ⟨T.setVm vm₁, locs, cells, slots⟩ { g with stack := rest } (.invokestatic index) mk argsL.toArray X₁ hg hsize hdg hW (X₁.named hnamed) (hpre vm₁ X₁.warmed) with ⟨v, B, X', hpost, hsteps⟩ | ⟨q, B, X', hpost, hsteps⟩
  · exact Or.inl ⟨v, vm₁, B, X₁.warmed, X', hpost, fun target h => hstep₁ _ fun acts => by rw [doInvoke_state]; exact hsteps.trans h⟩
  · exact Or.inr ⟨q, vm₁, B, X₁.warmed, X', hpost, hstep₁ _ fun acts => by rw [doInvoke_state]; exact hsteps⟩
theorem vx_runVN {y : MethodName} {bytes cc : ByteArray} {maxL nL mc ms n index : Nat} {ret : Option FieldType} {ws : List Cond} {rm : Room} {Pc : Array Value → State → Prop} {Qc : Array Value → State → Outcome → State → Prop} {XC : String → State → State → Prop} {free : Addr → Prop} {Ts : List Cond} {own C host : String} {b : Addr} {As rest : List Value} {g : JFrame}
    (S : CallFix p m c cc nL s args Ts own) (hM : vx_Met l y ws rm Pc Qc XC mc ms free) (cw : va_CN R s args own index y host bytes maxL ret ws rm mc ms n ∧ (Cond.instanceMethod y).before args s = true ∧ (Cond.selects C y y).before args s = true) (hp : PreV s H C b Pc As)
    (hg : g.method = m) (hn : As.length = n) (hsize : g.locals.size = nL) (hstack : g.stack = As.reverse ++ .ref b :: rest) (hW : 2 * g.monitorRoom + (rest.map fun v => v.category).sum ≤ 8) (hdg : decode cc g.pc = .ok (.invokevirtual index, 3)) (hf : cells + mc ≤ R.cells ∧ slots + ms ≤ R.slots) :
    vx_Run p l e R s m args below meth c H locs cells slots mc ms g rest (Qc (Value.ref b :: As).toArray) XC free := by
  obtain ⟨⟨⟨hrc, hrs, hfr, hlo, hws, hcw⟩, hcode, hini, hy, hlen, hl⟩, hx1, hx2⟩ := cw
  have hK : vx_Back l R p e below s args y 3 8 (PreOf R mc ms Pc) (PostOf Qc mc ms free) (vx_Post XC mc ms free) := vx_back (bytes := bytes) (maxL := maxL) (ret := ret) hM hp.1 hrc hrs hfr hlo hws hcw (fun a' U hW => word_at hW (Or.inl (by first | rfl | simp [Cond.onTables, Cond.keeps, Cond.steady])) hini)
  obtain ⟨hx, hb, hml, ho, -⟩ := S
  obtain ⟨-, ⟨cellB, hcB, hoB, hclB⟩, hPc⟩ := hp
  intro T hT X
  rcases vx_callVN X hx (C := C) (bytes := bytes) (maxL := maxL) (ret := ret) ho hl hx1 hx2 hcode hy hK (by rw [hT]; exact hcB) hoB hclB hg (hsize.trans hml.symm) (argsL := As) (rest := rest) (fun sig h => hn.trans (hlen sig h)) hstack hW (by rw [hb]; exact hdg)
    (fun vm₁ hW₁ => ⟨hf.1, hf.2, hPc (T.setVm vm₁) hT hW₁⟩) with ⟨v, vm₁, ⟨U', l2, c2, s2⟩, hW₁, X', ⟨g', mk, t, L, e1, e2, hq, h1, hL, h2, h3⟩, st⟩ | ⟨q, vm₁, ⟨U', l2, c2, s2⟩, hW₁, X', ⟨g', mk, t, L, E, ce, e1, e2, hq, hce, hcv, hcl, h1, hL, h2, h3⟩, st⟩
  · dsimp only [Pt.U, Pt.locs, Pt.cells, Pt.slots] at X' e1 e2 h1 h2 h3 st
    subst h1; subst h2; subst h3
    exact Or.inl ⟨v, (T.setVm vm₁).calling g' mk (Value.ref b :: As).toArray, t, U', L, hT, X', hL, e1, e2, hq, st⟩
  · dsimp only [Pt.U, Pt.locs, Pt.cells, Pt.slots] at X' e1 e2 h1 h2 h3 st hcl
    subst h1; subst h2; subst h3
    exact Or.inr ⟨q, (T.setVm vm₁).calling g' mk (Value.ref b :: As).toArray, t, U', L, E, ce, hT, X', hL, e1, e2, hq, hce, hcv, vx_cls hW₁ hcl, st⟩
theorem vx_runSN {y : MethodName} {bytes cc : ByteArray} {maxL nL mc ms n index : Nat} {ret : Option FieldType} {ws : List Cond} {rm : Room} {Pc : Array Value → State → Prop} {Qc : Array Value → State → Outcome → State → Prop} {XC : String → State → State → Prop} {free : Addr → Prop} {Ts : List Cond} {own host : String} {As rest : List Value} {g : JFrame}
    (S : CallFix p m c cc nL s args Ts own) (hM : vx_Met l y ws rm Pc Qc XC mc ms free) (cw : va_CN R s args own index y host bytes maxL ret ws rm mc ms n ∧ (Cond.static y).before args s = true ∧ True) (hp : PreS s H Pc As)
    (hg : g.method = m) (hn : As.length = n) (hsize : g.locals.size = nL) (hstack : g.stack = As.reverse ++ rest) (hW : 2 * g.monitorRoom + (rest.map fun v => v.category).sum ≤ 8) (hdg : decode cc g.pc = .ok (.invokestatic index, 3)) (hf : cells + mc ≤ R.cells ∧ slots + ms ≤ R.slots) :
    vx_Run p l e R s m args below meth c H locs cells slots mc ms g rest (Qc As.toArray) XC free := by
  obtain ⟨⟨⟨hrc, hrs, hfr, hlo, hws, hcw⟩, hcode, hini, hy, hlen, hl⟩, hx1, hx2⟩ := cw
  have hK : vx_Back l R p e below s args y 3 8 (PreOf R mc ms Pc) (PostOf Qc mc ms free) (vx_Post XC mc ms free) := vx_back (bytes := bytes) (maxL := maxL) (ret := ret) hM hp.1 hrc hrs hfr hlo hws hcw (fun a' U hW => word_at hW (Or.inl (by first | rfl | simp [Cond.onTables, Cond.keeps, Cond.steady])) hini)
  obtain ⟨hx, hb, hml, ho, -⟩ := S
  have hPc := hp.2
  intro T hT X
  rcases vx_callSN X hx (bytes := bytes) (maxL := maxL) (ret := ret) ho hl hx1 hini hcode hy hK hg (hsize.trans hml.symm) (argsL := As) (rest := rest) (fun sig h => hn.trans (hlen sig h)) hstack hW (by rw [hb]; exact hdg)
    (fun vm₁ hW₁ => ⟨hf.1, hf.2, hPc (T.setVm vm₁) hT hW₁⟩) with ⟨v, vm₁, ⟨U', l2, c2, s2⟩, hW₁, X', ⟨g', mk, t, L, e1, e2, hq, h1, hL, h2, h3⟩, st⟩ | ⟨q, vm₁, ⟨U', l2, c2, s2⟩, hW₁, X', ⟨g', mk, t, L, E, ce, e1, e2, hq, hce, hcv, hcl, h1, hL, h2, h3⟩, st⟩
  · dsimp only [Pt.U, Pt.locs, Pt.cells, Pt.slots] at X' e1 e2 h1 h2 h3 st
    subst h1; subst h2; subst h3
    exact Or.inl ⟨v, (T.setVm vm₁).calling g' mk As.toArray, t, U', L, hT, X', hL, e1, e2, hq, st⟩
  · dsimp only [Pt.U, Pt.locs, Pt.cells, Pt.slots] at X' e1 e2 h1 h2 h3 st hcl
    subst h1; subst h2; subst h3
    exact Or.inr ⟨q, (T.setVm vm₁).calling g' mk As.toArray, t, U', L, E, ce, hT, X', hL, e1, e2, hq, hce, hcv, vx_cls hW₁ hcl, st⟩
end
end
section
/-! ===== a method's start and ends, calls, throws ===== -/
def ax_cat : Av → Nat
  | .inr (.inr _) => 2
  | _ => 1
theorem ax_catv (ad : AD) (v : Av) : (ax_v ad v).category = ax_cat v := by
  rcases v with z | r | z
  · rfl
  · cases r <;> rfl
  · rfl
theorem ax_cats (ad : AD) (st : List Av) : ((st.map (ax_v ad)).map fun v => v.category) = st.map ax_cat := by
  rw [List.map_map]
  exact List.map_congr_left fun v _ => ax_catv ad v
theorem ax_GG : GoodIn ax_GT ax_GT := fun w hw => ⟨hw, good_of_word (List.mem_filter.mp hw).2⟩
theorem ax_Gc {w : Cond} {ws : List Cond} (hw : w ∈ ax_GT) (h : GoodIn ax_GT ws) : GoodIn ax_GT (w :: ws) := fun x hx => (List.mem_cons.mp hx).elim (fun e => by rw [e]; exact ax_GG w hw) (h x)
theorem ax_lgs (vs : List Value) (h : ∀ v ∈ vs, v.category = 1) : (lg_sl vs).length = vs.length := by
  induction vs with
  | nil => rfl
  | cons v vs ih =>
    have h1 := h v List.mem_cons_self
    have h2 := ih fun w hw => h w (List.mem_cons_of_mem _ hw)
    simp only [lg_sl, List.flatMap_cons, List.length_append, List.length_cons] at h2 ⊢
    rw [h2]
    simp [h1]
    omega
theorem ax_lva (vs : List Value) (h : ∀ v ∈ vs, v.category = 1) : ∀ (i j : Nat) (v : Value), vs[j]? = some v → (i + j, v) ∈ lv_args i vs := by
  induction vs with
  | nil => intro i j v hv; simp at hv
  | cons w vs ih =>
    intro i j v hv
    have h1 := h w List.mem_cons_self
    have hn : ¬ w.category = 2 := by omega
    simp only [lv_args, if_neg hn]
    cases j with
    | zero =>
      simp only [List.getElem?_cons_zero, Option.some.injEq] at hv
      subst hv
      exact List.mem_cons_self
    | succ j =>
      rw [List.getElem?_cons_succ] at hv
      have := ih (fun w hw => h w (List.mem_cons_of_mem _ hw)) (i + 1) j v hv
      rw [show i + (j + 1) = i + 1 + j by omega]
      exact List.mem_cons_of_mem _ this
theorem ax_P.blind {D : va_G} {cA : Nat → ClassId} {z0 : Nat} {ad : AD} {av : List Av} {h : Hp} : FrameBlind (ax_P D cA z0 ad av h) := by
  intro a U g mk hp
  obtain ⟨h1, h2, h3, h4, h5, h6, h7, h8⟩ := hp
  exact ⟨h1, h2, va_K.moved (u := U) (U := U.calling g mk a) (Vm.Alike.refl U.vm) h3, ax_N.warm (s := U) (U := U.calling g mk a) (State.WarmedH.refl U) h4, vx_Zq.moved (u := U) (U := U.calling g mk a) (Vm.Alike.refl U.vm) h5, vx_Zq.moved (u := U) (U := U.calling g mk a) (Vm.Alike.refl U.vm) h6, h7, h8⟩
/-- from a method's start -/
theorem ax_start {I : MI} {av : List Av} {h : Hp} {Q : Option Av → Hp → Prop} {X : String → Hp → Prop} {xs : List (Option Av)} (hy : plainName (mY I).cls = true) (hsc : mSc I = none) (hown : mOwn I = (mY I).cls) (hlen : av.length ≤ mL I) (hcat : av.all (fun v => ax_cat v == 1) = true) (hxs : xs = av.map some ++ List.replicate (mL I - av.length) none) (k : Run I 0 xs [] h 0 0 Q X) : Con I av h Q X := by
  intro l D cA z0 ad hst
  have hca : ∀ v ∈ av.map (ax_v ad), v.category = 1 := by
    intro w hw
    obtain ⟨v, hv, rfl⟩ := List.mem_map.mp hw
    rw [ax_catv]
    have := List.all_eq_true.mp hcat v hv
    simpa using this
  have body : ∀ (p : Program) (e : Env) (s : State) (m : MethodId) (args : Array Value) (below : List Frame) (meth : Method) (c : Code) (s₁ : State), BodyLoose p l (mY I) (headSpec (ax_ws I) (mRm I)) (mC I) (mL I) (mRet I) e s m args below meth c s₁ → c.maxLocals = mL I → c.exceptionTable.toList = tableOf (mHH I) → ax_P D cA z0 ad av h args s →
      W p l e (mRm I) s m args below meth c s.heap [] 0 0 (vx_MQ below (ax_Q D cA z0 h.2.2 ad Q) (ax_X D cA z0 h.2.2 ad X) args s (mRm I).cells (mRm I).slots (fun q => z0 ≤ q)) (entryFrame m args (mL I)) := by
    intro p e s m args below meth c s₁ B hml ht hv
    obtain ⟨rfl, hR, hK, hN, hU, hV, hz, hok⟩ := hv
    have hts := atoms_spec (ws := ax_ws I) B.pre
    have hl := lv_entry (av.map (ax_v ad)) (n := mL I) (by rw [ax_lgs _ hca, List.length_map]; exact hlen)
    rw [lg_entry_eq]
    generalize (lg_sl (av.map (ax_v ad)) ++ List.replicate (mL I - (lg_sl (av.map (ax_v ad))).length) Slot.unset).toArray = ls at hl ⊢
    refine k l p e s m _ below meth c D cA z0 h.2.2 ad ad s.heap [] ls ⟨⟨B.exec, B.bytes, hml, ?_, fun w hw => hts w (List.mem_cons_of_mem _ hw), hK, hN, hU, hV, B.notSynchronized, (name_of_methodNamed B.named B.method).1, hst, ht, hz, B.returns, fun q hq => by rw [hsc] at hq; cases hq⟩, hR, va_S.rf, fun k i a b => ⟨b, rfl⟩, ⟨hl.1, hl.2.1, fun i v hv => ?_⟩, fun v hv => ?_, fun v hv => nomatch hv⟩
    · rw [hown]; exact findClass_of_methodNamed B.named
    · subst hxs
      by_cases hi : i < av.length
      · rw [List.getElem?_append_left (by rw [List.length_map]; exact hi), List.getElem?_map] at hv
        cases hz : av[i]? with
        | none => rw [hz] at hv; cases hv
        | some w =>
          rw [hz] at hv
          cases hv
          have h9 : (av.map (ax_v ad))[i]? = some (ax_v ad v) := by rw [List.getElem?_map, hz]; rfl
          have := ax_lva _ hca 0 i _ h9
          rw [Nat.zero_add] at this
          exact ⟨hl.2.2 _ this, hca _ (List.mem_of_getElem? h9)⟩
      · rw [List.getElem?_append_right (by rw [List.length_map]; omega)] at hv
        have := List.eq_of_mem_replicate (List.mem_of_getElem? hv)
        cases this
    · subst hxs
      rcases List.mem_append.mp hv with h9 | h9
      · obtain ⟨w, hw, e⟩ := List.mem_map.mp h9
        cases e
        exact hok _ hw
      · have := List.eq_of_mem_replicate h9
        cases this
  cases hhh : mHH I with
  | nil =>
    refine vx_ofW (cc := mC I) (maxL := mL I) (ret := mRet I) hy (show ax_ws I = _ by unfold ax_ws; rw [hhh]) ?_
    intro p e s m args below meth c s₁ B hml ht hv
    refine body p e s m args below meth c s₁ B hml ?_ hv
    rw [hhh]
    cases hq : c.exceptionTable.toList with
    | nil => rfl
    | cons x _ => exact absurd (ht x (by rw [hq]; exact List.mem_cons_self)) id
  | cons hh1 hh2 =>
    refine vx_ofWH (cc := mC I) (maxL := mL I) (ret := mRet I) (hh := hh1 :: hh2) hy (show ax_ws I = _ by unfold ax_ws; rw [hhh]) ?_
    intro p e s m args below meth c s₁ B hml hv
    refine body p e s m args below meth c s₁ B hml ?_ hv
    rw [hhh]
    exact vx_table (x := mY I) B (atoms_spec (ws := ax_ws I) B.pre _ (by unfold ax_ws; rw [hhh]; exact List.mem_cons_self))
/-- as Run, where an exception of class E is thrown at the instruction -/
def RunX (I : MI) (pc : Nat) (xs : List (Option Av)) (st : List Av) (h : Hp) (cs sl : Nat) (E : String) (Q : Option Av → Hp → Prop) (X : String → Hp → Prop) : Prop :=
  ∀ (l : Launch) (p : Program) (e : Env) (s : State) (m : MethodId) (args : Array Value) (below : List Frame) (meth : Method) (c : Code) (D : va_G) (cA : Nat → ClassId) (z0 : Nat) (n0 : Nat → Int) (ad0 ad : AD) (H : Heap) (locs : List Loc) (ls : Array Slot) (q : Addr) (ce : Cell),
    ax_B I l p s m args meth c D cA z0 n0 ad0 ad h H locs ls xs st → H[q]? = some ce → ce.vm = .none → s.vm.findClass E = some ce.cls →
    vx_W p l e (mRm I) s m args below meth c H locs cs sl (vx_MQ below (ax_Q D cA z0 n0 ad0 Q) (ax_X D cA z0 n0 ad0 X) args s (mRm I).cells (mRm I).slots (fun q => z0 ≤ q)) (F0 m pc ls (st.map (ax_v ad))) q
section AXC
variable {I I' : MI} {pc index : Nat} {xs : List (Option Av)} {st : List Av} {h : Hp} {cs sl cs' sl' : Nat} {Q Q' : Option Av → Hp → Prop} {X X' : String → Hp → Prop}
theorem rx_out {E : String} (hh : mHH I = []) (hX : X E h) (hc : cs ≤ (mRm I).cells) (hs : sl ≤ (mRm I).slots) : RunX I pc xs st h cs sl E Q X := by
  intro l p e s m args below meth c D cA z0 n0 ad0 ad H locs ls q ce B h1 h2 h3
  obtain ⟨hC, hR, hS, hE, hL, hxs, hst⟩ := B
  have ht := hC.2.2.2.2.2.2.2.2.2.2.2.2.1
  rw [hh] at ht
  exact vx_out (fun x hx => by rw [ht] at hx; cases hx) hC.2.2.2.2.2.2.2.2.2.1 h1 h2 h3 (fun t ht _ => ⟨h, ad, hX, by rw [ht]; exact hR, hE, hS.F ht⟩) hS.2.2 hc hs
theorem r_iret {v : Int} (hd : decode (mC I) pc = .ok (.ireturn, 1)) (hr : mRet I = some .int ∨ (mRet I = some .boolean ∧ (v = 0 ∨ v = 1))) (hc : cs ≤ (mRm I).cells) (hs : sl ≤ (mRm I).slots) (hq : Q (some (aI v)) h) : Run I pc xs [aI v] h cs sl Q X := by
  intro l p e s m args below meth c D cA z0 n0 ad0 ad H locs ls B
  obtain ⟨hC, hR, hS, hE, hL, hxs, hst⟩ := B
  have hlk := hC.2.2.2.2.2.2.2.2.2.1
  have hret := hC.2.2.2.2.2.2.2.2.2.2.2.2.2.2.1
  have hv : ax_32 v := hst _ List.mem_cons_self
  refine W.widen hc hs (vx_ret ?_)
  have fin : ∀ t : State, t.heap = H → s.WarmedH t.vm → ax_Q D cA z0 n0 ad0 Q args s (.returned (some (.int (Int32.ofInt v)))) t := fun t ht _ => ⟨some (aI v), h, ad, rfl, hq, by rw [ht]; exact hR, hE, fun w hw => by cases hw; exact hv, hS.F ht⟩
  rcases hr with hr | ⟨hr, hv9⟩
  · exact W.zret (ty := .int) hC.1 hC.2.1 (hret.trans hr) rfl fin hS.2.2 hd hlk
  · exact W.zret (ty := .boolean) hC.1 hC.2.1 (hret.trans hr) (by rcases hv9 with rfl | rfl <;> rfl) fin hS.2.2 hd hlk
theorem r_vret (hd : decode (mC I) pc = .ok (.return_, 1)) (hr : mRet I = none) (hc : cs ≤ (mRm I).cells) (hs : sl ≤ (mRm I).slots) (hq : Q none h) : Run I pc xs [] h cs sl Q X := by
  intro l p e s m args below meth c D cA z0 n0 ad0 ad H locs ls B
  obtain ⟨hC, hR, hS, hE, hL, hxs, hst⟩ := B
  have hlk := hC.2.2.2.2.2.2.2.2.2.1
  have hret := hC.2.2.2.2.2.2.2.2.2.2.2.2.2.2.1
  refine W.widen hc hs (vx_ret ?_)
  exact W.vret hC.1 hC.2.1 (hret.trans hr) (fun t ht _ => ⟨none, h, ad, rfl, hq, by rw [ht]; exact hR, hE, fun w hw => (by cases hw), hS.F ht⟩) hS.2.2 hd hlk
theorem r_aret {r : Rf} {C : String} (hd : decode (mC I) pc = .ok (.areturn, 1)) (hr : mRet I = some (.object C)) (hc : cs ≤ (mRm I).cells) (hs : sl ≤ (mRm I).slots) (hq : Q (some (aQ r)) h) : Run I pc xs [aQ r] h cs sl Q X := by
  intro l p e s m args below meth c D cA z0 n0 ad0 ad H locs ls B
  obtain ⟨hC, hR, hS, hE, hL, hxs, hst⟩ := B
  have hlk := hC.2.2.2.2.2.2.2.2.2.1
  have hret := hC.2.2.2.2.2.2.2.2.2.2.2.2.2.2.1
  have hv : ax_k h.2.2 (aQ r) := hst _ List.mem_cons_self
  refine W.widen hc hs (vx_ret ?_)
  exact W.aret hC.1 hC.2.1 (hret.trans hr) (Or.inl ⟨C, rfl⟩) (by cases r with | none => exact Or.inl rfl | some p => exact Or.inr ⟨_, rfl⟩) (fun t ht _ => ⟨some (aQ r), h, ad, rfl, hq, by rw [ht]; exact hR, hE, fun w hw => by cases hw; exact hv, hS.F ht⟩) hS.2.2 hd hlk
/-- behind a call -/
theorem ax_after {l : Launch} {p : Program} {e : Env} {s : State} {m : MethodId} {args a : Array Value} {below : List Frame} {meth : Method} {c : Code} {D : va_G} {cA : Nat → ClassId} {z0 : Nat} {n0 : Nat → Int} {ad0 ad : AD} {H : Heap} {locs : List Loc} {ls : Array Slot} {rest : List Av} {st0 : List Value} {mc ms : Nat}
    (B : ax_B I l p s m args meth c D cA z0 n0 ad0 ad h H locs ls xs rest) (hr : vx_Run p l e (mRm I) s m args below meth c H locs cs sl mc ms (F0 m pc ls st0) (rest.map (ax_v ad)) (ax_Q D cA z0 h.2.2 ad Q' a) (ax_X D cA z0 h.2.2 ad X') (fun q => z0 ≤ q))
    (k : ∀ (r : Option Av) (h' : Hp), Q' r h' → Run I (pc + 3) xs (r.toList ++ rest) h' (cs + mc) (sl + ms) Q X) (kx : ∀ (E : String) (h' : Hp), X' E h' → RunX I pc xs rest h' (cs + mc) (sl + ms) E Q X) :
    W p l e (mRm I) s m args below meth c H locs cs sl (vx_MQ below (ax_Q D cA z0 n0 ad0 Q) (ax_X D cA z0 n0 ad0 X) args s (mRm I).cells (mRm I).slots (fun q => z0 ≤ q)) (F0 m pc ls st0) := by
  intro T hT Xs
  have hz := B.1.2.2.2.2.2.2.2.2.2.2.2.2.2.1
  rcases hr T hT Xs with ⟨v, st₀, t, T', L, h0, X', hL, e1, e2, ⟨r, h', ad', hv, hq, hR, hE, hk, hF⟩, st⟩ | ⟨q, st₀, t, T', L, E, ce, h0, X', hL, e1, e2, ⟨h', ad', hq, hR, hE, hF⟩, hce, hcv, hcl, st⟩
  · cases hv
    obtain ⟨k1, k2, k3⟩ := vx_keep h0 e1 B.2.2.1 (fun q _ z => z) (fun q z => z) hL hF
    obtain ⟨hB', hm⟩ := B.go (by rw [e1]; exact hR) k3 hE
    have hw := k r h' hq l p e s m args below meth c D cA z0 n0 ad0 ad' T'.heap (locs ++ L) ls ⟨hB'.1, hB'.2.1, hB'.2.2.1, hB'.2.2.2.1, hB'.2.2.2.2.1, hB'.2.2.2.2.2.1, fun w hw => by
      rcases List.mem_append.mp hw with g | g
      · cases r with
        | none => cases g
        | some r =>
          simp only [Option.toList_some, List.mem_singleton] at g
          subst g
          exact hk _ rfl
      · exact hB'.2.2.2.2.2.2 w g⟩
    obtain ⟨t2, a1, b1⟩ := hw T' rfl X'
    refine ⟨t2, st t2 ?_, b1⟩
    have e9 : (r.toList ++ rest).map (ax_v ad') = (r.map (ax_v ad')).toList ++ rest.map (ax_v ad) := by
      rw [List.map_append, hm]
      cases r <;> rfl
    rw [e9] at a1
    exact a1
  · obtain ⟨k1, k2, k3⟩ := vx_keep h0 e1 B.2.2.1 (fun q _ z => z) (fun q z => z) hL hF
    obtain ⟨hB', hm⟩ := B.go (by rw [e1]; exact hR) k3 hE
    have hw := kx E h' hq l p e s m args below meth c D cA z0 n0 ad0 ad' T'.heap (locs ++ L) ls q ce hB' (by rw [e1]; exact hce) hcv hcl
    rw [hm] at hw
    obtain ⟨t2, a1, b1⟩ := hw T' rfl X'
    exact ⟨t2, st.trans a1, b1⟩
/-- what is known of a method that is called by a link: an instance method of class t, or a static one -/
def ax_Mc (own : String) (index : Nat) (I' : MI) (n : Nat) : Prop := Cond.methodLink own index (mY I') ∈ ax_GT ∧ Cond.initialized (mY I').cls ∈ ax_GT ∧ (mHH I' = [] ∧ Cond.code (mY I') (mC I') (mL I') (mRet I') ∈ ax_GT ∨ mHH I' ≠ [] ∧ Cond.codeWith (mY I') (mC I') (mL I') (mRet I') (mHH I') ∈ ax_GT) ∧
  ((mY I').cls ≠ "java/lang/invoke/MethodHandle" ∧ (mY I').cls ≠ "java/lang/invoke/VarHandle" ∧ (parseMethodDescriptor (mY I').desc).map (fun d => d.parameters.length) = some n)
def ax_Mv (own : String) (index : Nat) (I' : MI) (n t : Nat) : Prop := ax_Mc own index I' n ∧ mHH I' = [] ∧ Cond.instanceMethod (mY I') ∈ ax_GT ∧ Cond.selects (mY I').cls (mY I') (mY I') ∈ ax_GT ∧ ∃ (T : u_T) (N : Nat), vwCl[t]? = some ((mY I').cls, T, N) ∧ ax_kd t = (t, N) ∧ t < 8
def ax_Ms (own : String) (index : Nat) (I' : MI) (n : Nat) : Prop := ax_Mc own index I' n ∧ (mY I').cls = own ∧ Cond.static (mY I') ∈ ax_GT
def ax_rm (I I' : MI) : Prop := (mRm I').frames + 1 ≤ (mRm I).frames ∧ 8 + (mL I' + 11) + (mRm I').locals ≤ (mRm I).locals
theorem ax_wsn (hh : mHH I' = []) : ax_ws I' = .code (mY I') (mC I') (mL I') (mRet I') :: ax_GT := by unfold ax_ws; rw [hh]
theorem ax_pre {l : Launch} {p : Program} {s : State} {m : MethodId} {args : Array Value} {meth : Method} {c : Code} {D : va_G} {cA : Nat → ClassId} {z0 : Nat} {n0 : Nat → Int} {ad0 ad : AD} {H : Heap} {locs : List Loc} {ls : Array Slot} {av : List Av}
    (B : ax_B I l p s m args meth c D cA z0 n0 ad0 ad h H locs ls xs st) (hav : ∀ v ∈ av, v ∈ st) : ∀ U : State, U.heap = H → s.WarmedH U.vm → ax_P D cA z0 ad av h (av.map (ax_v ad)).toArray U := by
  obtain ⟨hC, hR, hS, hE, hL, hxs, hst⟩ := B
  intro U hU hW
  refine ⟨rfl, by rw [hU]; exact hR, va_K.moved hW.alike hC.2.2.2.2.2.1, ax_N.warm hW hC.2.2.2.2.2.2.1, ?_, ?_, ?_, fun v hv => hst v (hav v hv)⟩
  · rw [hU]; exact vx_Zq.moved hW.alike (hC.2.2.2.2.2.2.2.1.kept hS.2.1)
  · rw [hU]; exact vx_Zq.moved hW.alike (hC.2.2.2.2.2.2.2.2.1.kept hS.2.1)
  · rw [hU]; exact Nat.le_trans hC.2.2.2.2.2.2.2.2.2.2.2.2.2.1 hS.1
theorem r_callV {n t : Nat} {i : Int} {as rest : List Av} (hm : ax_Mv (mOwn I) index I' n t) (hcon : Con I' (aR t i :: as) h Q' X') (hn : as.length = n) (hrm : ax_rm I I') (hcat : (rest.map ax_cat).sum ≤ 8) (hd : decode (mC I) pc = .ok (.invokevirtual index, 3)) (h0 : 0 ≤ i) (h1 : i < h.2.2 t) (hc : cs + (mRm I').cells = cs' ∧ cs' ≤ (mRm I).cells) (hs : sl + (mRm I').slots = sl' ∧ sl' ≤ (mRm I).slots)
    (hst0 : st = as.reverse ++ aR t i :: rest) (k : ∀ (r : Option Av) (h' : Hp), Q' r h' → Run I (pc + 3) xs (r.toList ++ rest) h' cs' sl' Q X) (kx : ∀ (E : String) (h' : Hp), X' E h' → RunX I pc xs rest h' cs' sl' E Q X) : Run I pc xs st h cs sl Q X := by
  intro l p e s m args below meth c D cA z0 n0 ad0 ad H locs ls B
  subst hst0
  obtain ⟨⟨m1, m2, m3, m4⟩, m5, m6, m7, T, N, m8, m9, m10⟩ := hm
  have hts := B.1.2.2.2.2.1
  have hcode : Cond.code (mY I') (mC I') (mL I') (mRet I') ∈ ax_GT := by
    rcases m3 with q | q
    · exact q.2
    · exact absurd m5 q.1
  obtain ⟨rfl, hc2⟩ := hc
  obtain ⟨rfl, hs2⟩ := hs
  have ha := (B.2.1.1 t i (by rw [m9]; show t < 14; omega) h0 h1).1
  rw [ax_eo m9 m10] at ha
  have hK := B.1.2.2.2.2.2.1
  have hrecv := va_recv hK (ax_at ha) m8 (q0 := 0) rfl
  have hGv : GoodIn ax_GT (wsV (mOwn I) index (mY I').cls (mY I') (ax_ws I')) := by
    unfold wsV
    refine goodIn_app (ax_Gc m1 (ax_Gc m6 (ax_Gc m7 (ax_Gc m2 (fun _ q => nomatch q))))) ?_
    rw [ax_wsn m5]
    exact ax_Gc hcode ax_GG
  have hrun := vx_runV (As := as.map (ax_v ad)) (rest := rest.map (ax_v ad)) (g := F0 m pc ls ((as.reverse ++ aR t i :: rest).map (ax_v ad))) (cells := cs) (slots := sl) (e := e) (below := below) (R := mRm I) (meth := meth) (H := H) (locs := locs) (args := args) (C := (mY I').cls) (b := ad t i) ⟨B.1.1, B.1.2.1, B.1.2.2.1, B.1.2.2.2.1, hts⟩ (hcon l D cA z0 ad B.1.2.2.2.2.2.2.2.2.2.2.2.1) (cwV n hts hGv (ax_wsn m5) rfl rfl ⟨rfl, m4⟩ hrm) ⟨ax_P.blind, hrecv, ax_pre B (av := aR t i :: as) (fun v hv => by
      rcases List.mem_cons.mp hv with rfl | hv
      · exact List.mem_append_right _ List.mem_cons_self
      · exact List.mem_append_left _ (List.mem_reverse.mpr hv))⟩ rfl (by rw [List.length_map]; exact hn) B.2.2.2.2.1.1 (by simp [ax_v]) (lv_room (by rw [ax_cats]; exact hcat)) hd ⟨hc2, hs2⟩
  exact ax_after ⟨B.1, B.2.1, B.2.2.1, B.2.2.2.1, B.2.2.2.2.1, B.2.2.2.2.2.1, fun v hv => B.2.2.2.2.2.2 v (List.mem_append_right _ (List.mem_cons_of_mem _ hv))⟩ hrun k kx
theorem r_callS {n : Nat} {as rest : List Av} (hm : ax_Ms (mOwn I) index I' n) (hh : mHH I' = []) (hcon : Con I' as h Q' X') (hn : as.length = n) (hrm : ax_rm I I') (hcat : (rest.map ax_cat).sum ≤ 8) (hd : decode (mC I) pc = .ok (.invokestatic index, 3)) (hc : cs + (mRm I').cells = cs' ∧ cs' ≤ (mRm I).cells) (hs : sl + (mRm I').slots = sl' ∧ sl' ≤ (mRm I).slots)
    (hst0 : st = as.reverse ++ rest) (k : ∀ (r : Option Av) (h' : Hp), Q' r h' → Run I (pc + 3) xs (r.toList ++ rest) h' cs' sl' Q X) (kx : ∀ (E : String) (h' : Hp), X' E h' → RunX I pc xs rest h' cs' sl' E Q X) : Run I pc xs st h cs sl Q X := by
  intro l p e s m args below meth c D cA z0 n0 ad0 ad H locs ls B
  subst hst0
  obtain ⟨⟨m1, m2, m3, m4⟩, m5, m6⟩ := hm
  have hts := B.1.2.2.2.2.1
  have hcode : Cond.code (mY I') (mC I') (mL I') (mRet I') ∈ ax_GT := by
    rcases m3 with q | q
    · exact q.2
    · exact absurd hh q.1
  obtain ⟨rfl, hc2⟩ := hc
  obtain ⟨rfl, hs2⟩ := hs
  have hGv : GoodIn ax_GT (wsS (mOwn I) index (mY I') (ax_ws I')) := by
    unfold wsS
    refine goodIn_app (ax_Gc m1 (ax_Gc m6 (ax_Gc (by rw [← m5]; exact m2) (fun _ q => nomatch q)))) ?_
    rw [ax_wsn hh]
    exact ax_Gc hcode ax_GG
  have hrun := vx_runS (As := as.map (ax_v ad)) (rest := rest.map (ax_v ad)) (g := F0 m pc ls ((as.reverse ++ rest).map (ax_v ad))) (cells := cs) (slots := sl) (e := e) (below := below) (R := mRm I) (meth := meth) (H := H) (locs := locs) (args := args) ⟨B.1.1, B.1.2.1, B.1.2.2.1, B.1.2.2.2.1, hts⟩ (hcon l D cA z0 ad B.1.2.2.2.2.2.2.2.2.2.2.2.1) (cwS n hts hGv (ax_wsn hh) rfl rfl ⟨m5, m4⟩ hrm) ⟨ax_P.blind, ax_pre B (av := as) (fun v hv => List.mem_append_left _ (List.mem_reverse.mpr hv))⟩ rfl (by rw [List.length_map]; exact hn) B.2.2.2.2.1.1 (by simp) (lv_room (by rw [ax_cats]; exact hcat)) hd ⟨hc2, hs2⟩
  exact ax_after ⟨B.1, B.2.1, B.2.2.1, B.2.2.2.1, B.2.2.2.2.1, B.2.2.2.2.2.1, fun v hv => B.2.2.2.2.2.2 v (List.mem_append_right _ hv)⟩ hrun k kx
end AXC
end
section
/-! ===== constructors, nest mates, methods with handlers, the JDK's own, throws and catches ===== -/
section AXD
variable {I I' : MI} {pc index : Nat} {xs : List (Option Av)} {st : List Av} {h : Hp} {cs sl cs' sl' : Nat} {Q Q' : Option Av → Hp → Prop} {X X' : String → Hp → Prop}
theorem r_objInit {t : Nat} {i : Int} (hl : Cond.methodLink (mOwn I) index Lib.objectInit ∈ ax_GT ∧ Cond.instanceMethod Lib.objectInit ∈ ax_GT ∧ Cond.code Lib.objectInit ⟨#[0xb1]⟩ 1 none ∈ ax_GT) (hrm : 1 ≤ (mRm I).frames ∧ (st.map ax_cat).sum + 12 ≤ (mRm I).locals) (hd : decode (mC I) pc = .ok (.invokespecial index, 3)) (k : Run I (pc + 3) xs st h cs sl Q X) : Run I pc xs (aR t i :: st) h cs sl Q X := by
  intro l p e s m args below meth c D cA z0 n0 ad0 ad H locs ls B
  have hts := B.1.2.2.2.2.1
  refine W.objInit B.1.1 B.1.2.1 B.1.2.2.2.1 (hts _ hl.1) (hts _ hl.2.1) (hts _ hl.2.2) (g := F0 m pc ls ((aR t i :: st).map (ax_v ad))) rfl (by rw [B.1.2.2.1]; exact B.2.2.2.2.1.1) (rest := st.map (ax_v ad)) rfl hd hrm.1 (by rw [ax_cats]; show 2 * 0 + _ + 12 ≤ _; have := hrm.2; omega) ?_
  exact k l p e s m args below meth c D cA z0 n0 ad0 ad H locs ls ⟨B.1, B.2.1, B.2.2.1, B.2.2.2.1, B.2.2.2.2.1, B.2.2.2.2.2.1, fun v hv => B.2.2.2.2.2.2 v (List.mem_cons_of_mem _ hv)⟩
def ax_Mi (own : String) (index : Nat) (I' : MI) (n : Nat) : Prop := ax_Mc own index I' n ∧ mHH I' = [] ∧ mRet I' = none ∧ (mY I').name = "<init>" ∧ Cond.instanceMethod (mY I') ∈ ax_GT
theorem r_callI {n t : Nat} {i : Int} {as rest : List Av} (hm : ax_Mi (mOwn I) index I' n) (hcon : Con I' (aR t i :: as) h Q' X') (hn : as.length = n) (hrm : ax_rm I I') (hcat : (rest.map ax_cat).sum ≤ 8) (hd : decode (mC I) pc = .ok (.invokespecial index, 3)) (hc : cs + (mRm I').cells = cs' ∧ cs' ≤ (mRm I).cells) (hs : sl + (mRm I').slots = sl' ∧ sl' ≤ (mRm I).slots)
    (hst0 : st = as.reverse ++ aR t i :: rest) (k : ∀ (r : Option Av) (h' : Hp), Q' r h' → Run I (pc + 3) xs (r.toList ++ rest) h' cs' sl' Q X) (kx : ∀ (E : String) (h' : Hp), X' E h' → RunX I pc xs rest h' cs' sl' E Q X) : Run I pc xs st h cs sl Q X := by
  intro l p e s m args below meth c D cA z0 n0 ad0 ad H locs ls B
  subst hst0
  obtain ⟨⟨m1, m2, m3, m4⟩, m5, m6, m7, m8⟩ := hm
  have hts := B.1.2.2.2.2.1
  have hcode : Cond.code (mY I') (mC I') (mL I') none ∈ ax_GT := by
    rw [← m6]
    rcases m3 with q | q
    · exact q.2
    · exact absurd m5 q.1
  obtain ⟨rfl, hc2⟩ := hc
  obtain ⟨rfl, hs2⟩ := hs
  have hws : ax_ws I' = .code (mY I') (mC I') (mL I') none :: ax_GT := by rw [← m6]; exact ax_wsn m5
  have hG : GoodIn ax_GT (ax_ws I') := by rw [hws]; exact ax_Gc hcode ax_GG
  have hrun := vx_runI (As := as.map (ax_v ad)) (rest := rest.map (ax_v ad)) (g := F0 m pc ls ((as.reverse ++ aR t i :: rest).map (ax_v ad))) (cells := cs) (slots := sl) (e := e) (below := below) (R := mRm I) (meth := meth) (H := H) (locs := locs) (args := args) (b := ad t i) ⟨B.1.1, B.1.2.1, B.1.2.2.1, B.1.2.2.2.1, hts⟩ (hcon l D cA z0 ad B.1.2.2.2.2.2.2.2.2.2.2.2.1) (cwI n hts hG hws rfl rfl (hts _ m2) (hts _ m1) (hts _ m8) m7 m4 hrm) ⟨ax_P.blind, ax_pre B (av := aR t i :: as) (fun v hv => by
      rcases List.mem_cons.mp hv with rfl | hv
      · exact List.mem_append_right _ List.mem_cons_self
      · exact List.mem_append_left _ (List.mem_reverse.mpr hv))⟩ rfl (by rw [List.length_map]; exact hn) B.2.2.2.2.1.1 (by simp [ax_v]) (lv_room (by rw [ax_cats]; exact hcat)) hd ⟨hc2, hs2⟩
  exact ax_after ⟨B.1, B.2.1, B.2.2.1, B.2.2.2.1, B.2.2.2.2.1, B.2.2.2.2.2.1, fun v hv => B.2.2.2.2.2.2 v (List.mem_append_right _ (List.mem_cons_of_mem _ hv))⟩ hrun k kx
/-- a nest mate's private constructor or static method -/
def ax_Mn (own : String) (index : Nat) (I' : MI) (n : Nat) : Prop := Cond.methodLinkNest own index (mY I') RX6 ∈ ax_NW ∧ Cond.initialized (mY I').cls ∈ ax_GT ∧ mHH I' = [] ∧ Cond.code (mY I') (mC I') (mL I') (mRet I') ∈ ax_GT ∧
  ((mY I').cls ≠ "java/lang/invoke/MethodHandle" ∧ (mY I').cls ≠ "java/lang/invoke/VarHandle" ∧ (parseMethodDescriptor (mY I').desc).map (fun d => d.parameters.length) = some n)
theorem r_callIN {n t : Nat} {i : Int} {as rest : List Av} (hm : ax_Mn (mOwn I) index I' n ∧ mRet I' = none ∧ (mY I').name = "<init>" ∧ Cond.instanceMethod (mY I') ∈ ax_GT) (hcon : Con I' (aR t i :: as) h Q' X') (hn : as.length = n) (hrm : ax_rm I I') (hcat : (rest.map ax_cat).sum ≤ 8) (hd : decode (mC I) pc = .ok (.invokespecial index, 3)) (hc : cs + (mRm I').cells = cs' ∧ cs' ≤ (mRm I).cells) (hs : sl + (mRm I').slots = sl' ∧ sl' ≤ (mRm I).slots)
    (hst0 : st = as.reverse ++ aR t i :: rest) (k : ∀ (r : Option Av) (h' : Hp), Q' r h' → Run I (pc + 3) xs (r.toList ++ rest) h' cs' sl' Q X) (kx : ∀ (E : String) (h' : Hp), X' E h' → RunX I pc xs rest h' cs' sl' E Q X) : Run I pc xs st h cs sl Q X := by
  intro l p e s m args below meth c D cA z0 n0 ad0 ad H locs ls B
  subst hst0
  obtain ⟨⟨m1, m2, m3, m4, m5⟩, m6, m7, m8⟩ := hm
  have hts := B.1.2.2.2.2.1
  obtain ⟨rfl, hc2⟩ := hc
  obtain ⟨rfl, hs2⟩ := hs
  rw [m6] at m4
  have hws : ax_ws I' = .code (mY I') (mC I') (mL I') none :: ax_GT := by rw [← m6]; exact ax_wsn m3
  have hG : GoodIn ax_GT (ax_ws I') := by rw [hws]; exact ax_Gc m4 ax_GG
  have hrun := vx_runIN (host := RX6) (As := as.map (ax_v ad)) (rest := rest.map (ax_v ad)) (g := F0 m pc ls ((as.reverse ++ aR t i :: rest).map (ax_v ad))) (cells := cs) (slots := sl) (e := e) (below := below) (R := mRm I) (meth := meth) (H := H) (locs := locs) (args := args) (b := ad t i) ⟨B.1.1, B.1.2.1, B.1.2.2.1, B.1.2.2.2.1, hts⟩ (hcon l D cA z0 ad B.1.2.2.2.2.2.2.2.2.2.2.2.1) ⟨va_cnB n hts hG hws rfl rfl (B.1.2.2.2.2.2.2.1.1 _ m1) (hts _ m2) m5 hrm, m7, hts _ m8⟩ ⟨ax_P.blind, ax_pre B (av := aR t i :: as) (fun v hv => by
      rcases List.mem_cons.mp hv with rfl | hv
      · exact List.mem_append_right _ List.mem_cons_self
      · exact List.mem_append_left _ (List.mem_reverse.mpr hv))⟩ rfl (by rw [List.length_map]; exact hn) B.2.2.2.2.1.1 (by simp [ax_v]) (lv_room (by rw [ax_cats]; exact hcat)) hd ⟨hc2, hs2⟩
  exact ax_after ⟨B.1, B.2.1, B.2.2.1, B.2.2.2.1, B.2.2.2.2.1, B.2.2.2.2.2.1, fun v hv => B.2.2.2.2.2.2 v (List.mem_append_right _ (List.mem_cons_of_mem _ hv))⟩ hrun k kx
theorem r_callSN {n : Nat} {as rest : List Av} (hm : ax_Mn (mOwn I) index I' n ∧ Cond.static (mY I') ∈ ax_GT) (hcon : Con I' as h Q' X') (hn : as.length = n) (hrm : ax_rm I I') (hcat : (rest.map ax_cat).sum ≤ 8) (hd : decode (mC I) pc = .ok (.invokestatic index, 3)) (hc : cs + (mRm I').cells = cs' ∧ cs' ≤ (mRm I).cells) (hs : sl + (mRm I').slots = sl' ∧ sl' ≤ (mRm I).slots)
    (hst0 : st = as.reverse ++ rest) (k : ∀ (r : Option Av) (h' : Hp), Q' r h' → Run I (pc + 3) xs (r.toList ++ rest) h' cs' sl' Q X) (kx : ∀ (E : String) (h' : Hp), X' E h' → RunX I pc xs rest h' cs' sl' E Q X) : Run I pc xs st h cs sl Q X := by
  intro l p e s m args below meth c D cA z0 n0 ad0 ad H locs ls B
  subst hst0
  obtain ⟨⟨m1, m2, m3, m4, m5⟩, m6⟩ := hm
  have hts := B.1.2.2.2.2.1
  obtain ⟨rfl, hc2⟩ := hc
  obtain ⟨rfl, hs2⟩ := hs
  have hG : GoodIn ax_GT (ax_ws I') := by rw [ax_wsn m3]; exact ax_Gc m4 ax_GG
  have hrun := vx_runSN (host := RX6) (As := as.map (ax_v ad)) (rest := rest.map (ax_v ad)) (g := F0 m pc ls ((as.reverse ++ rest).map (ax_v ad))) (cells := cs) (slots := sl) (e := e) (below := below) (R := mRm I) (meth := meth) (H := H) (locs := locs) (args := args) ⟨B.1.1, B.1.2.1, B.1.2.2.1, B.1.2.2.2.1, hts⟩ (hcon l D cA z0 ad B.1.2.2.2.2.2.2.2.2.2.2.2.1) ⟨va_cnB n hts hG (ax_wsn m3) rfl rfl (B.1.2.2.2.2.2.2.1.1 _ m1) (hts _ m2) m5 hrm, hts _ m6, trivial⟩ ⟨ax_P.blind, ax_pre B (av := as) (fun v hv => List.mem_append_left _ (List.mem_reverse.mpr hv))⟩ rfl (by rw [List.length_map]; exact hn) B.2.2.2.2.1.1 (by simp) (lv_room (by rw [ax_cats]; exact hcat)) hd ⟨hc2, hs2⟩
  exact ax_after ⟨B.1, B.2.1, B.2.2.1, B.2.2.2.1, B.2.2.2.2.1, B.2.2.2.2.2.1, fun v hv => B.2.2.2.2.2.2 v (List.mem_append_right _ hv)⟩ hrun k kx
/-- a static method with a table of handlers -/
theorem r_callSX {n : Nat} {as rest : List Av} (hm : ax_Ms (mOwn I) index I' n) (hh : mHH I' ≠ []) (hcon : Con I' as h Q' X') (hn : as.length = n) (hrm : ax_rm I I') (hcat : (rest.map ax_cat).sum ≤ 8) (hd : decode (mC I) pc = .ok (.invokestatic index, 3)) (hc : cs + (mRm I').cells = cs' ∧ cs' ≤ (mRm I).cells) (hs : sl + (mRm I').slots = sl' ∧ sl' ≤ (mRm I).slots)
    (hst0 : st = as.reverse ++ rest) (k : ∀ (r : Option Av) (h' : Hp), Q' r h' → Run I (pc + 3) xs (r.toList ++ rest) h' cs' sl' Q X) (kx : ∀ (E : String) (h' : Hp), X' E h' → RunX I pc xs rest h' cs' sl' E Q X) : Run I pc xs st h cs sl Q X := by
  intro l p e s m args below meth c D cA z0 n0 ad0 ad H locs ls B
  subst hst0
  obtain ⟨⟨m1, m2, m3, m4⟩, m5, m6⟩ := hm
  have hts := B.1.2.2.2.2.1
  have hcode : Cond.codeWith (mY I') (mC I') (mL I') (mRet I') (mHH I') ∈ ax_GT := by
    rcases m3 with q | q
    · exact absurd q.1 hh
    · exact q.2
  obtain ⟨rfl, hc2⟩ := hc
  obtain ⟨rfl, hs2⟩ := hs
  have hws : ax_ws I' = .codeWith (mY I') (mC I') (mL I') (mRet I') (mHH I') :: ax_GT := by
    unfold ax_ws
    cases hz : mHH I' with
    | nil => exact absurd hz hh
    | cons _ _ => rfl
  have hG : GoodIn ax_GT (ax_ws I') := by rw [hws]; exact ax_Gc hcode ax_GG
  have hcw : Cond.codeWith (mY I') (mC I') (mL I') (mRet I') (mHH I') ∈ ax_ws I' := by rw [hws]; exact List.mem_cons_self
  have hrun := vx_runSX (hh := mHH I') (As := as.map (ax_v ad)) (rest := rest.map (ax_v ad)) (g := F0 m pc ls ((as.reverse ++ rest).map (ax_v ad))) (cells := cs) (slots := sl) (e := e) (below := below) (R := mRm I) (meth := meth) (H := H) (locs := locs) (args := args) ⟨B.1.1, B.1.2.1, B.1.2.2.1, B.1.2.2.2.1, hts⟩ (hcon l D cA z0 ad B.1.2.2.2.2.2.2.2.2.2.2.2.1) ⟨⟨rfl, rfl, hrm.1, hrm.2, pay_in hts hG, hcw⟩, hts _ hcode, hts _ m2, ⟨m4.1, m4.2.1⟩, fun sig h9 => by
      have h2 := m4.2.2
      rw [h9] at h2
      exact (Option.some.inj h2).symm, hts _ m1, hts _ m6⟩ ⟨ax_P.blind, ax_pre B (av := as) (fun v hv => List.mem_append_left _ (List.mem_reverse.mpr hv))⟩ rfl (by rw [List.length_map]; exact hn) B.2.2.2.2.1.1 (by simp) (lv_room (by rw [ax_cats]; exact hcat)) hd ⟨hc2, hs2⟩
  exact ax_after ⟨B.1, B.2.1, B.2.2.1, B.2.2.2.1, B.2.2.2.2.1, B.2.2.2.2.2.1, fun v hv => B.2.2.2.2.2.2 v (List.mem_append_right _ hv)⟩ hrun k kx
def ax_mw (own : String) (index : Nat) (y : MethodName) (b : ByteArray) : Prop := Cond.methodLink own index y ∈ ax_GT ∧ Cond.static y ∈ ax_GT ∧ Cond.initialized "java/lang/Math" ∈ ax_GT ∧ Cond.code y b 2 (some .int) ∈ ax_GT
theorem r_max {x y : Int} (hl : ax_mw (mOwn I) index Lib.Math.max.name Lib.Math.max.code) (hrm : 1 ≤ (mRm I).frames ∧ (st.map ax_cat).sum + 13 ≤ (mRm I).locals) (hc : cs ≤ (mRm I).cells) (hs : sl ≤ (mRm I).slots) (hd : decode (mC I) pc = .ok (.invokestatic index, 3)) (k : Run I (pc + 3) xs (aI (if x < y then y else x) :: st) h cs sl Q X) : Run I pc xs (aI y :: aI x :: st) h cs sl Q X := by
  intro l p e s m args below meth c D cA z0 n0 ad0 ad H locs ls B
  have hts := B.1.2.2.2.2.1
  have kx : ax_32 x := B.2.2.2.2.2.2 _ (List.mem_cons_of_mem _ List.mem_cons_self)
  have ky : ax_32 y := B.2.2.2.2.2.2 _ List.mem_cons_self
  refine va_mmax B.1.1 B.1.2.1 (B.1.2.2.1.trans B.2.2.2.2.1.1.symm) B.1.2.2.2.1 (hts _ hl.1) (hts _ hl.2.1) (hts _ hl.2.2.1) (hts _ hl.2.2.2) hrm.1 (by rw [ax_cats]; exact hrm.2) hc hs hd ?_
  have e9 : (if Int32.ofInt x < Int32.ofInt y then Int32.ofInt y else Int32.ofInt x) = Int32.ofInt (if x < y then y else x) := by
    simp only [ax_lt kx ky]
    split <;> rfl
  rw [e9]
  refine k l p e s m args below meth c D cA z0 n0 ad0 ad H locs ls ⟨B.1, B.2.1, B.2.2.1, B.2.2.2.1, B.2.2.2.2.1, B.2.2.2.2.2.1, List.forall_mem_cons.mpr ⟨?_, fun v hv => B.2.2.2.2.2.2 v (List.mem_cons_of_mem _ (List.mem_cons_of_mem _ hv))⟩⟩
  show ax_32 (if x < y then y else x)
  split <;> assumption
theorem r_min {x y : Int} (hl : ax_mw (mOwn I) index Lib.Math.min.name Lib.Math.min.code) (hrm : 1 ≤ (mRm I).frames ∧ (st.map ax_cat).sum + 13 ≤ (mRm I).locals) (hc : cs ≤ (mRm I).cells) (hs : sl ≤ (mRm I).slots) (hd : decode (mC I) pc = .ok (.invokestatic index, 3)) (k : Run I (pc + 3) xs (aI (if y < x then y else x) :: st) h cs sl Q X) : Run I pc xs (aI y :: aI x :: st) h cs sl Q X := by
  intro l p e s m args below meth c D cA z0 n0 ad0 ad H locs ls B
  have hts := B.1.2.2.2.2.1
  have kx : ax_32 x := B.2.2.2.2.2.2 _ (List.mem_cons_of_mem _ List.mem_cons_self)
  have ky : ax_32 y := B.2.2.2.2.2.2 _ List.mem_cons_self
  refine va_mmin B.1.1 B.1.2.1 (B.1.2.2.1.trans B.2.2.2.2.1.1.symm) B.1.2.2.2.1 (hts _ hl.1) (hts _ hl.2.1) (hts _ hl.2.2.1) (hts _ hl.2.2.2) hrm.1 (by rw [ax_cats]; exact hrm.2) hc hs hd ?_
  have e9 : (if Int32.ofInt y < Int32.ofInt x then Int32.ofInt y else Int32.ofInt x) = Int32.ofInt (if y < x then y else x) := by
    simp only [ax_lt ky kx]
    split <;> rfl
  rw [e9]
  refine k l p e s m args below meth c D cA z0 n0 ad0 ad H locs ls ⟨B.1, B.2.1, B.2.2.1, B.2.2.2.1, B.2.2.2.2.1, B.2.2.2.2.2.1, List.forall_mem_cons.mpr ⟨?_, fun v hv => B.2.2.2.2.2.2 v (List.mem_cons_of_mem _ (List.mem_cons_of_mem _ hv))⟩⟩
  show ax_32 (if y < x then y else x)
  split <;> assumption
def ax_xn : List String := ["java/lang/RuntimeException", "java/lang/Exception"]
/-- what is known of the class of a throw, by its constructor's link -/
def ax_Th (own : String) (ik ic : Nat) (E : String) : Prop := own = RX6 ∧ Bundle.fit E = true ∧ Cond.classLink own ik E ∈ ax_GT ∧ Cond.initialized E ∈ ax_GT ∧ (∀ w ∈ vx_atS own ic E ax_xn, (w ∈ ax_GT ∨ w ∈ ax_NW) ∧ vx_ot w = true)
theorem r_throw {E text : String} {ik is ic : Nat} (hh : mHH I = []) (ht : ax_Th (mOwn I) ik ic E) (hstr : (is, text) ∈ ax_strs) (d0 : decode (mC I) pc = .ok (.new ik, 3)) (d3 : decode (mC I) (pc + 3) = .ok (.dup, 1)) (d4 : decode (mC I) (pc + 4) = .ok (.ldc is, 2)) (d6 : decode (mC I) (pc + 6) = .ok (.invokespecial ic, 3)) (d9 : decode (mC I) (pc + 9) = .ok (.athrow, 1))
    (hrm : 6 ≤ (mRm I).frames ∧ 82 ≤ (mRm I).locals ∧ cs + 1 ≤ (mRm I).cells ∧ sl + 6 ≤ (mRm I).slots) (hX : X E h) : Run I pc xs [] h cs sl Q X := by
  intro l p e s m args below meth c D cA z0 n0 ad0 ad H locs ls B
  obtain ⟨hC, hR, hS, hE, hL, hxs, hst⟩ := B
  have htb := hC.2.2.2.2.2.2.2.2.2.2.2.2.1
  rw [hh] at htb
  obtain ⟨t1, t2, t3, t4, t5⟩ := ht
  obtain ⟨sa, hsa⟩ := hC.2.2.2.2.2.2.1.2.2.2.2.1 _ hstr
  have hts := hC.2.2.2.2.1
  refine vx_throwS (names := ax_xn) (sa := sa) (text := text) hC.1 hC.2.1 hC.2.2.2.2.2.2.2.2.2.2.2.1 hC.2.2.2.1 t2 (by decide +kernel) (hts _ t3) (hts _ t4) (by rw [t1]; exact hsa) (fun w hw => ?_) (fun w hw => ?_) hC.2.2.2.2.2.2.2.1 hC.2.2.2.2.2.2.2.2.1 hS (hL.1.trans hC.2.2.1.symm) d0 d3 d4 d6 d9 (fun x hx => by rw [htb] at hx; cases hx) (by show 2 + 3 < _; have := hrm.1; omega) (by show 0 + (13 * (2 + 1) + 43) ≤ _; have := hrm.2.1; omega) hrm.2.2.1 hrm.2.2.2 hC.2.2.2.2.2.2.2.2.2.1 (fun t h1 h2 h3 => ⟨h, ad, hX, ?_, hE, ?_⟩) hS.2.2 hrm.2.2.1 hrm.2.2.2
  · rcases (t5 w hw).1 with q | q
    · exact hts _ q
    · have h9 := hC.2.2.2.2.2.2.1.1 w q
      refine va_Nw.use ?_ h9
      simp only [ax_NW, List.mem_cons, List.not_mem_nil, or_false] at q
      rcases q with rfl | rfl | rfl | rfl | rfl | rfl | rfl | rfl | rfl | rfl | rfl | rfl | rfl | rfl <;> rfl
  · rcases List.mem_cons.mp hw with rfl | hw
    · rfl
    · rcases List.mem_cons.mp hw with rfl | hw
      · rfl
      · exact (t5 w hw).2
  · refine ⟨fun k i a b d => ⟨(hR.1 k i a b d).1.kept (h3 _ (hR.1 k i a b d).1.lt), (hR.1 k i a b d).2⟩, hR.2⟩
  · exact ⟨Nat.le_trans hS.1 h2, fun q a b => (h3 q (Nat.lt_of_lt_of_le a hS.1)).trans (hS.2.1 q a b)⟩
theorem r_throwW {E text : String} {ik is ic : Nat} (hh : mHH I = []) (ht : ax_Th (mOwn I) ik ic E) (hstr : (is, text) ∈ ax_strs) (d0 : decode (mC I) pc = .ok (.new ik, 3)) (d3 : decode (mC I) (pc + 3) = .ok (.dup, 1)) (d4 : decode (mC I) (pc + 4) = .ok (.ldc_w is, 3)) (d7 : decode (mC I) (pc + 7) = .ok (.invokespecial ic, 3)) (d10 : decode (mC I) (pc + 10) = .ok (.athrow, 1))
    (hrm : 6 ≤ (mRm I).frames ∧ 82 ≤ (mRm I).locals ∧ cs + 1 ≤ (mRm I).cells ∧ sl + 6 ≤ (mRm I).slots) (hX : X E h) : Run I pc xs [] h cs sl Q X := by
  intro l p e s m args below meth c D cA z0 n0 ad0 ad H locs ls B
  obtain ⟨hC, hR, hS, hE, hL, hxs, hst⟩ := B
  have htb := hC.2.2.2.2.2.2.2.2.2.2.2.2.1
  rw [hh] at htb
  obtain ⟨t1, t2, t3, t4, t5⟩ := ht
  obtain ⟨sa, hsa⟩ := hC.2.2.2.2.2.2.1.2.2.2.2.1 _ hstr
  have hts := hC.2.2.2.2.1
  refine vx_throwSW (names := ax_xn) (sa := sa) (text := text) hC.1 hC.2.1 hC.2.2.2.2.2.2.2.2.2.2.2.1 hC.2.2.2.1 t2 (by decide +kernel) (hts _ t3) (hts _ t4) (by rw [t1]; exact hsa) (fun w hw => ?_) (fun w hw => ?_) hC.2.2.2.2.2.2.2.1 hC.2.2.2.2.2.2.2.2.1 hS (hL.1.trans hC.2.2.1.symm) d0 d3 d4 d7 d10 (fun x hx => by rw [htb] at hx; cases hx) (by show 2 + 3 < _; have := hrm.1; omega) (by show 0 + (13 * (2 + 1) + 43) ≤ _; have := hrm.2.1; omega) hrm.2.2.1 hrm.2.2.2 hC.2.2.2.2.2.2.2.2.2.1 (fun t h1 h2 h3 => ⟨h, ad, hX, ?_, hE, ?_⟩) hS.2.2 hrm.2.2.1 hrm.2.2.2
  · rcases (t5 w hw).1 with q | q
    · exact hts _ q
    · have h9 := hC.2.2.2.2.2.2.1.1 w q
      refine va_Nw.use ?_ h9
      simp only [ax_NW, List.mem_cons, List.not_mem_nil, or_false] at q
      rcases q with rfl | rfl | rfl | rfl | rfl | rfl | rfl | rfl | rfl | rfl | rfl | rfl | rfl | rfl <;> rfl
  · rcases List.mem_cons.mp hw with rfl | hw
    · rfl
    · rcases List.mem_cons.mp hw with rfl | hw
      · rfl
      · exact (t5 w hw).2
  · refine ⟨fun k i a b d => ⟨(hR.1 k i a b d).1.kept (h3 _ (hR.1 k i a b d).1.lt), (hR.1 k i a b d).2⟩, hR.2⟩
  · exact ⟨Nat.le_trans hS.1 h2, fun q a b => (h3 q (Nat.lt_of_lt_of_le a hS.1)).trans (hS.2.1 q a b)⟩
end AXD
end
section
/-! ===== rows of arrays, the rest: System.arraycopy, arrays of arrays, the script; a handler ===== -/
def cp1 (f : Nat → Int → Int → Int) (k : Nat) (i : Int) (k2 : Nat) (i2 n : Int) : Nat → Int → Int → Int := fun k' i' j => if k' = k2 ∧ i' = i2 ∧ 0 ≤ j ∧ j < n then f k i j else f k' i' j
section AXE
variable {I : MI} {pc index : Nat} {xs xs' : List (Option Av)} {st : List Av} {h : Hp} {cs sl : Nat} {Q : Option Av → Hp → Prop} {X : String → Hp → Prop}
theorem r_slen {L : Nat} {sc : Nat → Int32} (hsc : mSc I = some (L, sc)) (hL9 : L ≤ 100000) (hd : decode (mC I) pc = .ok (.arraylength, 1)) (k : Run I (pc + 1) xs (aI (L : Int) :: st) h cs sl Q X) : Run I pc xs (aR 99 0 :: st) h cs sl Q X := by
  intro l p e s m args below meth c D cA z0 n0 ad0 ad H locs ls B
  obtain ⟨hC, hR, hS, hE, hL, hxs, hst⟩ := B
  obtain ⟨s1, s2, s3⟩ := hC.2.2.2.2.2.2.2.2.2.2.2.2.2.2.2 _ hsc
  have ha := (hE 99 0 (Int.le_refl 0) s1).2
  have hk := k l p e s m args below meth c D cA z0 n0 ad0 ad H locs ls ⟨hC, hR, hS, hE, hL, hxs, List.forall_mem_cons.mpr ⟨(⟨by omega, by omega⟩ : ax_32 (L : Int)), fun v hv => hst v (List.mem_cons_of_mem _ hv)⟩⟩
  show W _ _ _ _ _ _ _ _ _ _ _ _ _ _ _ (F0 m pc ls (.ref (ad 99 0) :: _))
  rw [ha]
  refine va_slen hC.1 hC.2.1 s2 (Nat.lt_of_lt_of_le s3 hC.2.2.2.2.2.2.2.2.2.2.2.2.2.1) (Nat.not_le.mpr s3) hS hd ?_
  have e9 : Int32.ofInt (L : Int) = Int32.ofNat L := Int32.ofInt_eq_ofNat
  have e8 : (aI (L : Int) :: st).map (ax_v ad) = .int (Int32.ofNat L) :: st.map (ax_v ad) := by rw [← e9]; rfl
  rw [e8] at hk
  exact hk
theorem r_sld {L : Nat} {sc : Nat → Int32} {x : Int} (hsc : mSc I = some (L, sc)) (hd : decode (mC I) pc = .ok (.iaload, 1)) (x0 : 0 ≤ x) (x1 : x < L) (k : Run I (pc + 1) xs (aI (sc x.toNat).toInt :: st) h cs sl Q X) : Run I pc xs (aI x :: aR 99 0 :: st) h cs sl Q X := by
  intro l p e s m args below meth c D cA z0 n0 ad0 ad H locs ls B
  obtain ⟨hC, hR, hS, hE, hL, hxs, hst⟩ := B
  obtain ⟨s1, s2, s3⟩ := hC.2.2.2.2.2.2.2.2.2.2.2.2.2.2.2 _ hsc
  have ha := (hE 99 0 (Int.le_refl 0) s1).2
  have kx : ax_32 x := hst _ List.mem_cons_self
  have k32 : ax_32 (sc x.toNat).toInt := ⟨by have := (sc x.toNat).le_toInt; omega, by have := (sc x.toNat).toInt_lt; omega⟩
  have hk := k l p e s m args below meth c D cA z0 n0 ad0 ad H locs ls ⟨hC, hR, hS, hE, hL, hxs, List.forall_mem_cons.mpr ⟨k32, fun v hv => hst v (List.mem_cons_of_mem _ (List.mem_cons_of_mem _ hv))⟩⟩
  show W _ _ _ _ _ _ _ _ _ _ _ _ _ _ _ (F0 m pc ls (_ :: .ref (ad 99 0) :: _))
  rw [ha]
  refine va_sld hC.1 hC.2.1 s2 (Nat.lt_of_lt_of_le s3 hC.2.2.2.2.2.2.2.2.2.2.2.2.2.1) (Nat.not_le.mpr s3) hS (ax_in kx x0 x1) hd ?_
  rw [ax_cl kx]
  have e8 : (aI (sc x.toNat).toInt :: st).map (ax_v ad) = .int (sc x.toNat) :: st.map (ax_v ad) := by
    show Value.int (Int32.ofInt (sc x.toNat).toInt) :: _ = _
    rw [Int32.ofInt_toInt]
  rw [e8] at hk
  exact hk
theorem ax_L.drop {ad : AD} {nL i : Nat} {ls ls' : Array Slot} {xs xs' : List (Option Av)} {v : Value} (h : ax_L ad nL ls xs)
    (hl : lv_has ls' nL ((i, v) :: (ax_ls ad xs).filter (fun q => !(q.1 == i) && !(q.1 + 1 == i && q.2.category == 2)))) (hx : xs.set i none = xs') : ax_L ad nL ls' xs' := by
  subst hx
  refine ⟨hl.1, hl.2.1, fun j w hj => ?_⟩
  by_cases e : j = i
  · subst e
    rw [List.getElem?_set] at hj
    split at hj
    next => 
      split at hj
      next => cases hj
      next => cases hj
    next hn => exact absurd rfl hn
  · rw [List.getElem?_set_ne (Ne.symm e)] at hj
    have h9 := h.2.2 j w hj
    refine ⟨hl.2.2 (j, ax_v ad w) (List.mem_cons_of_mem _ (List.mem_filter.mpr ⟨ax_ls_mem.mpr ⟨w, hj, rfl⟩, ?_⟩)), h9.2⟩
    simp [e, h9.2]
/-- caught: the exception lies in a local of which nothing is said -/
theorem rx_catch {E : String} {x : Nat × Nat × Nat × Nat} {i ln : Nat} (pre suf : List (Nat × Nat × Nat × Nat)) (hh : mHH I = pre ++ x :: suf) (hcov : x.1 ≤ pc ∧ pc < x.2.1) (h0 : x.2.2.2 ≠ 0) (hl : Cond.classLink (mOwn I) x.2.2.2 E ∈ ax_GT) (hc : Cond.castable E E ∈ ax_NW)
    (hpass : ∀ z ∈ pre, z.2.2.2 ≠ 0 ∧ ∃ nm : String, Cond.classLink (mOwn I) z.2.2.2 nm ∈ ax_GT ∧ (E, nm) ∈ [("java/lang/IndexOutOfBoundsException", "java/lang/IllegalArgumentException"), ("java/lang/IndexOutOfBoundsException", "java/lang/IllegalStateException"), ("java/lang/IllegalArgumentException", "java/lang/IndexOutOfBoundsException"), ("java/lang/IllegalArgumentException", "java/lang/IllegalStateException"), ("java/lang/IllegalStateException", "java/lang/IndexOutOfBoundsException"), ("java/lang/IllegalStateException", "java/lang/IllegalArgumentException")])
    (hd : (decode (mC I) x.2.2.1 = .ok (.astore i, 2) ∧ ln = 2) ∨ (∃ k9 : Fin 4, decode (mC I) x.2.2.1 = .ok (.astore_n k9, 1) ∧ (k9 : Nat) = i ∧ ln = 1)) (hn : i < mL I) (hx : xs.set i none = xs') (k : Run I (x.2.2.1 + ln) xs' [] h cs sl Q X) : RunX I pc xs st h cs sl E Q X := by
  intro l p e s m args below meth c D cA z0 n0 ad0 ad H locs ls q ce B h1 h2 h3
  obtain ⟨hC, hR, hS, hE, hL, hxs, hst⟩ := B
  have ht := hC.2.2.2.2.2.2.2.2.2.2.2.2.1
  have hts := hC.2.2.2.2.1
  have hxs' : ∀ v, some v ∈ xs' → ax_k h.2.2 v := by
    subst hx
    intro w hw
    rcases List.mem_or_eq_of_mem_set hw with g | g
    · exact hxs w g
    · cases g
  have hk : ∀ ls' : Array Slot, ax_L ad (mL I) ls' xs' → W p l e (mRm I) s m args below meth c H locs cs sl (vx_MQ below (ax_Q D cA z0 n0 ad0 Q) (ax_X D cA z0 n0 ad0 X) args s (mRm I).cells (mRm I).slots (fun q => z0 ≤ q)) (F0 m (x.2.2.1 + ln) ls' []) := fun ls' hL' => k l p e s m args below meth c D cA z0 n0 ad0 ad H locs ls' ⟨hC, hR, hS, hE, hL', hxs', fun v hv => nomatch hv⟩
  have hwk : va_Nw (.castable E E) s := hC.2.2.2.2.2.2.1.1 _ hc
  refine vx_catch hC.2.2.2.1 (tableOf pre) ⟨x.1, x.2.1, x.2.2.1, x.2.2.2⟩ (tableOf suf) (by rw [ht, hh]; simp [tableOf]) (fun z hz => ?_) (by simp [covers, hcov.1, hcov.2]) h0 (hts _ hl) (va_Nw.use rfl hwk) h1 h2 h3 ?_
  · obtain ⟨y, hy, rfl⟩ := List.mem_map.mp hz
    obtain ⟨y0, nm, y1, y2⟩ := hpass y hy
    exact Or.inr ⟨y0, nm, hts _ y1, hC.2.2.2.2.2.2.1.2.2.2.2.2 _ y2⟩
  · rcases hd with ⟨hd, rfl⟩ | ⟨k9, hd, rfl, rfl⟩
    · exact lv_astore hC.1 hC.2.1 hd hL.has hn rfl (fun ls' hl' => hk ls' (hL.drop hl' hx))
    · exact lv_astore_n hC.1 hC.2.1 hd rfl hL.has hn rfl (fun ls' hl' => hk ls' (hL.drop hl' hx))
/-- System.arraycopy of ints, from place 0 to place 0 -/
theorem r_copy {k1 k2 N1 N2 : Nat} {i1 i2 x : Int} (hk1 : ax_kd k1 = (8, N1)) (hk2 : ax_kd k2 = (8, N2)) (hw : Cond.methodLink (mOwn I) index arraycopyName ∈ ax_GT ∧ Cond.native arraycopyName ∈ ax_GT ∧ Cond.static arraycopyName ∈ ax_GT ∧ Cond.initialized "java/lang/System" ∈ ax_GT) (hne : k1 ≠ k2) (x0 : 0 ≤ x) (x1 : x ≤ N1) (x2 : x ≤ N2) (a0 : 0 ≤ i1) (a1 : i1 < h.2.2 k1) (b0 : 0 ≤ i2) (b1 : i2 < h.2.2 k2)
    (hrm : 1 ≤ (mRm I).frames ∧ (st.map ax_cat).sum + 18 ≤ (mRm I).locals) (hd : decode (mC I) pc = .ok (.invokestatic index, 3)) (k : Run I (pc + 3) xs st (cp1 h.1 k1 i1 k2 i2 x, h.2.1, h.2.2) cs sl Q X) : Run I pc xs (aI x :: aI 0 :: aR k2 i2 :: aI 0 :: aR k1 i1 :: st) h cs sl Q X := by
  intro l p e s m args below meth c D cA z0 n0 ad0 ad H locs ls B
  obtain ⟨hC, hR, hS, hE, hL, hxs, hst⟩ := B
  have hts := hC.2.2.2.2.1
  obtain ⟨ha1, -⟩ := hR.1 k1 i1 (by rw [hk1]; show 8 < 14; omega) a0 a1
  obtain ⟨ha2, hz⟩ := hR.1 k2 i2 (by rw [hk2]; show 8 < 14; omega) b0 b1
  rw [ax_ei hk1 (Or.inl rfl)] at ha1
  rw [ax_ei hk2 (Or.inl rfl)] at ha2
  have kx : ax_32 x := hst _ List.mem_cons_self
  have hcx : (Int32.ofInt x).toNatClampNeg = x.toNat := ax_cl kx
  have hc0 : (Int32.ofInt 0).toNatClampNeg = 0 := rfl
  have hxi : (Int32.ofInt x).toInt = x := ax_to kx
  have h00 : (Int32.ofInt 0).toInt = 0 := rfl
  have hn0 : ¬ Int32.ofInt x < 0 := by
    intro q
    rw [Int32.lt_iff_toInt_lt, hxi] at q
    have : (0 : Int32).toInt = 0 := rfl
    omega
  have t0 : ∀ (n : Nat) (z : Nat → Value), s.isArrayOf (arrV (cA 8) n z) .int := fun n z => (hC.2.2.2.2.2.1.2 0 _ (ax_tyAt cA (t := 8) (by omega) (by omega))).1 n z
  have hnf : nativeFrameWords "java/lang/System" "arraycopy" 5 = 7 := by decide +kernel
  intro T hT Xs
  obtain ⟨-, k0, hk0, cm0, hkk0⟩ := t0 N1 (fun j => .int (Int32.ofInt (h.1 k1 i1 j)))
  obtain ⟨-, k9, hk9, cm9, hkk9⟩ := t0 N2 (fun j => .int (Int32.ofInt (h.1 k2 i2 j)))
  have hc0' : H[ad k1 i1]? = some (vp_cell (cA 8) (N1, .inl (fun j => Int32.ofInt (h.1 k1 i1 j)))) := ha1
  have hc1' : H[ad k2 i2]? = some (vp_cell (cA 8) (N2, .inl (fun j => Int32.ofInt (h.1 k2 i2 j)))) := ha2
  obtain ⟨vm', X', step⟩ := Xs.arraycopy hC.1 hC.2.2.2.1 (hts _ hw.1) (hts _ hw.2.1) (hts _ hw.2.2.1) (hts _ hw.2.2.2) (src := ad k1 i1) (dst := ad k2 i2) (cs := arrV (cA 8) N1 (fun j => .int (Int32.ofInt (h.1 k1 i1 j)))) (cd := arrV (cA 8) N2 (fun j => .int (Int32.ofInt (h.1 k2 i2 j)))) (srcPos := Int32.ofInt 0) (destPos := Int32.ofInt 0) (n := Int32.ofInt x) (by rw [hT]; exact hc0') (by rw [hT]; exact hc1')
    (fun _ h => by cases h) (fun _ h => by cases h) (fun h => by cases h) (fun h => by cases h) hk0 hk9 hkk0 hkk9 (by rfl) (by decide) (by decide) hn0
    (by rw [h00, hxi]; show ¬ _ > ((arrV (cA 8) N1 (fun j => .int (Int32.ofInt (h.1 k1 i1 j)))).slots.size : Int); rw [arrV_size]; omega)
    (by rw [h00, hxi]; show ¬ _ > ((arrV (cA 8) N2 (fun j => .int (Int32.ofInt (h.1 k2 i2 j)))).slots.size : Int); rw [arrV_size]; omega)
    (fun vm₁ _ i hi => by
      have e : (arrV (cA 8) N1 (fun j => .int (Int32.ofInt (h.1 k1 i1 j)))).slots.getD ((Int32.ofInt 0).toNatClampNeg + i) .null = .int (Int32.ofInt (h.1 k1 i1 (((Int32.ofInt 0).toNatClampNeg + i : Nat) : Int))) := by
        show (arrV (cA 8) N1 (fun j => .int (Int32.ofInt (h.1 k1 i1 j)))).slots.getD _ _ = _
        rw [Array.getD_eq_getD_getElem?, arrV_read _ _ (by rw [hc0]; rw [hcx] at hi; omega)]
        rfl
      refine ⟨?_, ?_⟩
      · rw [e]; rfl
      · rw [e]; exact trivial)
    (g := F0 m pc ls ((aI x :: aI 0 :: aR k2 i2 :: aI 0 :: aR k1 i1 :: st).map (ax_v ad))) rfl (by rw [hC.2.2.1]; exact hL.1) (rest := st.map (ax_v ad)) rfl (by rw [hC.2.1]; exact hd) hrm.1 (by rw [ax_cats, hnf]; have := hrm.2; show 2 * 0 + _ + (7 + 11) ≤ _; omega)
  have e1 := va_copied (fun z => Value.int z) (cA 8) (cA 8) (sp := (Int32.ofInt 0).toNatClampNeg) (dp := (Int32.ofInt 0).toNatClampNeg) (n := (Int32.ofInt x).toNatClampNeg) (n0 := N1) (n1 := N2) (fun j => Int32.ofInt (h.1 k1 i1 j)) (fun j => Int32.ofInt (h.1 k2 i2 j)) (by rw [hc0, hcx]; omega)
  have e2 : va_cpy (fun j : Nat => Int32.ofInt (h.1 k1 i1 j)) (fun j : Nat => Int32.ofInt (h.1 k2 i2 j)) (Int32.ofInt 0).toNatClampNeg (Int32.ofInt 0).toNatClampNeg (Int32.ofInt x).toNatClampNeg = fun j : Nat => Int32.ofInt (cp1 h.1 k1 i1 k2 i2 x k2 i2 j) := by
    funext j
    rw [hc0, hcx]
    unfold va_cpy cp1
    simp only [Nat.zero_le, true_and, Nat.zero_add, Nat.sub_zero]
    by_cases hj : j < x.toNat
    · rw [if_pos hj, if_pos ⟨by omega, by omega⟩]
    · rw [if_neg hj, if_neg (fun z => hj (by omega))]
  rw [e2] at e1
  have e3 : copied (arrV (cA 8) N1 (fun j => .int (Int32.ofInt (h.1 k1 i1 j)))) (arrV (cA 8) N2 (fun j => .int (Int32.ofInt (h.1 k2 i2 j)))) (Int32.ofInt 0) (Int32.ofInt 0) (Int32.ofInt x) = vp_cell (cA 8) (N2, .inl (fun j => Int32.ofInt (cp1 h.1 k1 i1 k2 i2 x k2 i2 j))) := e1
  rw [e3] at X' step
  generalize hnew : vp_cell (cA 8) (N2, .inl (fun j => Int32.ofInt (cp1 h.1 k1 i1 k2 i2 x k2 i2 j))) = cnew at X' step
  have hl : ad k2 i2 < H.size := (Array.getElem?_eq_some_iff.mp hc1').1
  have hheap : ((T.setVm vm').setCell (ad k2 i2) cnew).heap = H.setIfInBounds (ad k2 i2) cnew := by rw [← hT]; rfl
  have oq : ∀ q : Nat, q ≠ ad k2 i2 → (H.setIfInBounds (ad k2 i2) cnew)[q]? = H[q]? := fun q hq => by simp [Array.getElem?_setIfInBounds, Ne.symm hq]
  obtain ⟨t, b1, b2⟩ := k l p e s m args below meth c D cA z0 n0 ad0 ad _ _ ls ⟨hC, hR.put (H' := H.setIfInBounds (ad k2 i2) cnew) (h' := (cp1 h.1 k1 i1 k2 i2 x, h.2.1, h.2.2)) (by rw [hk2]; show 8 < 14; omega) b0 b1 (by
        rw [ax_ei hk2 (Or.inl rfl)]
        show (H.setIfInBounds _ _)[_]? = some (vp_cell _ _)
        rw [hnew]
        simp [Array.getElem?_setIfInBounds, hl]) oq (fun k' i' e9 => by
        have f9 : ∀ j' : Int, cp1 h.1 k1 i1 k2 i2 x k' i' j' = h.1 k' i' j' := fun j' => if_neg (fun q => e9 ⟨q.1, q.2.1⟩)
        unfold ax_e ax_f
        simp only [f9]) rfl (fun k' i' j' => by
        show ax_32 (if _ then _ else _)
        split
        · exact hR.2.2.1 _ _ _
        · exact hR.2.2.1 _ _ _) hR.2.2.2.1, ⟨by simp; exact hS.1, fun q g1 g2 => by
      rw [oq q (fun e => g2 (by rw [e]; exact hz))]
      exact hS.2.1 q g1 g2, fun q hq => by
      rcases List.mem_append.mp hq with h9 | h9
      · exact hS.2.2 q h9
      · obtain ⟨z, -, hz9⟩ := List.mem_map.mp h9
        rw [← hz9]
        exact hz⟩, hE, hL, hxs, fun v hv => hst v (List.mem_cons_of_mem _ (List.mem_cons_of_mem _ (List.mem_cons_of_mem _ (List.mem_cons_of_mem _ (List.mem_cons_of_mem _ hv)))))⟩ _ hheap X'
  exact ⟨t, step t b1, b2⟩
end AXE
end
section
/-! ===== new int[N][K]: the outer array of kind ko, its rows of kind kr ===== -/
def ax_mn (ko kr : Nat) (N : Int) (h : Hp) : Hp :=
  (fun k' i' j => if (k' = ko ∧ i' = h.2.2 ko) ∨ (k' = kr ∧ h.2.2 kr ≤ i' ∧ i' < h.2.2 kr + N) then 0 else h.1 k' i' j,
   fun k' i' j => if k' = ko ∧ i' = h.2.2 ko then (if 0 ≤ j ∧ j < N then some (kr, h.2.2 kr + j) else none) else if k' = kr ∧ h.2.2 kr ≤ i' ∧ i' < h.2.2 kr + N then none else h.2.1 k' i' j,
   fun k' => if k' = ko then h.2.2 ko + 1 else if k' = kr then h.2.2 kr + N else h.2.2 k')
theorem ax_vro (c : ClassId) (N h0 : Nat) : ∀ i : Nat, Jvm.Free.Multi.outerC c N h0 i = arrV c N (fun j => va_rf (if j < i then some (h0 + 1 + j) else none))
  | 0 => by
    show ({ cls := c, slots := Array.replicate N .null, vm := .none } : Cell) = _
    rw [arrV_new]
    refine congrArg (arrV c N) (funext fun j => ?_)
    simp [va_rf]
  | i + 1 => by
    show (Jvm.Free.Multi.outerC c N h0 i).setSlot i (.ref (h0 + 1 + i)) = _
    rw [ax_vro c N h0 i, arrV_store]
    refine congrArg (arrV c N) (funext fun j => ?_)
    by_cases e : j = i
    · subst e
      simp [updV, va_rf]
    · by_cases h : j < i
      · simp [updV, e, h, Nat.lt_succ_of_lt h]
      · simp [updV, e, h, show ¬ j < i + 1 by omega]
theorem ax_R.mna {D : va_G} {cA : Nat → ClassId} {z0 : Nat} {ad : AD} {h : Hp} {H H' : Heap} {ko kr N K : Nat} (hR : ax_R D cA z0 ad h H) (hz : z0 ≤ H.size) (ho : ax_kd ko = (13, N)) (hr : ax_kd kr = (8, K)) (o : ∀ q : Nat, q < H.size → H'[q]? = H[q]?)
    (hc : H'[H.size]? = some (arrV (cA 13) N (fun j => va_rf (if j < N then some (H.size + 1 + j) else none)))) (hw : ∀ j : Nat, j < N → H'[H.size + 1 + j]? = some (arrV (cA 8) K (fun _ => .int 0))) :
    ax_R D cA z0 (fun k' i' => if k' = ko ∧ i' = h.2.2 ko then H.size else if k' = kr ∧ h.2.2 kr ≤ i' ∧ i' < h.2.2 kr + N then H.size + 1 + (i' - h.2.2 kr).toNat else ad k' i') (ax_mn ko kr N h) H' ∧
    ax_ext h.2.2 ad (ax_mn ko kr N h).2.2 (fun k' i' => if k' = ko ∧ i' = h.2.2 ko then H.size else if k' = kr ∧ h.2.2 kr ≤ i' ∧ i' < h.2.2 kr + N then H.size + 1 + (i' - h.2.2 kr).toNat else ad k' i') := by
  obtain ⟨a1, a2, a3, a4, a5⟩ := hR
  have hok : ko ≠ kr := fun e => by rw [e, hr] at ho; cases ho
  have x1 : ∀ (k' : Nat) (i' : Int), i' < h.2.2 k' → ¬ (k' = ko ∧ i' = h.2.2 ko) := fun k' i' q e => by
    obtain ⟨rfl, rfl⟩ := e
    omega
  have x2 : ∀ (k' : Nat) (i' : Int), i' < h.2.2 k' → ¬ (k' = kr ∧ h.2.2 kr ≤ i' ∧ i' < h.2.2 kr + N) := fun k' i' q e => by
    obtain ⟨rfl, e1, e2⟩ := e
    omega
  have hnk : ∀ k' : Nat, (ax_mn ko kr N h).2.2 k' = if k' = ko then h.2.2 ko + 1 else if k' = kr then h.2.2 kr + N else h.2.2 k' := fun k' => rfl
  have x3 : ∀ (k' : Nat) (i' : Int), i' < (ax_mn ko kr N h).2.2 k' → (k' = ko ∧ i' = h.2.2 ko) ∨ (k' = kr ∧ h.2.2 kr ≤ i' ∧ i' < h.2.2 kr + N) ∨ i' < h.2.2 k' := fun k' i' q => by
    rw [hnk] at q
    split at q
    next w => subst w; omega
    next =>
      split at q
      next w => subst w; omega
      next => exact Or.inr (Or.inr q)
  have hmono : ∀ k' : Nat, h.2.2 k' ≤ (ax_mn ko kr N h).2.2 k' := fun k' => by
    rw [hnk]
    split
    next w => subst w; omega
    next =>
      split
      next w => subst w; omega
      next => omega
  have hext : ax_ext h.2.2 ad (ax_mn ko kr N h).2.2 (fun k' i' => if k' = ko ∧ i' = h.2.2 ko then H.size else if k' = kr ∧ h.2.2 kr ≤ i' ∧ i' < h.2.2 kr + N then H.size + 1 + (i' - h.2.2 kr).toNat else ad k' i') := fun k' i' p1 p2 => ⟨by have := hmono k'; omega, by simp only [if_neg (x1 k' i' p2), if_neg (x2 k' i' p2)]⟩
  have lt : ∀ (k' : Nat) (i' : Int), (ax_kd k').1 < 14 → 0 ≤ i' → i' < h.2.2 k' → ad k' i' < H.size := fun k' i' q1 q2 q3 => (a1 k' i' q1 q2 q3).1.lt
  refine ⟨⟨fun k' i' hk' h0' h1' => ?_, fun k1 i1 k2 i2 g1 g2 p1 p2 p3 p4 e => ?_, fun k' i' j' => ?_, fun k' i' j' p1 p2 => ?_, fun k' => ?_⟩, hext⟩
  · rcases x3 k' i' h1' with e | e | e
    · obtain ⟨rfl, rfl⟩ := e
      simp only [and_self, if_true]
      refine ⟨?_, hz⟩
      rw [ax_er ho (by omega)]
      show H'[_]? = some (vp_cell _ _)
      rw [hc, vp_cell_q]
      congr 2
      funext j
      simp only [ax_mn, and_self, if_true]
      by_cases hj : j < N
      · rw [if_pos hj, if_pos ⟨by omega, by omega⟩]
        simp only [Option.map_some, Ne.symm hok, false_and, if_false, true_and]
        rw [if_pos ⟨by omega, by omega⟩]
        congr 2
        omega
      · rw [if_neg hj, if_neg (fun z => hj (by omega))]
        rfl
    · have e0 : ¬ (k' = ko ∧ i' = h.2.2 ko) := fun q => hok (q.1.symm.trans e.1)
      simp only [if_neg e0, if_pos e]
      refine ⟨?_, by omega⟩
      obtain ⟨rfl, e1, e2⟩ := e
      rw [ax_ei hr (Or.inl rfl)]
      show H'[_]? = some (vp_cell _ _)
      rw [hw _ (by omega), vp_cell_i]
      congr 2
      funext j
      simp only [ax_mn]
      rw [if_pos (Or.inr ⟨trivial, e1, e2⟩)]
      rfl
    · simp only [if_neg (x1 k' i' e), if_neg (x2 k' i' e)]
      obtain ⟨b1, b2⟩ := a1 k' i' hk' h0' e
      refine ⟨?_, b2⟩
      rw [ax_e_ext (h := h) (ad := ad) (fun j => by simp only [ax_mn, if_neg (x1 k' i' e), if_neg (x2 k' i' e)]) (fun j => by simp only [ax_mn]; rw [if_neg (fun z => z.elim (x1 k' i' e) (x2 k' i' e))]) (fun j => a4 k' i' j h0' e) (fun k9 i9 q1 q2 => (hext k9 i9 q1 q2).2)]
      exact b1.kept (o _ b1.lt)
  · have key : ∀ (k' : Nat) (i' : Int), (ax_kd k').1 < 14 → 0 ≤ i' → i' < (ax_mn ko kr N h).2.2 k' →
        (k' = ko ∧ i' = h.2.2 ko ∧ (if k' = ko ∧ i' = h.2.2 ko then H.size else if k' = kr ∧ h.2.2 kr ≤ i' ∧ i' < h.2.2 kr + N then H.size + 1 + (i' - h.2.2 kr).toNat else ad k' i') = H.size) ∨
        (k' = kr ∧ h.2.2 kr ≤ i' ∧ (if k' = ko ∧ i' = h.2.2 ko then H.size else if k' = kr ∧ h.2.2 kr ≤ i' ∧ i' < h.2.2 kr + N then H.size + 1 + (i' - h.2.2 kr).toNat else ad k' i') = H.size + 1 + (i' - h.2.2 kr).toNat) ∨
        (i' < h.2.2 k' ∧ (if k' = ko ∧ i' = h.2.2 ko then H.size else if k' = kr ∧ h.2.2 kr ≤ i' ∧ i' < h.2.2 kr + N then H.size + 1 + (i' - h.2.2 kr).toNat else ad k' i') = ad k' i' ∧ ad k' i' < H.size) := by
      intro k' i' q1 q2 q3
      rcases x3 k' i' q3 with w | w | w
      · exact Or.inl ⟨w.1, w.2, if_pos w⟩
      · have e0 : ¬ (k' = ko ∧ i' = h.2.2 ko) := fun q => hok (q.1.symm.trans w.1)
        exact Or.inr (Or.inl ⟨w.1, w.2.1, by rw [if_neg e0, if_pos w]⟩)
      · exact Or.inr (Or.inr ⟨w, by rw [if_neg (x1 k' i' w), if_neg (x2 k' i' w)], lt k' i' q1 q2 w⟩)
    have e : (if k1 = ko ∧ i1 = h.2.2 ko then H.size else if k1 = kr ∧ h.2.2 kr ≤ i1 ∧ i1 < h.2.2 kr + N then H.size + 1 + (i1 - h.2.2 kr).toNat else ad k1 i1) = (if k2 = ko ∧ i2 = h.2.2 ko then H.size else if k2 = kr ∧ h.2.2 kr ≤ i2 ∧ i2 < h.2.2 kr + N then H.size + 1 + (i2 - h.2.2 kr).toNat else ad k2 i2) := e
    rcases key k1 i1 g1 p1 p2 with ⟨w1, w2, w3⟩ | ⟨w1, w2, w3⟩ | ⟨w1, w2, w3⟩ <;> rcases key k2 i2 g2 p3 p4 with ⟨v1, v2, v3⟩ | ⟨v1, v2, v3⟩ | ⟨v1, v2, v3⟩
    · exact ⟨w1.trans v1.symm, w2.trans v2.symm⟩
    · rw [w3, v3] at e; omega
    · rw [w3, v2] at e; omega
    · rw [w3, v3] at e; omega
    · rw [w3, v3] at e; exact ⟨w1.trans v1.symm, by omega⟩
    · rw [w3, v2] at e; omega
    · rw [w2, v3] at e; omega
    · rw [w2, v3] at e; omega
    · rw [w2, v2] at e; exact a2 k1 i1 k2 i2 g1 g2 p1 w1 p3 v1 e
  · show ax_32 (if _ then _ else _)
    split
    · exact ⟨by omega, by omega⟩
    · exact a3 _ _ _
  · show ax_rk _ (if _ then _ else _)
    split
    · split
      · intro q hq
        cases hq
        refine ⟨?_, ?_⟩
        · have := a5 kr
          show 0 ≤ h.2.2 kr + j'
          omega
        · rw [hnk]
          simp only [Ne.symm hok, if_false, if_true]
          omega
      · exact fun _ q => by cases q
    next e0 =>
      split
      · exact fun _ q => by cases q
      next e1 =>
        have hi : i' < h.2.2 k' := by
          rcases x3 k' i' p2 with w | w | w
          · exact absurd w e0
          · exact absurd w e1
          · exact w
        intro q hq
        obtain ⟨b1, b2⟩ := a4 k' i' j' p1 hi q hq
        exact ⟨b1, by have := hmono q.1; omega⟩
  · have := hmono k'
    have := a5 k'
    omega
theorem r_mna {I : MI} {pc index : Nat} {xs : List (Option Av)} {st : List Av} {h : Hp} {cs sl : Nat} {Q : Option Av → Hp → Prop} {X : String → Hp → Prop} {ko kr N K : Nat} {x y : Int} (ho : ax_kd ko = (13, N)) (hr : ax_kd kr = (8, K)) (hx : x = N) (hy : y = K) (hN : N ≤ 1000 ∧ K ≤ 1000) (hw : Cond.classLink (mOwn I) index ("[" ++ (FieldType.array .int).toString) ∈ ax_GT ∧ Cond.arrayClass .int ∈ ax_GT) (hd : decode (mC I) pc = .ok (.multianewarray index 2, 4)) (hc : cs + (1 + N) ≤ (mRm I).cells) (hs : sl + (N + N * K) ≤ (mRm I).slots)
    (k : Run I (pc + 4) xs (aR ko (h.2.2 ko) :: st) (ax_mn ko kr N h) (cs + 1 + N) (sl + N + N * K) Q X) : Run I pc xs (aI y :: aI x :: st) h cs sl Q X := by
  intro l p e s m args below meth c D cA z0 n0 ad0 ad H locs ls B
  obtain ⟨hC, hR, hS, hE, hL, hxs, hst⟩ := id B
  subst hx
  subst hy
  have hts := hC.2.2.2.2.1
  have hK := hC.2.2.2.2.2.1
  have kN : ax_32 (N : Int) := hst _ (List.mem_cons_of_mem _ List.mem_cons_self)
  have kK : ax_32 (K : Int) := hst _ List.mem_cons_self
  have cN : (Int32.ofInt (N : Int)).toNatClampNeg = N := by rw [ax_cl kN]; omega
  have cK : (Int32.ofInt (K : Int)).toNatClampNeg = K := by rw [ax_cl kK]; omega
  have pos : ∀ z : Nat, ax_32 (z : Int) → ¬ Int32.ofInt (z : Int) < 0 := by
    intro z kz q
    rw [Int32.lt_iff_toInt_lt, ax_to kz] at q
    have : (0 : Int32).toInt = 0 := rfl
    omega
  have hov : (Cond.arrayOver (.array .int)).before args s = true := hC.2.2.2.2.2.2.1.2.2.2.1
  intro T hT Xs
  obtain ⟨vm₁, cA', comp, -, fA, fC, -, -, X', step⟩ := Xs.multianewarray2F hC.1 hC.2.2.2.1 (hts _ hw.1) hov (hts _ hw.2) (g := F0 m pc ls ((aI (K : Int) :: aI (N : Int) :: st).map (ax_v ad))) rfl (by rw [hC.2.1]; exact hd) rfl (pos N kN) (pos K kK) (by rw [cN]; omega) (by rw [cK]; show K * 4 ≤ _; omega) (by rw [cK]; omega) rfl rfl (by rw [cN]; exact hc) (by rw [cN, cK]; exact hs)
  rw [cN, cK] at X' step
  have hcA : cA' = cA 13 := Option.some.inj (fA.symm.trans ((hK.2 5 _ (ax_tyAt cA (t := 13) (by omega) (by omega))).2))
  have hcI : comp = cA 8 := Option.some.inj (fC.symm.trans ((hK.2 0 _ (ax_tyAt cA (t := 8) (by omega) (by omega))).2))
  subst hcA
  subst hcI
  generalize hF : Jvm.Free.Multi.fill (T.setVm vm₁) (cA 13) (cA 8) N K (defaultValue .int) N = F at X' step
  have hTh : (T.setVm vm₁).heap = H := hT
  obtain ⟨f1, f2, -, -⟩ := Jvm.Free.Multi.fill_facts (T.setVm vm₁) (cA 13) (cA 8) N K (defaultValue .int) N
  rw [hF, hTh] at f1 f2
  have hold : ∀ x : Nat, x < H.size → F.heap[x]? = H[x]? := fun x hx => by
    have := Jvm.Free.Multi.fill_old (T.setVm vm₁) (cA 13) (cA 8) N K (defaultValue .int) (a := x) (by rw [hTh]; exact hx) N
    rw [hF, hTh] at this
    exact this
  have hrow : ∀ j : Nat, j < N → F.heap[H.size + 1 + j]? = some (arrV (cA 8) K (fun _ => .int 0)) := fun j hj => by
    have := Jvm.Free.Multi.fill_inner (T.setVm vm₁) (cA 13) (cA 8) N K (defaultValue .int) N j hj
    rw [hF, hTh] at this
    rw [this, ← arrV_new]
    rfl
  rw [ax_vro] at f2
  have hz : z0 ≤ H.size := Nat.le_trans hC.2.2.2.2.2.2.2.2.2.2.2.2.2.1 hS.1
  obtain ⟨hR', hx'⟩ := hR.mna hz ho hr hold f2 hrow
  have B' : ax_B I l p s m args meth c D cA z0 n0 ad0 ad h H locs ls xs st := ⟨hC, hR, hS, hE, hL, hxs, fun v hv => hst v (List.mem_cons_of_mem _ (List.mem_cons_of_mem _ hv))⟩
  obtain ⟨hB', hm⟩ := B'.go hR' (hS.grow hold (by omega)) hx'
  have hk2 := k l p e s m args below meth c D cA z0 n0 ad0 _ F.heap locs ls ⟨hB'.1, hB'.2.1, hB'.2.2.1, hB'.2.2.2.1, hB'.2.2.2.2.1, hB'.2.2.2.2.2.1, List.forall_mem_cons.mpr ⟨?_, hB'.2.2.2.2.2.2⟩⟩
  · have hh : ax_v (fun k' i' => if k' = ko ∧ i' = h.2.2 ko then H.size else if k' = kr ∧ h.2.2 kr ≤ i' ∧ i' < h.2.2 kr + N then H.size + 1 + (i' - h.2.2 kr).toNat else ad k' i') (aR ko (h.2.2 ko)) = .ref H.size := by simp [ax_v]
    rw [List.map_cons, hm, hh] at hk2
    obtain ⟨t, b1, b2⟩ := hk2 F rfl X'
    refine ⟨t, step t ?_, b2⟩
    rw [hT]
    exact b1
  · intro q hq
    cases hq
    refine ⟨hR.2.2.2.2 ko, ?_⟩
    show _ < (ax_mn ko kr N h).2.2 ko
    simp only [ax_mn, if_true]
    omega
end
