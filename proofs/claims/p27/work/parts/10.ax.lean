/-! ===== an abstract machine over whole numbers: its heap is told by kinds and numbers; the real machine follows it =====
A reference is a kind and a number: (4, b) is the life of box b. Numbers are Int. Run I pc xs st h .. Q X: from the instruction at pc of the method I,
with locals xs, stack st, heap h, the method comes to its end, and Q holds of its answer and the heap, or X of the exception and the heap. -/
abbrev Rf : Type := Option (Nat × Int)
abbrev Av : Type := Int ⊕ (Rf ⊕ Int)
abbrev Hp : Type := (Nat → Int → Int → Int) × (Nat → Int → Int → Rf) × (Nat → Int)
abbrev AD : Type := Nat → Int → Nat
abbrev MI : Type := String × MethodName × ByteArray × Nat × Option FieldType × List (Nat × Nat × Nat × Nat) × Room × Option (Nat × (Nat → Int32))
abbrev aI (z : Int) : Av := .inl z
abbrev aR (k : Nat) (i : Int) : Av := .inr (.inl (some (k, i)))
abbrev aN : Av := .inr (.inl none)
abbrev aQ (r : Rf) : Av := .inr (.inl r)
abbrev aL (z : Int) : Av := .inr (.inr z)
abbrev mOwn (I : MI) : String := I.1
abbrev mY (I : MI) : MethodName := I.2.1
abbrev mC (I : MI) : ByteArray := I.2.2.1
abbrev mL (I : MI) : Nat := I.2.2.2.1
abbrev mRet (I : MI) : Option FieldType := I.2.2.2.2.1
abbrev mHH (I : MI) : List (Nat × Nat × Nat × Nat) := I.2.2.2.2.2.1
abbrev mRm (I : MI) : Room := I.2.2.2.2.2.2.1
/-- the script that the method reads: its length, its ints -/
abbrev mSc (I : MI) : Option (Nat × (Nat → Int32)) := I.2.2.2.2.2.2.2
def ax_64 (z : Int) : Prop := -9223372036854775808 ≤ z ∧ z ≤ 9223372036854775807
def ax_32 (z : Int) : Prop := -2147483648 ≤ z ∧ z ≤ 2147483647
/-- what the kinds are: the class (its place in vwCl, below 8) or the kind of array (8 int[], 9 boolean[], 10 long[], 11 Booking[], 12 Box[], 13 int[][]), and how many fields or places -/
def ax_kd : Nat → Nat × Nat
  | 0 => (0, 5) | 1 => (1, 10) | 2 => (2, 3) | 3 => (3, 3) | 4 => (4, 6) | 5 => (5, 11) | 6 => (6, 11) 
  | 8 => (13, 6) | 9 => (8, 6) | 10 => (13, 3) | 11 => (8, 6) | 12 => (8, 5) | 13 => (12, 40) | 14 => (11, 20)
  | 15 => (8, 5) | 16 => (8, 40) | 17 => (8, 40) | 18 => (9, 40) | 19 => (8, 5) | 20 => (8, 5) | 21 => (8, 6)
  | 22 => (8, 30) | 23 => (8, 30) | 24 => (8, 30) | 25 => (8, 30) | 26 => (8, 10) | 27 => (8, 10) | 28 => (8, 12) | 29 => (8, 12)
  | 60 => (8, 20) | 61 => (8, 20)
  | _ => (99, 0)
def ax_isRef : FieldType → Bool
  | .object _ => true
  | .array _ => true
  | _ => false
def ax_ft (t j : Nat) : FieldType := match t with
  | 0 => tyX0 j | 1 => tyX1 j | 2 => tyX2 j | 3 => tyX3 j | 4 => tyX4 j | 5 => tyX5 j | _ => tyX6 j
def ax_rf (t j : Nat) : Bool := ax_isRef (ax_ft t j)
def ax_v (ad : AD) : Av → Value
  | .inl z => .int (Int32.ofInt z)
  | .inr (.inl none) => .null
  | .inr (.inl (some p)) => .ref (ad p.1 p.2)
  | .inr (.inr z) => .long (Int64.ofInt z)
def ax_rk (n : Nat → Int) (r : Rf) : Prop := ∀ p, r = some p → 0 ≤ p.2 ∧ p.2 < n p.1
/-- a value that may stand: in range, a reference to what has been made -/
def ax_k (n : Nat → Int) : Av → Prop
  | .inl z => ax_32 z
  | .inr (.inl r) => ax_rk n r
  | .inr (.inr z) => ax_64 z
def ax_f (ad : AD) (h : Hp) (k : Nat) (i : Int) (b : Bool) (j : Nat) : Value := if b = true then va_rf ((h.2.1 k i j).map fun p => ad p.1 p.2) else .int (Int32.ofInt (h.1 k i j))
def ax_e (cA : Nat → ClassId) (ad : AD) (h : Hp) (k : Nat) (i : Int) : va_E :=
  if (ax_kd k).1 < 8 then .inr ((ax_kd k).1, (List.range (ax_kd k).2).map (fun j => ax_f ad h k i (ax_rf (ax_kd k).1 j) j))
  else if (ax_kd k).1 < 10 then .inl (cA (ax_kd k).1, (ax_kd k).2, .inl (fun j => Int32.ofInt (h.1 k i j)))
  else if (ax_kd k).1 = 10 then .inl (cA (ax_kd k).1, (ax_kd k).2, .inr (.inl (fun j => Int64.ofInt (h.1 k i j))))
  else .inl (cA (ax_kd k).1, (ax_kd k).2, .inr (.inr (.inr (.inr (fun j => (h.2.1 k i j).map fun p => ad p.1 p.2)))))
/-- the heap H holds the abstract heap h, at the addresses ad, all of them from z0 on -/
def ax_R (D : va_G) (cA : Nat → ClassId) (z0 : Nat) (ad : AD) (h : Hp) (H : Heap) : Prop :=
  (∀ (k : Nat) (i : Int), (ax_kd k).1 < 14 → 0 ≤ i → i < h.2.2 k → va_at D vwCl (ad k i, ax_e cA ad h k i) H ∧ z0 ≤ ad k i) ∧
  (∀ (k : Nat) (i : Int) (k' : Nat) (i' : Int), (ax_kd k).1 < 14 → (ax_kd k').1 < 14 → 0 ≤ i → i < h.2.2 k → 0 ≤ i' → i' < h.2.2 k' → ad k i = ad k' i' → k = k' ∧ i = i') ∧
  (∀ (k : Nat) (i j : Int), ax_32 (h.1 k i j)) ∧ (∀ (k : Nat) (i j : Int), 0 ≤ i → i < h.2.2 k → ax_rk h.2.2 (h.2.1 k i j)) ∧ ∀ k : Nat, 0 ≤ h.2.2 k
def ax_ty (cA : Nat → ClassId) : List (ClassId × FieldType) := [(cA 8, .int), (cA 9, .boolean), (cA 10, .int), (cA 11, .object "BoxPool$Booking"), (cA 12, .object "BoxPool$Box"), (cA 13, .array .int)]
/-- the locals: none where nothing is said -/
def ax_cat : Av → Nat
  | .inr (.inr _) => 2
  | _ => 1
/-- a local of which something is said: one place wide, or a long that stands in both its places -/
def ax_vl (xs : List (Option Av)) (i : Nat) (v : Av) : Prop := ax_cat v = 1 ∨ xs[i + 1]? = some (some v)
def ax_L (ad : AD) (nL : Nat) (ls : Array Slot) (xs : List (Option Av)) : Prop := ls.size = nL ∧ lv_wf ls ∧ (∀ (i : Nat) (v : Av), xs[i]? = some (some v) → ax_vl xs i v → ls[i]? = some (.val (ax_v ad v)))
theorem ax_catv (ad : AD) (v : Av) : (ax_v ad v).category = ax_cat v := by
  rcases v with z | r | z
  · rfl
  · cases r <;> rfl
  · rfl
theorem ax_cat12 (v : Av) : ax_cat v = 1 ∨ ax_cat v = 2 := by
  rcases v with z | r | z
  · exact Or.inl rfl
  · exact Or.inl rfl
  · exact Or.inr rfl
def ax_ext (n0 : Nat → Int) (ad0 : AD) (n : Nat → Int) (ad : AD) : Prop := ∀ (k : Nat) (i : Int), 0 ≤ i → i < n0 k → i < n k ∧ ad k i = ad0 k i
/-- words of the tables that aren't good ones -/
def ax_NW : List Cond := [.castable "java/lang/IndexOutOfBoundsException" "java/lang/IndexOutOfBoundsException", .castable "java/lang/IllegalArgumentException" "java/lang/IllegalArgumentException", .castable "java/lang/IllegalStateException" "java/lang/IllegalStateException",
  .declares ⟨"java/lang/RuntimeException", "<init>", "()V"⟩, .declares ⟨"java/lang/RuntimeException", "<init>", "(Ljava/lang/String;)V"⟩, .declares ⟨"java/lang/Exception", "<init>", "()V"⟩, .declares ⟨"java/lang/Exception", "<init>", "(Ljava/lang/String;)V"⟩, .declares ⟨"java/lang/Throwable", "<init>", "()V"⟩, .declares ⟨"java/lang/Throwable", "<init>", "(Ljava/lang/String;)V"⟩,
  .methodLinkNest RX6 35 yX5_init RX6, .methodLinkNest RX1 11 yX4_init RX6, .methodLinkNest RX1 20 yX3_init RX6, .methodLinkNest RX1 27 yX2_init RX6, .methodLinkNest RX5 47 yX6_isPort RX6]
def ax_strs : List (Nat × String) := [(253, "no such port"), (262, "an argument is out of range"), (258, "no such lessor"), (79, "there are 40 boxes"), (266, "no such box"), (264, "the box is GONE"), (109, "the box has 30 reports"), (139, "the box is the line's own"), (148, "the box has had 10 leases"), (156, "the box is not on lease today"), (158, "the box is at no port"), (163, "the box is given to a booking"), (169, "the quota is used up"), (260, "no such code"), (190, "the box has 12 damages"), (197, "the box has no damage that counts"), (199, "mending costs more than the limit"), (204, "there are 20 bookings"), (268, "no such booking"), (219, "the booking is over"), (287, "more than 5 units lack"), (232, "no such unit"), (245, "what is out of range"), (251, "the day would be above 9999")]
def ax_AOA (U : State) : Prop := (Cond.arrayOver (.array .int)).before #[] U = true
def ax_N (s : State) : Prop := (∀ w ∈ ax_NW, va_Nw w s) ∧ va_AO "BoxPool$Box" s ∧ va_AO "BoxPool$Booking" s ∧ ax_AOA s ∧ (∀ q ∈ ax_strs, ∃ a, vk_R RX6 q.1 q.2 a s) ∧
  (∀ q ∈ [("java/lang/IndexOutOfBoundsException", "java/lang/IllegalArgumentException"), ("java/lang/IndexOutOfBoundsException", "java/lang/IllegalStateException"), ("java/lang/IllegalArgumentException", "java/lang/IndexOutOfBoundsException"), ("java/lang/IllegalArgumentException", "java/lang/IllegalStateException"), ("java/lang/IllegalStateException", "java/lang/IndexOutOfBoundsException"), ("java/lang/IllegalStateException", "java/lang/IllegalArgumentException")], va_Nc q.1 q.2 s)
theorem ax_AOA.moved {u U : State} (hvm : u.vm.Alike U.vm) (h : ax_AOA u) : ax_AOA U := by
  obtain ⟨comp, c, k, h1, h2, h3, h4, h5⟩ := arrayOverA_spec h
  obtain ⟨k', hk', he⟩ := hvm.2.2 _ _ h3
  have e1 := va_idx_bare U.vm comp
  have e2 := va_idx_bare u.vm comp
  have e3 : U.vm.bare = u.vm.bare := by first | exact hvm.bare_eq | exact hvm.bare_eq.symm
  rw [e3] at e1
  have hi := (e1.symm.trans e2).trans h2
  have hkind : k'.kind = .array comp (.array .int) := by rw [he]; exact h4
  have f1 : U.vm.findClass (FieldType.array .int).toString = some comp := by rw [hvm.findClass]; exact h1
  have f2 : U.vm.findClass ("[" ++ (FieldType.array .int).toString) = some c := by rw [hvm.findClass]; exact h5
  unfold ax_AOA Cond.before Cond.holds
  simp only [Cond.value]
  rw [f1, Option.bind_some]
  refine (congrArg (fun o : Option Nat => (o.bind (fun c => (U.vm.classes[c]?).map fun (k : Class) => match k.kind with | .array _ ty => decide (ty = FieldType.array .int) && decide (U.vm.findClass ("[" ++ (FieldType.array .int).toString) = some c) | _ => false) == some true)) hi).trans ?_
  simp [hk', hkind, f2]
theorem ax_N.warm {s U : State} (hW : s.WarmedH U.vm) (h : ax_N s) : ax_N U := by
  obtain ⟨h1, h2, h3, h4, h5, h6⟩ := h
  refine ⟨fun w hw => ?_, va_AO.moved hW.alike h2, va_AO.moved hW.alike h3, ax_AOA.moved hW.alike h4, fun q hq => ?_, fun q hq => va_Nc.moved hW.alike (h6 q hq)⟩
  · have h9 := h1 w hw
    simp only [ax_NW, List.mem_cons, List.not_mem_nil, or_false] at hw
    rcases hw with rfl | rfl | rfl | rfl | rfl | rfl | rfl | rfl | rfl | rfl | rfl | rfl | rfl | rfl
    all_goals first | exact va_Nw.warmC hW h9 | exact va_Nw.warmD hW h9 | exact va_Nw.warmM hW h9
  · obtain ⟨a, ha⟩ := h5 q hq
    exact ⟨a, vk_R.warm hW ha⟩
/-- what a method's body has of the machine: its code, its class, the tables' words, the classes, the two statics that a throw reads -/
def ax_Cx (I : MI) (l : Launch) (p : Program) (s : State) (m : MethodId) (args : Array Value) (meth : Method) (c : Code) (D : va_G) (cA : Nat → ClassId) (z0 : Nat) (n0 : Nat → Int) (ad0 : AD) : Prop :=
  p.tables.exec = Jvm.exec ∧ c.code = mC I ∧ c.maxLocals = mL I ∧ s.vm.findClass (mOwn I) = some m.cls ∧ (∀ w ∈ ax_GT, w.before args s = true) ∧ va_K D vwCl (ax_ty cA) s ∧ ax_N s ∧
  vx_Zq Bundle.tN "UNASSIGNED_STACK" Bundle.steD (fun q => z0 ≤ q) s s.heap ∧ vx_Zq Bundle.tN "SUPPRESSED_SENTINEL" Bundle.listD (fun q => z0 ≤ q) s s.heap ∧
  meth.locks = false ∧ meth.name = (mY I).name ∧ l.stackTraces = false ∧ c.exceptionTable.toList = tableOf (mHH I) ∧ z0 ≤ s.heap.size ∧ meth.sig.returnType = mRet I ∧ ∀ q, mSc I = some q → 0 < n0 99 ∧ va_X (ad0 99 0) q.1 q.2 s s.heap ∧ ad0 99 0 < z0
def ax_Q (D : va_G) (cA : Nat → ClassId) (z0 : Nat) (n0 : Nat → Int) (ad0 : AD) (Q : Option Av → Hp → Prop) : Array Value → State → Outcome → State → Prop := fun _ st o t =>
  ∃ (r : Option Av) (h : Hp) (ad : AD), o = .returned (r.map (ax_v ad)) ∧ Q r h ∧ ax_R D cA z0 ad h t.heap ∧ ax_ext n0 ad0 h.2.2 ad ∧ (∀ v, r = some v → ax_k h.2.2 v) ∧ va_F (fun q => z0 ≤ q) st t
def ax_X (D : va_G) (cA : Nat → ClassId) (z0 : Nat) (n0 : Nat → Int) (ad0 : AD) (X : String → Hp → Prop) : String → State → State → Prop := fun E st t =>
  ∃ (h : Hp) (ad : AD), X E h ∧ ax_R D cA z0 ad h t.heap ∧ ax_ext n0 ad0 h.2.2 ad ∧ va_F (fun q => z0 ≤ q) st t
/-- all that is known at an instruction -/
def ax_B (I : MI) (l : Launch) (p : Program) (s : State) (m : MethodId) (args : Array Value) (meth : Method) (c : Code) (D : va_G) (cA : Nat → ClassId) (z0 : Nat) (n0 : Nat → Int) (ad0 ad : AD) (h : Hp) (H : Heap) (locs : List Loc) (ls : Array Slot) (xs : List (Option Av)) (st : List Av) : Prop :=
  ax_Cx I l p s m args meth c D cA z0 n0 ad0 ∧ ax_R D cA z0 ad h H ∧ va_S (fun q => z0 ≤ q) s.heap H locs ∧ ax_ext n0 ad0 h.2.2 ad ∧ ax_L ad (mL I) ls xs ∧ (∀ v, some v ∈ xs → ax_k h.2.2 v) ∧ ∀ v ∈ st, ax_k h.2.2 v
def Run (I : MI) (pc : Nat) (xs : List (Option Av)) (st : List Av) (h : Hp) (cs sl : Nat) (Q : Option Av → Hp → Prop) (X : String → Hp → Prop) : Prop :=
  ∀ (l : Launch) (p : Program) (e : Env) (s : State) (m : MethodId) (args : Array Value) (below : List Frame) (meth : Method) (c : Code) (D : va_G) (cA : Nat → ClassId) (z0 : Nat) (n0 : Nat → Int) (ad0 ad : AD) (H : Heap) (locs : List Loc) (ls : Array Slot),
    ax_B I l p s m args meth c D cA z0 n0 ad0 ad h H locs ls xs st →
    W p l e (mRm I) s m args below meth c H locs cs sl (vx_MQ below (ax_Q D cA z0 n0 ad0 Q) (ax_X D cA z0 n0 ad0 X) args s (mRm I).cells (mRm I).slots (fun q => z0 ≤ q)) (F0 m pc ls (st.map (ax_v ad)))
/-- a contract: called with av in h, the method comes back with Q, or throws with X -/
def ax_ws (I : MI) : List Cond := (match mHH I with | [] => .code (mY I) (mC I) (mL I) (mRet I) | hh => .codeWith (mY I) (mC I) (mL I) (mRet I) hh) :: ax_GT
def ax_P (D : va_G) (cA : Nat → ClassId) (z0 : Nat) (ad : AD) (av : List Av) (h : Hp) : Array Value → State → Prop := va_Pc (av.map (ax_v ad)) (fun U => ax_R D cA z0 ad h U.heap ∧ va_K D vwCl (ax_ty cA) U ∧ ax_N U ∧
  vx_Zq Bundle.tN "UNASSIGNED_STACK" Bundle.steD (fun q => z0 ≤ q) U U.heap ∧ vx_Zq Bundle.tN "SUPPRESSED_SENTINEL" Bundle.listD (fun q => z0 ≤ q) U U.heap ∧ z0 ≤ U.heap.size ∧ ∀ v ∈ av, ax_k h.2.2 v)
def Con (I : MI) (av : List Av) (h : Hp) (Q : Option Av → Hp → Prop) (X : String → Hp → Prop) : Prop :=
  ∀ (l : Launch) (D : va_G) (cA : Nat → ClassId) (z0 : Nat) (ad : AD), l.stackTraces = false →
    vx_Met l (mY I) (ax_ws I) (mRm I) (ax_P D cA z0 ad av h) (ax_Q D cA z0 h.2.2 ad Q) (ax_X D cA z0 h.2.2 ad X) (mRm I).cells (mRm I).slots (fun q => z0 ≤ q)
