/-! the judgement -/
/-- a method: its bytes, its class, how many locals, what it returns, its room, whether it is a constructor -/
abbrev MX : Type := ByteArray × String × Nat × Option FieldType × Room × Bool
def KWb : List Int32 := [121, 97, 114, 100, 32, 119, 97, 121, 32, 104, 111, 117, 114, 32, 115, 108, 105, 112, 32, 99, 97, 108, 108, 32, 104, 97, 114, 109, 32, 100, 101, 112, 111, 116, 32, 115, 116, 111, 114, 101, 32, 103, 114, 97, 115, 115, 32, 114, 111, 97, 100, 32, 98, 114, 105, 100, 103, 101, 32, 114, 111, 111, 102, 32, 115, 108, 111, 112, 101, 32, 116, 114, 97, 102, 102, 105, 99, 32, 119, 97, 114, 109, 32, 116, 97, 107, 101, 115, 32, 102, 97, 108, 108, 32, 116, 101, 109, 112, 32, 119, 101, 116, 32, 119, 101, 105, 103, 104, 116, 32]
def nws : List (String × Nat × MethodName × String) := [("WhiteRoads$Land", 42, ⟨"WhiteRoads$Told", "<init>", "()V"⟩, "WhiteRoads"), ("WhiteRoads$Day", 36, ⟨"WhiteRoads$Ground", "<init>", "()V"⟩, "WhiteRoads"), ("WhiteRoads", 45, ⟨"WhiteRoads$Outlook", "<init>", "()V"⟩, "WhiteRoads"), ("WhiteRoads$Outlook", 11, ⟨"WhiteRoads$Ground", "<init>", "()V"⟩, "WhiteRoads"), ("WhiteRoads", 52, ⟨"WhiteRoads$Planner", "<init>", "()V"⟩, "WhiteRoads"), ("WhiteRoads", 59, ⟨"WhiteRoads$Gritter", "<init>", "()V"⟩, "WhiteRoads"), ("WhiteRoads", 66, ⟨"WhiteRoads$Car", "<init>", "()V"⟩, "WhiteRoads"), ("WhiteRoads", 73, ⟨"WhiteRoads$Glasses", "<init>", "()V"⟩, "WhiteRoads"), ("WhiteRoads$Glasses", 27, ⟨"WhiteRoads$Ground", "<init>", "()V"⟩, "WhiteRoads")]
def Nst (U : State) : Prop := ∀ q ∈ nws, va_Nw (.methodLinkNest q.1 q.2.1 q.2.2.1 q.2.2.2) U
/-- the class of int[][] -/
def ao2 (U : State) : Prop := ∃ (comp c : ClassId) (k : Class), U.vm.findClass (FieldType.array .int).toString = some comp ∧ U.vm.classes[c]? = some k ∧ k.kind = .array comp (.array .int) ∧ U.vm.findClass ("[" ++ (FieldType.array .int).toString) = some c
theorem ao2.moved {u U : State} (hvm : u.vm.Alike U.vm) (h : ao2 u) : ao2 U := by
  obtain ⟨comp, c, k, h1, h2, h3, h4⟩ := h
  obtain ⟨k', hk', he⟩ := hvm.2.2 _ _ h2
  exact ⟨comp, c, k', by rw [hvm.findClass]; exact h1, hk', by rw [he]; exact h3, by rw [hvm.findClass]; exact h4⟩
/-- what lies outside and is only read: two tables, a text, a thrower's maker -/
def Xt (N0 : Nat) (xa : Nat → Nat) (U : State) (H : Heap) : Prop :=
  (va_Z RX4 "TOP_PARTS" "[I" (.ref (xa 0)) (fun q => N0 ≤ q) U H ∧ va_T .int (xa 0) 4 (fun j => .int (TPf j)) (fun q => N0 ≤ q) U H) ∧
  (va_Z RX4 "WATER_HELD" "[I" (.ref (xa 1)) (fun q => N0 ≤ q) U H ∧ va_T .int (xa 1) 4 (fun j => .int (WHf j)) (fun q => N0 ≤ q) U H) ∧
  va_Z "java/lang/String" "COMPACT_STRINGS" "Z" (.int 1) (fun q => N0 ≤ q) U H ∧
  vk_S 1 [110] [KWb] (fun _ => xa 2) (fun _ => xa 3) (fun q => N0 ≤ q) U H ∧
  (vk_R RX6 42 "yard way hour slip call harm depot store grass road bridge roof slope traffic warm takes fall temp wet weight " (xa 2) U ∧ (va_Z "jdk/internal/util/Preconditions" "SIOOBE_FORMATTER" "Ljava/util/function/BiFunction;" .null (fun q => N0 ≤ q) U H ∨ va_Z "jdk/internal/util/Preconditions" "SIOOBE_FORMATTER" "Ljava/util/function/BiFunction;" (.ref (xa 4)) (fun q => N0 ≤ q) U H) ∧ va_AO RX10 U ∧ va_AO RX4 U ∧ ao2 U)
theorem Xt.warm {N0 : Nat} {xa : Nat → Nat} {s U : State} {H : Heap} (hW : s.WarmedH U.vm) (h : Xt N0 xa s H) : Xt N0 xa U H :=
  ⟨⟨h.1.1.moved hW.alike, h.1.2.moved hW.alike⟩, ⟨h.2.1.1.moved hW.alike, h.2.1.2.moved hW.alike⟩, h.2.2.1.moved hW.alike, h.2.2.2.1.moved hW.alike, h.2.2.2.2.1.warm hW, h.2.2.2.2.2.1.imp (fun w => w.moved hW.alike) (fun w => w.moved hW.alike), h.2.2.2.2.2.2.1.moved hW.alike, h.2.2.2.2.2.2.2.1.moved hW.alike, h.2.2.2.2.2.2.2.2.moved hW.alike⟩
theorem Xt.same {N0 : Nat} {xa : Nat → Nat} {s U : State} {H : Heap} (hv : U.vm = s.vm) (h : Xt N0 xa s H) : Xt N0 xa U H := by
  have ha : s.vm.Alike U.vm := by rw [hv]; exact Vm.Alike.refl _
  exact ⟨⟨h.1.1.moved ha, h.1.2.moved ha⟩, ⟨h.2.1.1.moved ha, h.2.1.2.moved ha⟩, h.2.2.1.moved ha, h.2.2.2.1.moved ha, h.2.2.2.2.1.same hv, h.2.2.2.2.2.1.imp (fun w => w.moved ha) (fun w => w.moved ha), h.2.2.2.2.2.2.1.moved ha, h.2.2.2.2.2.2.2.1.moved ha, h.2.2.2.2.2.2.2.2.moved ha⟩
theorem Xt.kept {N0 : Nat} {xa : Nat → Nat} {s : State} {H H1 : Heap} (hq : ∀ a : Nat, a < H.size → ¬ N0 ≤ a → H1[a]? = H[a]?) (h : Xt N0 xa s H) : Xt N0 xa s H1 :=
  ⟨⟨h.1.1.kept hq, h.1.2.kept hq⟩, ⟨h.2.1.1.kept hq, h.2.1.2.kept hq⟩, h.2.2.1.kept hq, h.2.2.2.1.kept hq, h.2.2.2.2.1, h.2.2.2.2.2.1.imp (fun w => w.kept hq) (fun w => w.kept hq), h.2.2.2.2.2.2⟩
def PreU (D : va_G) (ca : Nat → ClassId) (N0 : Nat) (xa : Nat → Nat) (n : Nat) (h : AH) (U : State) : Prop :=
  N0 + n = U.heap.size ∧ n ≤ 1000000 ∧ va_P D vwCl (wd N0 xa ca n h) U.heap ∧ va_K D vwCl (tysL ca) U ∧ Nst U ∧ Xt N0 xa U U.heap
def QB (D : va_G) (ca : Nat → ClassId) (N0 : Nat) (xa : Nat → Nat) (post : Option Value → Nat → AH → Prop) : Array Value → State → Outcome → State → Prop := fun _ st oc t =>
  (∃ (r : Option Value) (n : Nat) (h : AH), oc = .returned (r.map (cv (ad N0 xa))) ∧ post r n h ∧ N0 + n = t.heap.size ∧ n ≤ 1000000 ∧ va_P D vwCl (wd N0 xa ca n h) t.heap) ∧ va_F (fun q => N0 ≤ q) st t
/-- a contract: y, called with args over the heap h of n cells, ends, and post holds of its answer and the heap then -/
def Ct (y : MethodName) (M : MX) (args : List Value) (n : Nat) (h : AH) (post : Option Value → Nat → AH → Prop) : Prop :=
  ∀ (l : Launch) (D : va_G) (ca : Nat → ClassId) (N0 : Nat) (xa : Nat → Nat), Met l y (.code y M.1 M.2.2.1 M.2.2.2.1 :: TBg) M.2.2.2.2.1 (va_Pc (args.map (cv (ad N0 xa))) (PreU D ca N0 xa n h)) (QB D ca N0 xa post) M.2.2.2.2.1.cells M.2.2.2.2.1.slots (fun q => N0 ≤ q)
def Cx (p : Program) (s : State) (m : MethodId) (args : Array Value) (meth : Method) (c : Code) (M : MX) (D : va_G) (ca : Nat → ClassId) (N0 : Nat) (xa : Nat → Nat) : Prop :=
  p.tables.exec = Jvm.exec ∧ c.code = M.1 ∧ c.maxLocals = M.2.2.1 ∧ meth.sig.returnType = M.2.2.2.1 ∧ meth.locks = false ∧ s.vm.findClass M.2.1 = some m.cls ∧ (∀ w ∈ TBg, w.before args s = true) ∧ va_K D vwCl (tysL ca) s ∧ Nst s ∧ N0 ≤ s.heap.size ∧ Xt N0 xa s s.heap ∧ (M.2.2.2.2.2 = true → meth.name = "<init>")
def Wp (M : MX) (pc : Nat) (L : List (Option Value)) (S : List Value) (n : Nat) (h : AH) (k z : Nat) (post : Option Value → Nat → AH → Prop) : Prop :=
  ∀ (p : Program) (l : Launch) (e : Env) (s : State) (m : MethodId) (args : Array Value) (below : List Frame) (meth : Method) (c : Code) (D : va_G) (ca : Nat → ClassId) (N0 : Nat) (xa : Nat → Nat), Cx p s m args meth c M D ca N0 xa →
  ∀ (H : Heap) (locs : List Loc) (ls : Array Slot), n ≤ 1000000 → N0 + n = H.size → va_P D vwCl (wd N0 xa ca n h) H → va_S (fun q => N0 ≤ q) s.heap H locs → lv_has ls M.2.2.1 (asc (ad N0 xa) L) →
  W p l e M.2.2.2.2.1 s m args below meth c H locs k z (MQ below (QB D ca N0 xa post) args s M.2.2.2.2.1.cells M.2.2.2.2.1.slots (fun q => N0 ≤ q)) (F0 m pc ls (S.map (cv (ad N0 xa))))
section WPS
variable {M : MX} {pc n k z : Nat} {L : List (Option Value)} {S : List Value} {h : AH} {post : Option Value → Nat → AH → Prop}
theorem x_iadd {x y : Int32} (hd : decode M.1 pc = .ok (.iadd, 1)) {q : Nat} (hq : pc + 1 = q) (kk : Wp M q L (.int (x + y) :: S) n h k z post) : Wp M pc L (.int y :: .int x :: S) n h k z post := by
  subst hq
  intro p l e s m args below meth c D ca N0 xa C H locs ls hn hz hP hS hl
  exact lv_iadd C.1 C.2.1 hd (kk p l e s m args below meth c D ca N0 xa C H locs ls hn hz hP hS hl)
theorem x_isub {x y : Int32} (hd : decode M.1 pc = .ok (.isub, 1)) {q : Nat} (hq : pc + 1 = q) (kk : Wp M q L (.int (x - y) :: S) n h k z post) : Wp M pc L (.int y :: .int x :: S) n h k z post := by
  subst hq
  intro p l e s m args below meth c D ca N0 xa C H locs ls hn hz hP hS hl
  exact lv_isub C.1 C.2.1 hd (kk p l e s m args below meth c D ca N0 xa C H locs ls hn hz hP hS hl)
theorem x_imul {x y : Int32} (hd : decode M.1 pc = .ok (.imul, 1)) {q : Nat} (hq : pc + 1 = q) (kk : Wp M q L (.int (x * y) :: S) n h k z post) : Wp M pc L (.int y :: .int x :: S) n h k z post := by
  subst hq
  intro p l e s m args below meth c D ca N0 xa C H locs ls hn hz hP hS hl
  exact lv_imul C.1 C.2.1 hd (kk p l e s m args below meth c D ca N0 xa C H locs ls hn hz hP hS hl)
theorem x_iand {x y : Int32} (hd : decode M.1 pc = .ok (.iand, 1)) {q : Nat} (hq : pc + 1 = q) (kk : Wp M q L (.int (x &&& y) :: S) n h k z post) : Wp M pc L (.int y :: .int x :: S) n h k z post := by
  subst hq
  intro p l e s m args below meth c D ca N0 xa C H locs ls hn hz hP hS hl
  exact lv_iand C.1 C.2.1 hd (kk p l e s m args below meth c D ca N0 xa C H locs ls hn hz hP hS hl)
theorem x_ior {x y : Int32} (hd : decode M.1 pc = .ok (.ior, 1)) {q : Nat} (hq : pc + 1 = q) (kk : Wp M q L (.int (x ||| y) :: S) n h k z post) : Wp M pc L (.int y :: .int x :: S) n h k z post := by
  subst hq
  intro p l e s m args below meth c D ca N0 xa C H locs ls hn hz hP hS hl
  exact lv_ior C.1 C.2.1 hd (kk p l e s m args below meth c D ca N0 xa C H locs ls hn hz hP hS hl)
theorem x_ixor {x y : Int32} (hd : decode M.1 pc = .ok (.ixor, 1)) {q : Nat} (hq : pc + 1 = q) (kk : Wp M q L (.int (x ^^^ y) :: S) n h k z post) : Wp M pc L (.int y :: .int x :: S) n h k z post := by
  subst hq
  intro p l e s m args below meth c D ca N0 xa C H locs ls hn hz hP hS hl
  exact lv_ixor C.1 C.2.1 hd (kk p l e s m args below meth c D ca N0 xa C H locs ls hn hz hP hS hl)
theorem x_ishl {x y : Int32} (hd : decode M.1 pc = .ok (.ishl, 1)) {q : Nat} (hq : pc + 1 = q) (kk : Wp M q L (.int (x <<< (y &&& 31)) :: S) n h k z post) : Wp M pc L (.int y :: .int x :: S) n h k z post := by
  subst hq
  intro p l e s m args below meth c D ca N0 xa C H locs ls hn hz hP hS hl
  exact lv_ishl C.1 C.2.1 hd (kk p l e s m args below meth c D ca N0 xa C H locs ls hn hz hP hS hl)
theorem x_ishr {x y : Int32} (hd : decode M.1 pc = .ok (.ishr, 1)) {q : Nat} (hq : pc + 1 = q) (kk : Wp M q L (.int (x >>> (y &&& 31)) :: S) n h k z post) : Wp M pc L (.int y :: .int x :: S) n h k z post := by
  subst hq
  intro p l e s m args below meth c D ca N0 xa C H locs ls hn hz hP hS hl
  exact lv_ishr C.1 C.2.1 hd (kk p l e s m args below meth c D ca N0 xa C H locs ls hn hz hP hS hl)
theorem x_ineg {x : Int32} (hd : decode M.1 pc = .ok (.ineg, 1)) {q : Nat} (hq : pc + 1 = q) (kk : Wp M q L (.int (-x) :: S) n h k z post) : Wp M pc L (.int x :: S) n h k z post := by
  subst hq
  intro p l e s m args below meth c D ca N0 xa C H locs ls hn hz hP hS hl
  exact lv_ineg C.1 C.2.1 hd (kk p l e s m args below meth c D ca N0 xa C H locs ls hn hz hP hS hl)
theorem x_lor {x y : Int64} (hd : decode M.1 pc = .ok (.lor, 1)) {q : Nat} (hq : pc + 1 = q) (kk : Wp M q L (.long (x ||| y) :: S) n h k z post) : Wp M pc L (.long y :: .long x :: S) n h k z post := by
  subst hq
  intro p l e s m args below meth c D ca N0 xa C H locs ls hn hz hP hS hl
  exact lv_lor C.1 C.2.1 hd (kk p l e s m args below meth c D ca N0 xa C H locs ls hn hz hP hS hl)
theorem x_lcmp {x y : Int64} (hd : decode M.1 pc = .ok (.lcmp, 1)) {q : Nat} (hq : pc + 1 = q) (kk : Wp M q L (.int (lg_cmp x y) :: S) n h k z post) : Wp M pc L (.long y :: .long x :: S) n h k z post := by
  subst hq
  intro p l e s m args below meth c D ca N0 xa C H locs ls hn hz hP hS hl
  exact W.lcmp C.1 C.2.1 hd (kk p l e s m args below meth c D ca N0 xa C H locs ls hn hz hP hS hl)
theorem x_iushr {x y : Int32} (hd : decode M.1 pc = .ok (.iushr, 1)) {q : Nat} (hq : pc + 1 = q) (kk : Wp M q L (.int ((x.toUInt32 >>> (y.toUInt32 &&& Int32.toUInt32 31)).toInt32) :: S) n h k z post) : Wp M pc L (.int y :: .int x :: S) n h k z post := by
  subst hq
  intro p l e s m args below meth c D ca N0 xa C H locs ls hn hz hP hS hl
  exact lv_iushr C.1 C.2.1 hd rfl (kk p l e s m args below meth c D ca N0 xa C H locs ls hn hz hP hS hl)
theorem x_lshl {x : Int64} {y : Int32} (hd : decode M.1 pc = .ok (.lshl, 1)) {q : Nat} (hq : pc + 1 = q) (kk : Wp M q L (.long (x <<< (y.toInt64 &&& 63)) :: S) n h k z post) : Wp M pc L (.int y :: .long x :: S) n h k z post := by
  subst hq
  intro p l e s m args below meth c D ca N0 xa C H locs ls hn hz hP hS hl
  exact lv_lshl C.1 C.2.1 hd rfl (kk p l e s m args below meth c D ca N0 xa C H locs ls hn hz hP hS hl)
theorem x_i2l {x : Int32} (hd : decode M.1 pc = .ok (.i2l, 1)) {q : Nat} (hq : pc + 1 = q) (kk : Wp M q L (.long x.toInt64 :: S) n h k z post) : Wp M pc L (.int x :: S) n h k z post := by
  subst hq
  intro p l e s m args below meth c D ca N0 xa C H locs ls hn hz hP hS hl
  exact lv_i2l C.1 C.2.1 hd rfl (kk p l e s m args below meth c D ca N0 xa C H locs ls hn hz hP hS hl)
theorem x_i2b {x : Int32} (hd : decode M.1 pc = .ok (.i2b, 1)) {q : Nat} (hq : pc + 1 = q) (kk : Wp M q L (.int x.toInt8.toInt32 :: S) n h k z post) : Wp M pc L (.int x :: S) n h k z post := by
  subst hq
  intro p l e s m args below meth c D ca N0 xa C H locs ls hn hz hP hS hl
  exact lv_i2b C.1 C.2.1 hd rfl (kk p l e s m args below meth c D ca N0 xa C H locs ls hn hz hP hS hl)
theorem x_i2c {x : Int32} (hd : decode M.1 pc = .ok (.i2c, 1)) {q : Nat} (hq : pc + 1 = q) (kk : Wp M q L (.int (x.toUInt32 % 65536).toInt32 :: S) n h k z post) : Wp M pc L (.int x :: S) n h k z post := by
  subst hq
  intro p l e s m args below meth c D ca N0 xa C H locs ls hn hz hP hS hl
  exact lv_i2c C.1 C.2.1 hd rfl (kk p l e s m args below meth c D ca N0 xa C H locs ls hn hz hP hS hl)
theorem x_idiv {x y : Int32} (hd : decode M.1 pc = .ok (.idiv, 1)) {q : Nat} (hq : pc + 1 = q) (h0 : ¬ y = 0) (kk : Wp M q L (.int (x / y) :: S) n h k z post) : Wp M pc L (.int y :: .int x :: S) n h k z post := by
  subst hq
  intro p l e s m args below meth c D ca N0 xa C H locs ls hn hz hP hS hl
  exact lv_idiv C.1 C.2.1 hd h0 (kk p l e s m args below meth c D ca N0 xa C H locs ls hn hz hP hS hl)
theorem x_irem {x y : Int32} (hd : decode M.1 pc = .ok (.irem, 1)) {q : Nat} (hq : pc + 1 = q) (h0 : ¬ y = 0) (kk : Wp M q L (.int (x - x / y * y) :: S) n h k z post) : Wp M pc L (.int y :: .int x :: S) n h k z post := by
  subst hq
  intro p l e s m args below meth c D ca N0 xa C H locs ls hn hz hP hS hl
  exact lv_irem C.1 C.2.1 hd h0 (kk p l e s m args below meth c D ca N0 xa C H locs ls hn hz hP hS hl)
theorem x_iconst {c0 : Int} (v : Int32) (hd : decode M.1 pc = .ok (.iconst c0, 1)) {q : Nat} (hq : pc + 1 = q) (hv : Int32.ofInt c0 = v) (kk : Wp M q L (.int v :: S) n h k z post) : Wp M pc L S n h k z post := by
  subst hq
  intro p l e s m args below meth c D ca N0 xa C H locs ls hn hz hP hS hl
  exact lv_iconst C.1 C.2.1 hd hv (kk p l e s m args below meth c D ca N0 xa C H locs ls hn hz hP hS hl)
theorem x_bipush {c0 : Int} (v : Int32) (hd : decode M.1 pc = .ok (.bipush c0, 2)) {q : Nat} (hq : pc + 2 = q) (hv : (Int8.ofInt c0).toInt32 = v) (kk : Wp M q L (.int v :: S) n h k z post) : Wp M pc L S n h k z post := by
  subst hq
  intro p l e s m args below meth c D ca N0 xa C H locs ls hn hz hP hS hl
  exact lv_bipush C.1 C.2.1 hd hv (kk p l e s m args below meth c D ca N0 xa C H locs ls hn hz hP hS hl)
theorem x_sipush {c0 : Int} (v : Int32) (hd : decode M.1 pc = .ok (.sipush c0, 3)) {q : Nat} (hq : pc + 3 = q) (hv : (Int16.ofInt c0).toInt32 = v) (kk : Wp M q L (.int v :: S) n h k z post) : Wp M pc L S n h k z post := by
  subst hq
  intro p l e s m args below meth c D ca N0 xa C H locs ls hn hz hP hS hl
  exact lv_sipush C.1 C.2.1 hd hv (kk p l e s m args below meth c D ca N0 xa C H locs ls hn hz hP hS hl)
theorem x_lconst {c0 : Fin 2} (v : Int64) (hd : decode M.1 pc = .ok (.lconst c0, 1)) {q : Nat} (hq : pc + 1 = q) (hv : Int64.ofNat (c0 : Nat) = v) (kk : Wp M q L (.long v :: S) n h k z post) : Wp M pc L S n h k z post := by
  subst hq
  intro p l e s m args below meth c D ca N0 xa C H locs ls hn hz hP hS hl
  exact lv_lconst C.1 C.2.1 hd hv (kk p l e s m args below meth c D ca N0 xa C H locs ls hn hz hP hS hl)
theorem x_ldc {i0 : Nat} {v : Int32} (hd : decode M.1 pc = .ok (.ldc i0, 2)) {q : Nat} (hq : pc + 2 = q) (hw : Cond.constant M.2.1 i0 v ∈ TBg) (kk : Wp M q L (.int v :: S) n h k z post) : Wp M pc L S n h k z post := by
  subst hq
  intro p l e s m args below meth c D ca N0 xa C H locs ls hn hz hP hS hl
  exact lv_ldc C.1 C.2.1 C.2.2.2.2.2.1 (C.2.2.2.2.2.2.1 _ hw) hd (kk p l e s m args below meth c D ca N0 xa C H locs ls hn hz hP hS hl)
theorem x_ldcw {i0 : Nat} {v : Int32} (hd : decode M.1 pc = .ok (.ldc_w i0, 3)) {q : Nat} (hq : pc + 3 = q) (hw : Cond.constant M.2.1 i0 v ∈ TBg) (kk : Wp M q L (.int v :: S) n h k z post) : Wp M pc L S n h k z post := by
  subst hq
  intro p l e s m args below meth c D ca N0 xa C H locs ls hn hz hP hS hl
  exact lv_ldcw C.1 C.2.1 C.2.2.2.2.2.1 (C.2.2.2.2.2.2.1 _ hw) hd (kk p l e s m args below meth c D ca N0 xa C H locs ls hn hz hP hS hl)
theorem x_ldc2 {i0 : Nat} {v : Int64} (hd : decode M.1 pc = .ok (.ldc2_w i0, 3)) {q : Nat} (hq : pc + 3 = q) (hw : Cond.constantLong M.2.1 i0 v ∈ TBg) (kk : Wp M q L (.long v :: S) n h k z post) : Wp M pc L S n h k z post := by
  subst hq
  intro p l e s m args below meth c D ca N0 xa C H locs ls hn hz hP hS hl
  exact lv_ldc2 C.1 C.2.1 C.2.2.2.2.2.1 (C.2.2.2.2.2.2.1 _ hw) hd (kk p l e s m args below meth c D ca N0 xa C H locs ls hn hz hP hS hl)
theorem x_iload_n {i0 : Fin 4} {x : Int32} (hd : decode M.1 pc = .ok (.iload_n i0, 1)) {q : Nat} (hq : pc + 1 = q) (hv : L[(i0 : Nat)]? = some (some (.int x))) (kk : Wp M q L (.int x :: S) n h k z post) : Wp M pc L S n h k z post := by
  subst hq
  intro p l e s m args below meth c D ca N0 xa C H locs ls hn hz hP hS hl
  exact lv_iload_n C.1 C.2.1 hd rfl (asc_at hl hv) (kk p l e s m args below meth c D ca N0 xa C H locs ls hn hz hP hS hl)
theorem x_iload {i0 : Nat} {x : Int32} (hd : decode M.1 pc = .ok (.iload i0, 2)) {q : Nat} (hq : pc + 2 = q) (hv : L[i0]? = some (some (.int x))) (kk : Wp M q L (.int x :: S) n h k z post) : Wp M pc L S n h k z post := by
  subst hq
  intro p l e s m args below meth c D ca N0 xa C H locs ls hn hz hP hS hl
  exact lv_iload C.1 C.2.1 hd (asc_at hl hv) (kk p l e s m args below meth c D ca N0 xa C H locs ls hn hz hP hS hl)
theorem x_lload_n {i0 : Fin 4} {x : Int64} (hd : decode M.1 pc = .ok (.lload_n i0, 1)) {q : Nat} (hq : pc + 1 = q) (hv : L[(i0 : Nat)]? = some (some (.long x))) (kk : Wp M q L (.long x :: S) n h k z post) : Wp M pc L S n h k z post := by
  subst hq
  intro p l e s m args below meth c D ca N0 xa C H locs ls hn hz hP hS hl
  exact lv_lload_n C.1 C.2.1 hd rfl (asc_at hl hv) (kk p l e s m args below meth c D ca N0 xa C H locs ls hn hz hP hS hl)
theorem x_lload {i0 : Nat} {x : Int64} (hd : decode M.1 pc = .ok (.lload i0, 2)) {q : Nat} (hq : pc + 2 = q) (hv : L[i0]? = some (some (.long x))) (kk : Wp M q L (.long x :: S) n h k z post) : Wp M pc L S n h k z post := by
  subst hq
  intro p l e s m args below meth c D ca N0 xa C H locs ls hn hz hP hS hl
  exact lv_lload C.1 C.2.1 hd (asc_at hl hv) (kk p l e s m args below meth c D ca N0 xa C H locs ls hn hz hP hS hl)
theorem x_aload_n {i0 : Fin 4} {x : Nat} (hd : decode M.1 pc = .ok (.aload_n i0, 1)) {q : Nat} (hq : pc + 1 = q) (hv : L[(i0 : Nat)]? = some (some (.ref x))) (kk : Wp M q L (.ref x :: S) n h k z post) : Wp M pc L S n h k z post := by
  subst hq
  intro p l e s m args below meth c D ca N0 xa C H locs ls hn hz hP hS hl
  exact lv_aload_n C.1 C.2.1 hd rfl (asc_at hl hv) (kk p l e s m args below meth c D ca N0 xa C H locs ls hn hz hP hS hl)
theorem x_aload {i0 : Nat} {x : Nat} (hd : decode M.1 pc = .ok (.aload i0, 2)) {q : Nat} (hq : pc + 2 = q) (hv : L[i0]? = some (some (.ref x))) (kk : Wp M q L (.ref x :: S) n h k z post) : Wp M pc L S n h k z post := by
  subst hq
  intro p l e s m args below meth c D ca N0 xa C H locs ls hn hz hP hS hl
  exact lv_aload C.1 C.2.1 hd (asc_at hl hv) (kk p l e s m args below meth c D ca N0 xa C H locs ls hn hz hP hS hl)
theorem x_istore_n {i0 : Fin 4} {x : Int32} {L2 : List (Option Value)} (hd : decode M.1 pc = .ok (.istore_n i0, 1)) {q : Nat} (hq : pc + 1 = q) (hi : (i0 : Nat) < M.2.2.1) (hg : nlg L (i0 : Nat) = true) (hL : L.set (i0 : Nat) (some (.int x)) = L2) (kk : Wp M q L2 S n h k z post) : Wp M pc L (.int x :: S) n h k z post := by
  subst hq
  subst hL
  intro p l e s m args below meth c D ca N0 xa C H locs ls hn hz hP hS hl
  exact lv_istore_n C.1 C.2.1 hd rfl hl hi rfl (fun ls2 hl2 => kk p l e s m args below meth c D ca N0 xa C H locs ls2 hn hz hP hS (asc_store1 (v := .int x) hg hl2))
theorem x_istore {i0 : Nat} {x : Int32} {L2 : List (Option Value)} (hd : decode M.1 pc = .ok (.istore i0, 2)) {q : Nat} (hq : pc + 2 = q) (hi : i0 < M.2.2.1) (hg : nlg L i0 = true) (hL : L.set i0 (some (.int x)) = L2) (kk : Wp M q L2 S n h k z post) : Wp M pc L (.int x :: S) n h k z post := by
  subst hq
  subst hL
  intro p l e s m args below meth c D ca N0 xa C H locs ls hn hz hP hS hl
  exact lv_istore C.1 C.2.1 hd hl hi rfl (fun ls2 hl2 => kk p l e s m args below meth c D ca N0 xa C H locs ls2 hn hz hP hS (asc_store1 (v := .int x) hg hl2))
theorem x_astore_n {i0 : Fin 4} {x : Nat} {L2 : List (Option Value)} (hd : decode M.1 pc = .ok (.astore_n i0, 1)) {q : Nat} (hq : pc + 1 = q) (hi : (i0 : Nat) < M.2.2.1) (hg : nlg L (i0 : Nat) = true) (hL : L.set (i0 : Nat) (some (.ref x)) = L2) (kk : Wp M q L2 S n h k z post) : Wp M pc L (.ref x :: S) n h k z post := by
  subst hq
  subst hL
  intro p l e s m args below meth c D ca N0 xa C H locs ls hn hz hP hS hl
  exact lv_astore_n C.1 C.2.1 hd rfl hl hi rfl (fun ls2 hl2 => kk p l e s m args below meth c D ca N0 xa C H locs ls2 hn hz hP hS (asc_store1 (v := .ref x) hg hl2))
theorem x_astore {i0 : Nat} {x : Nat} {L2 : List (Option Value)} (hd : decode M.1 pc = .ok (.astore i0, 2)) {q : Nat} (hq : pc + 2 = q) (hi : i0 < M.2.2.1) (hg : nlg L i0 = true) (hL : L.set i0 (some (.ref x)) = L2) (kk : Wp M q L2 S n h k z post) : Wp M pc L (.ref x :: S) n h k z post := by
  subst hq
  subst hL
  intro p l e s m args below meth c D ca N0 xa C H locs ls hn hz hP hS hl
  exact lv_astore C.1 C.2.1 hd hl hi rfl (fun ls2 hl2 => kk p l e s m args below meth c D ca N0 xa C H locs ls2 hn hz hP hS (asc_store1 (v := .ref x) hg hl2))
theorem x_lstore_n {i0 : Fin 4} {x : Int64} {L2 : List (Option Value)} (hd : decode M.1 pc = .ok (.lstore_n i0, 1)) {q : Nat} (hq : pc + 1 = q) (hi : (i0 : Nat) + 1 < M.2.2.1) (hg : nlg L (i0 : Nat) = true) (hL : (L.set (i0 : Nat) (some (.long x))).set ((i0 : Nat) + 1) none = L2) (kk : Wp M q L2 S n h k z post) : Wp M pc L (.long x :: S) n h k z post := by
  subst hq
  subst hL
  intro p l e s m args below meth c D ca N0 xa C H locs ls hn hz hP hS hl
  exact lv_lstore_n C.1 C.2.1 hd rfl hl hi rfl (fun ls2 hl2 => kk p l e s m args below meth c D ca N0 xa C H locs ls2 hn hz hP hS (asc_store2 (v := .long x) hg hl2))
theorem x_lstore {i0 : Nat} {x : Int64} {L2 : List (Option Value)} (hd : decode M.1 pc = .ok (.lstore i0, 2)) {q : Nat} (hq : pc + 2 = q) (hi : i0 + 1 < M.2.2.1) (hg : nlg L i0 = true) (hL : (L.set i0 (some (.long x))).set (i0 + 1) none = L2) (kk : Wp M q L2 S n h k z post) : Wp M pc L (.long x :: S) n h k z post := by
  subst hq
  subst hL
  intro p l e s m args below meth c D ca N0 xa C H locs ls hn hz hP hS hl
  exact lv_lstore C.1 C.2.1 hd hl hi rfl (fun ls2 hl2 => kk p l e s m args below meth c D ca N0 xa C H locs ls2 hn hz hP hS (asc_store2 (v := .long x) hg hl2))
theorem x_iinc {i0 : Nat} {c0 : Int} {x v : Int32} {L2 : List (Option Value)} (hd : decode M.1 pc = .ok (.iinc i0 c0, 3)) {q : Nat} (hq : pc + 3 = q) (hi : i0 < M.2.2.1) (hg : nlg L i0 = true) (hv : L[i0]? = some (some (.int x))) (he : x + Int32.ofInt c0 = v) (hL : L.set i0 (some (.int v)) = L2) (kk : Wp M q L2 S n h k z post) : Wp M pc L S n h k z post := by
  subst hq
  subst hL
  intro p l e s m args below meth c D ca N0 xa C H locs ls hn hz hP hS hl
  obtain ⟨j, hj⟩ := List.getElem?_of_mem (asc_mem.mpr ⟨_, hv, rfl⟩ : (i0, Value.int x) ∈ asc (ad N0 xa) L)
  exact lv_iinc C.1 C.2.1 hd hl hj he hi rfl (fun ls2 hl2 => kk p l e s m args below meth c D ca N0 xa C H locs ls2 hn hz hP hS (asc_store1 (v := .int v) hg hl2))
theorem x_dup {v : Value} (hd : decode M.1 pc = .ok (.dup, 1)) {q : Nat} (hq : pc + 1 = q) (hc : v.category = 1) (kk : Wp M q L (v :: v :: S) n h k z post) : Wp M pc L (v :: S) n h k z post := by
  subst hq
  intro p l e s m args below meth c D ca N0 xa C H locs ls hn hz hP hS hl
  exact lv_dup C.1 C.2.1 hd (by rw [cv_cat]; exact hc) (kk p l e s m args below meth c D ca N0 xa C H locs ls hn hz hP hS hl)
theorem x_dup2 {v w : Value} (hd : decode M.1 pc = .ok (.dup2, 1)) {q : Nat} (hq : pc + 1 = q) (hc : v.category = 1) (hc2 : w.category = 1) (kk : Wp M q L (v :: w :: v :: w :: S) n h k z post) : Wp M pc L (v :: w :: S) n h k z post := by
  subst hq
  intro p l e s m args below meth c D ca N0 xa C H locs ls hn hz hP hS hl
  exact lv_dup2_11 C.1 C.2.1 hd (by rw [cv_cat]; exact hc) (by rw [cv_cat]; exact hc2) (kk p l e s m args below meth c D ca N0 xa C H locs ls hn hz hP hS hl)
theorem x_if_eq {x : Int32} {off : Int} {t q : Nat} (hd : decode M.1 pc = .ok (.ifCond .eq off, 3)) (ht : (pc : Int) + off = (t : Int)) (hq : pc + 3 = q) (kt : x = 0 → Wp M t L S n h k z post) (kf : ¬ (x = 0) → Wp M q L S n h k z post) : Wp M pc L (.int x :: S) n h k z post := by
  subst hq
  intro p l e s m args below meth c D ca N0 xa C H locs ls hn hz hP hS hl
  exact lv_if_eq C.1 C.2.1 hd ht (fun hc => kt hc p l e s m args below meth c D ca N0 xa C H locs ls hn hz hP hS hl) (fun hc => kf hc p l e s m args below meth c D ca N0 xa C H locs ls hn hz hP hS hl)
theorem x_icmp_eq {x y : Int32} {off : Int} {t q : Nat} (hd : decode M.1 pc = .ok (.if_icmp .eq off, 3)) (ht : (pc : Int) + off = (t : Int)) (hq : pc + 3 = q) (kt : x = y → Wp M t L S n h k z post) (kf : ¬ (x = y) → Wp M q L S n h k z post) : Wp M pc L (.int y :: .int x :: S) n h k z post := by
  subst hq
  intro p l e s m args below meth c D ca N0 xa C H locs ls hn hz hP hS hl
  exact lv_icmp_eq C.1 C.2.1 hd ht (fun hc => kt hc p l e s m args below meth c D ca N0 xa C H locs ls hn hz hP hS hl) (fun hc => kf hc p l e s m args below meth c D ca N0 xa C H locs ls hn hz hP hS hl)
theorem x_if_ne {x : Int32} {off : Int} {t q : Nat} (hd : decode M.1 pc = .ok (.ifCond .ne off, 3)) (ht : (pc : Int) + off = (t : Int)) (hq : pc + 3 = q) (kt : ¬ x = 0 → Wp M t L S n h k z post) (kf : x = 0 → Wp M q L S n h k z post) : Wp M pc L (.int x :: S) n h k z post := by
  subst hq
  intro p l e s m args below meth c D ca N0 xa C H locs ls hn hz hP hS hl
  exact lv_if_ne C.1 C.2.1 hd ht (fun hc => kt hc p l e s m args below meth c D ca N0 xa C H locs ls hn hz hP hS hl) (fun hc => kf hc p l e s m args below meth c D ca N0 xa C H locs ls hn hz hP hS hl)
theorem x_icmp_ne {x y : Int32} {off : Int} {t q : Nat} (hd : decode M.1 pc = .ok (.if_icmp .ne off, 3)) (ht : (pc : Int) + off = (t : Int)) (hq : pc + 3 = q) (kt : ¬ x = y → Wp M t L S n h k z post) (kf : x = y → Wp M q L S n h k z post) : Wp M pc L (.int y :: .int x :: S) n h k z post := by
  subst hq
  intro p l e s m args below meth c D ca N0 xa C H locs ls hn hz hP hS hl
  exact lv_icmp_ne C.1 C.2.1 hd ht (fun hc => kt hc p l e s m args below meth c D ca N0 xa C H locs ls hn hz hP hS hl) (fun hc => kf hc p l e s m args below meth c D ca N0 xa C H locs ls hn hz hP hS hl)
theorem x_if_lt {x : Int32} {off : Int} {t q : Nat} (hd : decode M.1 pc = .ok (.ifCond .lt off, 3)) (ht : (pc : Int) + off = (t : Int)) (hq : pc + 3 = q) (kt : x < 0 → Wp M t L S n h k z post) (kf : ¬ (x < 0) → Wp M q L S n h k z post) : Wp M pc L (.int x :: S) n h k z post := by
  subst hq
  intro p l e s m args below meth c D ca N0 xa C H locs ls hn hz hP hS hl
  exact lv_if_lt C.1 C.2.1 hd ht (fun hc => kt hc p l e s m args below meth c D ca N0 xa C H locs ls hn hz hP hS hl) (fun hc => kf hc p l e s m args below meth c D ca N0 xa C H locs ls hn hz hP hS hl)
theorem x_icmp_lt {x y : Int32} {off : Int} {t q : Nat} (hd : decode M.1 pc = .ok (.if_icmp .lt off, 3)) (ht : (pc : Int) + off = (t : Int)) (hq : pc + 3 = q) (kt : x < y → Wp M t L S n h k z post) (kf : ¬ (x < y) → Wp M q L S n h k z post) : Wp M pc L (.int y :: .int x :: S) n h k z post := by
  subst hq
  intro p l e s m args below meth c D ca N0 xa C H locs ls hn hz hP hS hl
  exact lv_icmp_lt C.1 C.2.1 hd ht (fun hc => kt hc p l e s m args below meth c D ca N0 xa C H locs ls hn hz hP hS hl) (fun hc => kf hc p l e s m args below meth c D ca N0 xa C H locs ls hn hz hP hS hl)
theorem x_if_ge {x : Int32} {off : Int} {t q : Nat} (hd : decode M.1 pc = .ok (.ifCond .ge off, 3)) (ht : (pc : Int) + off = (t : Int)) (hq : pc + 3 = q) (kt : 0 ≤ x → Wp M t L S n h k z post) (kf : ¬ (0 ≤ x) → Wp M q L S n h k z post) : Wp M pc L (.int x :: S) n h k z post := by
  subst hq
  intro p l e s m args below meth c D ca N0 xa C H locs ls hn hz hP hS hl
  exact lv_if_ge C.1 C.2.1 hd ht (fun hc => kt hc p l e s m args below meth c D ca N0 xa C H locs ls hn hz hP hS hl) (fun hc => kf hc p l e s m args below meth c D ca N0 xa C H locs ls hn hz hP hS hl)
theorem x_icmp_ge {x y : Int32} {off : Int} {t q : Nat} (hd : decode M.1 pc = .ok (.if_icmp .ge off, 3)) (ht : (pc : Int) + off = (t : Int)) (hq : pc + 3 = q) (kt : y ≤ x → Wp M t L S n h k z post) (kf : ¬ (y ≤ x) → Wp M q L S n h k z post) : Wp M pc L (.int y :: .int x :: S) n h k z post := by
  subst hq
  intro p l e s m args below meth c D ca N0 xa C H locs ls hn hz hP hS hl
  exact lv_icmp_ge C.1 C.2.1 hd ht (fun hc => kt hc p l e s m args below meth c D ca N0 xa C H locs ls hn hz hP hS hl) (fun hc => kf hc p l e s m args below meth c D ca N0 xa C H locs ls hn hz hP hS hl)
theorem x_if_gt {x : Int32} {off : Int} {t q : Nat} (hd : decode M.1 pc = .ok (.ifCond .gt off, 3)) (ht : (pc : Int) + off = (t : Int)) (hq : pc + 3 = q) (kt : 0 < x → Wp M t L S n h k z post) (kf : ¬ (0 < x) → Wp M q L S n h k z post) : Wp M pc L (.int x :: S) n h k z post := by
  subst hq
  intro p l e s m args below meth c D ca N0 xa C H locs ls hn hz hP hS hl
  exact lv_if_gt C.1 C.2.1 hd ht (fun hc => kt hc p l e s m args below meth c D ca N0 xa C H locs ls hn hz hP hS hl) (fun hc => kf hc p l e s m args below meth c D ca N0 xa C H locs ls hn hz hP hS hl)
theorem x_icmp_gt {x y : Int32} {off : Int} {t q : Nat} (hd : decode M.1 pc = .ok (.if_icmp .gt off, 3)) (ht : (pc : Int) + off = (t : Int)) (hq : pc + 3 = q) (kt : y < x → Wp M t L S n h k z post) (kf : ¬ (y < x) → Wp M q L S n h k z post) : Wp M pc L (.int y :: .int x :: S) n h k z post := by
  subst hq
  intro p l e s m args below meth c D ca N0 xa C H locs ls hn hz hP hS hl
  exact lv_icmp_gt C.1 C.2.1 hd ht (fun hc => kt hc p l e s m args below meth c D ca N0 xa C H locs ls hn hz hP hS hl) (fun hc => kf hc p l e s m args below meth c D ca N0 xa C H locs ls hn hz hP hS hl)
theorem x_if_le {x : Int32} {off : Int} {t q : Nat} (hd : decode M.1 pc = .ok (.ifCond .le off, 3)) (ht : (pc : Int) + off = (t : Int)) (hq : pc + 3 = q) (kt : x ≤ 0 → Wp M t L S n h k z post) (kf : ¬ (x ≤ 0) → Wp M q L S n h k z post) : Wp M pc L (.int x :: S) n h k z post := by
  subst hq
  intro p l e s m args below meth c D ca N0 xa C H locs ls hn hz hP hS hl
  exact lv_if_le C.1 C.2.1 hd ht (fun hc => kt hc p l e s m args below meth c D ca N0 xa C H locs ls hn hz hP hS hl) (fun hc => kf hc p l e s m args below meth c D ca N0 xa C H locs ls hn hz hP hS hl)
theorem x_icmp_le {x y : Int32} {off : Int} {t q : Nat} (hd : decode M.1 pc = .ok (.if_icmp .le off, 3)) (ht : (pc : Int) + off = (t : Int)) (hq : pc + 3 = q) (kt : x ≤ y → Wp M t L S n h k z post) (kf : ¬ (x ≤ y) → Wp M q L S n h k z post) : Wp M pc L (.int y :: .int x :: S) n h k z post := by
  subst hq
  intro p l e s m args below meth c D ca N0 xa C H locs ls hn hz hP hS hl
  exact lv_icmp_le C.1 C.2.1 hd ht (fun hc => kt hc p l e s m args below meth c D ca N0 xa C H locs ls hn hz hP hS hl) (fun hc => kf hc p l e s m args below meth c D ca N0 xa C H locs ls hn hz hP hS hl)
theorem x_goto {off : Int} {t : Nat} (hd : decode M.1 pc = .ok (.goto off, 3)) (ht : (pc : Int) + off = (t : Int)) (kk : Wp M t L S n h k z post) : Wp M pc L S n h k z post := by
  intro p l e s m args below meth c D ca N0 xa C H locs ls hn hz hP hS hl
  exact lv_goto C.1 C.2.1 hd ht (kk p l e s m args below meth c D ca N0 xa C H locs ls hn hz hP hS hl)
theorem x_swOut {dflt lo hi : Int} {offs : Array Int} {len : Nat} {x : Int32} {t : Nat} (hd : decode M.1 pc = .ok (.tableswitch dflt lo hi offs, len)) (hx : x.toInt < lo ∨ hi < x.toInt) (ht : (pc : Int) + dflt = (t : Int)) (kk : Wp M t L S n h k z post) : Wp M pc L (.int x :: S) n h k z post := by
  intro p l e s m args below meth c D ca N0 xa C H locs ls hn hz hP hS hl
  exact lv_tableOut C.1 C.2.1 hd hx ht (kk p l e s m args below meth c D ca N0 xa C H locs ls hn hz hP hS hl)
theorem x_swIn {dflt lo hi : Int} {offs : Array Int} {len : Nat} {x : Int32} {off : Int} {t : Nat} (hd : decode M.1 pc = .ok (.tableswitch dflt lo hi offs, len)) (h1 : ¬ x.toInt < lo) (h2 : ¬ hi < x.toInt) (ho : offs[(x.toInt - lo).toNat]? = some off) (ht : (pc : Int) + off = (t : Int)) (kk : Wp M t L S n h k z post) : Wp M pc L (.int x :: S) n h k z post := by
  intro p l e s m args below meth c D ca N0 xa C H locs ls hn hz hP hS hl
  exact lv_tableIn C.1 C.2.1 hd h1 h2 ho ht (kk p l e s m args below meth c D ca N0 xa C H locs ls hn hz hP hS hl)
theorem x_loc {L2 : List (Option Value)} (hs : ∀ (i : Nat) (v : Value), L2[i]? = some (some v) → L[i]? = some (some v)) (kk : Wp M pc L2 S n h k z post) : Wp M pc L S n h k z post := by
  intro p l e s m args below meth c D ca N0 xa C H locs ls hn hz hP hS hl
  exact kk p l e s m args below meth c D ca N0 xa C H locs ls hn hz hP hS (asc_sub hl hs)
end WPS
