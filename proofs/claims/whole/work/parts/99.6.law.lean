def R_law : String := "WhiteRoadsLaw"
def lw_P (b : Addr) (xs : List Int32) (args : Array Value) (s : State) : Prop := args = #[.ref b] ∧ s.IntsAt b xs ∧ xs.length ≤ 3072 ∧ (Jvm.Cond.and given_1 narrow_1).before args s = true
def lw_Q (_ : Array Value) (s : State) (o : Outcome) (t : State) : Prop := o = .returned (some (.int 1)) ∧ Framed s o t [] 600000 7302250
def lw_Z (below : List Frame) (a : Array Value) (s : State) : State → Prop := fun t => ∃ o, t.status = .running ∧ Ended t below o ∧ lw_Q a s o t
/-- the law's own end, with 1 on the stack, nothing written that was there before, its room as the claim has it -/
theorem lw_ret {p : Program} {l : Launch} {e : Env} {s : State} {m : MethodId} {below : List Frame} {meth : Method} {c : Code} {b : Nat} (hx : p.tables.exec = Jvm.exec) (hb : c.code = code) (hr : meth.sig.returnType = ret) (hlocks : meth.locks = false) {pc : Nat} {H : Heap} {ls : Array Slot} (hdg : decode code pc = .ok (.ireturn, 1)) : W p l e room_1 s m #[Value.ref b] below meth c H [] 600000 7302250 (lw_Z below #[Value.ref b] s) (F0 m pc ls [.int 1]) := by
  intro T hT X
  obtain ⟨fs, hret, hrun, hended, hW, hframe⟩ := X.leave (v := some (.int 1)) (hlocks := hlocks) (fun h => by rw [hr] at h; cases h)
  have hmeth' : T.vm.method? m = some meth := X.method'
  refine ⟨T.setFrames fs, ?_, .returned (some (.int 1)), hrun, hended, rfl, ⟨_, rfl⟩, hW, hframe⟩
  jvm_step X.here [X.here.top, hx, hb, hdg, hmeth', hr, ret, narrow_b1]
  (try refine ⟨rfl, ?_⟩); (try refine ⟨rfl, ?_⟩)
  first | (intro acts; rw [hret _ acts rfl rfl rfl]) | rw [hret _ _ rfl rfl rfl]
  exact Steps.refl _
/-- what holds at the law's entry: the machine, the code, the tables' words (any of lw_tbl by 'hts w (by decide +kernel)'), the script of L ints xs at the cell b, what the Statement gives of the start (any of its parts by flat_of_before) -/
def lw_At (p : Program) (s : State) (m : MethodId) (meth : Method) (c : Code) (b L : Nat) (xs : Nat → Int32) : Prop :=
  p.tables.exec = Jvm.exec ∧ c.code = code ∧ meth.sig.returnType = ret ∧ c.maxLocals = 4 ∧ s.vm.findClass R_law = some m.cls ∧ (∀ w ∈ lw_tbl, w.before #[Value.ref b] s = true) ∧ va_X b L xs s s.heap ∧ b < s.heap.size ∧ meth.locks = false ∧ (Jvm.Cond.and given_1 narrow_1).before #[Value.ref b] s = true
/-! the law's own walk: its script lies outside -/
abbrev MLw : MX := (cL_law, "WhiteRoadsLaw", 4, ret, room_1, false)
/-- what holds all along: the machine, the words, the script at the cell b -/
def CL (p : Program) (s : State) (m : MethodId) (meth : Method) (c : Code) (D : va_G) (ca : Nat → ClassId) (xa : Nat → Nat) (b Ln : Nat) (xs : Nat → Int32) : Prop := Cx p s m #[Value.ref b] meth c MLw D ca s.heap.size xa ∧ va_X b Ln xs s s.heap ∧ b < s.heap.size ∧ xa 5 = b
def Wl (b Ln : Nat) (xs : Nat → Int32) (pc : Nat) (L : List (Option Value)) (S : List Value) (n : Nat) (h : AH) (k z : Nat) : Prop :=
  ∀ (p : Program) (l : Launch) (e : Env) (s : State) (m : MethodId) (below : List Frame) (meth : Method) (c : Code) (D : va_G) (ca : Nat → ClassId) (xa : Nat → Nat), CL p s m meth c D ca xa b Ln xs →
  ∀ (H : Heap) (locs : List Loc) (ls : Array Slot), n ≤ 1000000 → s.heap.size + n = H.size → va_P D vwCl (wd s.heap.size xa ca n h) H → va_S (fun q => s.heap.size ≤ q) s.heap H locs → lv_has ls 4 (asc (ad s.heap.size xa) L) →
  W p l e room_1 s m #[Value.ref b] below meth c H locs k z (lw_Z below #[Value.ref b] s) (F0 m pc ls (S.map (cv (ad s.heap.size xa))))
section WLS
variable {b Ln : Nat} {xs : Nat → Int32} {pc n k z : Nat} {L : List (Option Value)} {S : List Value} {h : AH}
theorem y_iadd {x y : Int32} (hd : decode MLw.1 pc = .ok (.iadd, 1)) {q : Nat} (hq : pc + 1 = q) (kk : Wl b Ln xs q L (.int (x + y) :: S) n h k z) : Wl b Ln xs pc L (.int y :: .int x :: S) n h k z := by
  subst hq
  intro p l e s m below meth c D ca xa C H locs ls hn hz hP hS hl
  exact lv_iadd C.1.1 C.1.2.1 hd (kk p l e s m below meth c D ca xa C H locs ls hn hz hP hS hl)
theorem y_isub {x y : Int32} (hd : decode MLw.1 pc = .ok (.isub, 1)) {q : Nat} (hq : pc + 1 = q) (kk : Wl b Ln xs q L (.int (x - y) :: S) n h k z) : Wl b Ln xs pc L (.int y :: .int x :: S) n h k z := by
  subst hq
  intro p l e s m below meth c D ca xa C H locs ls hn hz hP hS hl
  exact lv_isub C.1.1 C.1.2.1 hd (kk p l e s m below meth c D ca xa C H locs ls hn hz hP hS hl)
theorem y_iand {x y : Int32} (hd : decode MLw.1 pc = .ok (.iand, 1)) {q : Nat} (hq : pc + 1 = q) (kk : Wl b Ln xs q L (.int (x &&& y) :: S) n h k z) : Wl b Ln xs pc L (.int y :: .int x :: S) n h k z := by
  subst hq
  intro p l e s m below meth c D ca xa C H locs ls hn hz hP hS hl
  exact lv_iand C.1.1 C.1.2.1 hd (kk p l e s m below meth c D ca xa C H locs ls hn hz hP hS hl)
theorem y_iconst {c0 : Int} (v : Int32) (hd : decode MLw.1 pc = .ok (.iconst c0, 1)) {q : Nat} (hq : pc + 1 = q) (hv : Int32.ofInt c0 = v) (kk : Wl b Ln xs q L (.int v :: S) n h k z) : Wl b Ln xs pc L S n h k z := by
  subst hq
  intro p l e s m below meth c D ca xa C H locs ls hn hz hP hS hl
  exact lv_iconst C.1.1 C.1.2.1 hd hv (kk p l e s m below meth c D ca xa C H locs ls hn hz hP hS hl)
theorem y_bipush {c0 : Int} (v : Int32) (hd : decode MLw.1 pc = .ok (.bipush c0, 2)) {q : Nat} (hq : pc + 2 = q) (hv : (Int8.ofInt c0).toInt32 = v) (kk : Wl b Ln xs q L (.int v :: S) n h k z) : Wl b Ln xs pc L S n h k z := by
  subst hq
  intro p l e s m below meth c D ca xa C H locs ls hn hz hP hS hl
  exact lv_bipush C.1.1 C.1.2.1 hd hv (kk p l e s m below meth c D ca xa C H locs ls hn hz hP hS hl)
theorem y_iload_n {i0 : Fin 4} {x : Int32} (hd : decode MLw.1 pc = .ok (.iload_n i0, 1)) {q : Nat} (hq : pc + 1 = q) (hv : L[(i0 : Nat)]? = some (some (.int x))) (kk : Wl b Ln xs q L (.int x :: S) n h k z) : Wl b Ln xs pc L S n h k z := by
  subst hq
  intro p l e s m below meth c D ca xa C H locs ls hn hz hP hS hl
  exact lv_iload_n C.1.1 C.1.2.1 hd rfl (asc_at hl hv) (kk p l e s m below meth c D ca xa C H locs ls hn hz hP hS hl)
theorem y_aload_n {i0 : Fin 4} {x : Nat} (hd : decode MLw.1 pc = .ok (.aload_n i0, 1)) {q : Nat} (hq : pc + 1 = q) (hv : L[(i0 : Nat)]? = some (some (.ref x))) (kk : Wl b Ln xs q L (.ref x :: S) n h k z) : Wl b Ln xs pc L S n h k z := by
  subst hq
  intro p l e s m below meth c D ca xa C H locs ls hn hz hP hS hl
  exact lv_aload_n C.1.1 C.1.2.1 hd rfl (asc_at hl hv) (kk p l e s m below meth c D ca xa C H locs ls hn hz hP hS hl)
theorem y_istore_n {i0 : Fin 4} {x : Int32} {L2 : List (Option Value)} (hd : decode MLw.1 pc = .ok (.istore_n i0, 1)) {q : Nat} (hq : pc + 1 = q) (hi : (i0 : Nat) < MLw.2.2.1) (hg : nlg L (i0 : Nat) = true) (hL : L.set (i0 : Nat) (some (.int x)) = L2) (kk : Wl b Ln xs q L2 S n h k z) : Wl b Ln xs pc L (.int x :: S) n h k z := by
  subst hq
  subst hL
  intro p l e s m below meth c D ca xa C H locs ls hn hz hP hS hl
  exact lv_istore_n C.1.1 C.1.2.1 hd rfl hl hi rfl (fun ls2 hl2 => kk p l e s m below meth c D ca xa C H locs ls2 hn hz hP hS (asc_store1 (v := .int x) hg hl2))
theorem y_astore_n {i0 : Fin 4} {x : Nat} {L2 : List (Option Value)} (hd : decode MLw.1 pc = .ok (.astore_n i0, 1)) {q : Nat} (hq : pc + 1 = q) (hi : (i0 : Nat) < MLw.2.2.1) (hg : nlg L (i0 : Nat) = true) (hL : L.set (i0 : Nat) (some (.ref x)) = L2) (kk : Wl b Ln xs q L2 S n h k z) : Wl b Ln xs pc L (.ref x :: S) n h k z := by
  subst hq
  subst hL
  intro p l e s m below meth c D ca xa C H locs ls hn hz hP hS hl
  exact lv_astore_n C.1.1 C.1.2.1 hd rfl hl hi rfl (fun ls2 hl2 => kk p l e s m below meth c D ca xa C H locs ls2 hn hz hP hS (asc_store1 (v := .ref x) hg hl2))
theorem y_iinc {i0 : Nat} {c0 : Int} {x v : Int32} {L2 : List (Option Value)} (hd : decode MLw.1 pc = .ok (.iinc i0 c0, 3)) {q : Nat} (hq : pc + 3 = q) (hi : i0 < MLw.2.2.1) (hg : nlg L i0 = true) (hv : L[i0]? = some (some (.int x))) (he : x + Int32.ofInt c0 = v) (hL : L.set i0 (some (.int v)) = L2) (kk : Wl b Ln xs q L2 S n h k z) : Wl b Ln xs pc L S n h k z := by
  subst hq
  subst hL
  intro p l e s m below meth c D ca xa C H locs ls hn hz hP hS hl
  obtain ⟨j, hj⟩ := List.getElem?_of_mem (asc_mem.mpr ⟨_, hv, rfl⟩ : (i0, Value.int x) ∈ asc (ad s.heap.size xa) L)
  exact lv_iinc C.1.1 C.1.2.1 hd hl hj he hi rfl (fun ls2 hl2 => kk p l e s m below meth c D ca xa C H locs ls2 hn hz hP hS (asc_store1 (v := .int v) hg hl2))
theorem y_icmp_gt {x y : Int32} {off : Int} {t q : Nat} (hd : decode MLw.1 pc = .ok (.if_icmp .gt off, 3)) (ht : (pc : Int) + off = (t : Int)) (hq : pc + 3 = q) (kt : y < x → Wl b Ln xs t L S n h k z) (kf : ¬ (y < x) → Wl b Ln xs q L S n h k z) : Wl b Ln xs pc L (.int y :: .int x :: S) n h k z := by
  subst hq
  intro p l e s m below meth c D ca xa C H locs ls hn hz hP hS hl
  exact lv_icmp_gt C.1.1 C.1.2.1 hd ht (fun hc => kt hc p l e s m below meth c D ca xa C H locs ls hn hz hP hS hl) (fun hc => kf hc p l e s m below meth c D ca xa C H locs ls hn hz hP hS hl)
theorem y_icmp_eq {x y : Int32} {off : Int} {t q : Nat} (hd : decode MLw.1 pc = .ok (.if_icmp .eq off, 3)) (ht : (pc : Int) + off = (t : Int)) (hq : pc + 3 = q) (kt : x = y → Wl b Ln xs t L S n h k z) (kf : ¬ (x = y) → Wl b Ln xs q L S n h k z) : Wl b Ln xs pc L (.int y :: .int x :: S) n h k z := by
  subst hq
  intro p l e s m below meth c D ca xa C H locs ls hn hz hP hS hl
  exact lv_icmp_eq C.1.1 C.1.2.1 hd ht (fun hc => kt hc p l e s m below meth c D ca xa C H locs ls hn hz hP hS hl) (fun hc => kf hc p l e s m below meth c D ca xa C H locs ls hn hz hP hS hl)
theorem y_goto {off : Int} {t : Nat} (hd : decode MLw.1 pc = .ok (.goto off, 3)) (ht : (pc : Int) + off = (t : Int)) (kk : Wl b Ln xs t L S n h k z) : Wl b Ln xs pc L S n h k z := by
  intro p l e s m below meth c D ca xa C H locs ls hn hz hP hS hl
  exact lv_goto C.1.1 C.1.2.1 hd ht (kk p l e s m below meth c D ca xa C H locs ls hn hz hP hS hl)
theorem y_swOut {dflt lo hi : Int} {offs : Array Int} {len : Nat} {x : Int32} {t : Nat} (hd : decode MLw.1 pc = .ok (.tableswitch dflt lo hi offs, len)) (hx : x.toInt < lo ∨ hi < x.toInt) (ht : (pc : Int) + dflt = (t : Int)) (kk : Wl b Ln xs t L S n h k z) : Wl b Ln xs pc L (.int x :: S) n h k z := by
  intro p l e s m below meth c D ca xa C H locs ls hn hz hP hS hl
  exact lv_tableOut C.1.1 C.1.2.1 hd hx ht (kk p l e s m below meth c D ca xa C H locs ls hn hz hP hS hl)
theorem y_swIn {dflt lo hi : Int} {offs : Array Int} {len : Nat} {x : Int32} {off : Int} {t : Nat} (hd : decode MLw.1 pc = .ok (.tableswitch dflt lo hi offs, len)) (h1 : ¬ x.toInt < lo) (h2 : ¬ hi < x.toInt) (ho : offs[(x.toInt - lo).toNat]? = some off) (ht : (pc : Int) + off = (t : Int)) (kk : Wl b Ln xs t L S n h k z) : Wl b Ln xs pc L (.int x :: S) n h k z := by
  intro p l e s m below meth c D ca xa C H locs ls hn hz hP hS hl
  exact lv_tableIn C.1.1 C.1.2.1 hd h1 h2 ho ht (kk p l e s m below meth c D ca xa C H locs ls hn hz hP hS hl)
theorem y_dup {v : Value} (hd : decode MLw.1 pc = .ok (.dup, 1)) {q : Nat} (hq : pc + 1 = q) (hc : v.category = 1) (kk : Wl b Ln xs q L (v :: v :: S) n h k z) : Wl b Ln xs pc L (v :: S) n h k z := by
  subst hq
  intro p l e s m below meth c D ca xa C H locs ls hn hz hP hS hl
  exact lv_dup C.1.1 C.1.2.1 hd (by rw [cv_cat]; exact hc) (kk p l e s m below meth c D ca xa C H locs ls hn hz hP hS hl)
theorem y_new {ci i0 N : Nat} {Cn : String} {T : u_T} {ty0 : Nat → FieldType} {fs : List Value} (hd : decode MLw.1 pc = .ok (.new i0, 3)) {q : Nat} (hq : pc + 3 = q) (ok : ClOk ci Cn T ty0 N) (hcl : Cond.classLink MLw.2.1 i0 Cn ∈ TBg) (hinst : Cond.instantiable Cn N ∈ TBg) (hini : Cond.initialized Cn ∈ TBg) (hfs : ∀ j, j < N → defaultValue (ty0 j) = vp_V fs j) (hcv : ∀ f : Nat → Nat, fs.map (cv f) = fs) {n2 : Nat} (hn2 : n + 1 = n2) (hb : n2 ≤ 1000000) (hk : k + 1 ≤ MLw.2.2.2.2.1.cells) (hkz : z + N ≤ MLw.2.2.2.2.1.slots) (kk : ∀ h' : AH, h' n = cO ci fs → (∀ b, b ≠ n → h' b = h b) → Wl b Ln xs q L (.ref n :: S) n2 h' (k + 1) (z + N)) : Wl b Ln xs pc L S n h k z := by
  subst hn2
  subst hq
  intro p l e s m below meth c D ca xa C H locs ls hn hz hP hS hl
  have hts := C.1.2.2.2.2.2.2.1
  have hKn := C.1.2.2.2.2.2.2.2.1.1 ci _ ok.1
  refine W.newcK C.1.1 C.1.2.1 C.1.2.2.2.2.2.1 (hts _ hcl) (hts _ hinst) (hts _ hini) rfl hd hk hkz hKn.2.1 rfl fun H1 kC hkC e1 z1 o1 => ?_
  have hP1 : va_P D vwCl (wd s.heap.size xa ca (n + 1) (hup h n (cO ci fs))) H1 := by
    refine wd_app hP o1 ?_
    show va_at D vwCl (s.heap.size + n, .inr (ci, fs.map (cv (ad s.heap.size xa)))) H1
    rw [hcv, hz]
    exact ⟨_, ok.1, (u_born ty0 hts ok.2.1 hKn hkC e1 ok.2.2.1).to hfs⟩
  have hg : F0 m (pc + 3) ls ((Value.ref n :: S).map (cv (ad s.heap.size xa))) = F0 m (pc + 3) ls (.ref H.size :: S.map (cv (ad s.heap.size xa))) := by
    rw [List.map_cons, cv_ref (show n < 1000000 by omega), hz]
  have k1 := kk (hup h n (cO ci fs)) hup_self (fun b hb => hup_ne hb) p l e s m below meth c D ca xa C H1 locs ls hb (by rw [z1]; omega) hP1 (vaS_app hS (by omega) o1) hl
  rw [hg] at k1
  exact k1
theorem y_callI {y : MethodName} {M' : MX} {np i0 a : Nat} {As rest : List Value} {post' : Option Value → Nat → AH → Prop} (hd : decode MLw.1 pc = .ok (.invokespecial i0, 3)) {q : Nat} (hq : pc + 3 = q) (ok : MOkI y M' np) (hl0 : Cond.methodLink MLw.2.1 i0 y ∈ TBg) (hct : Ct y M' (.ref a :: As) n h post') (han : a < n) (hn0 : As.length = np) (hst : S = As.reverse ++ .ref a :: rest) (hW : (rest.map fun v => v.category).sum ≤ 8) (hR : M'.2.2.2.2.1.frames + 1 ≤ MLw.2.2.2.2.1.frames ∧ 8 + (M'.2.2.1 + 11) + M'.2.2.2.2.1.locals ≤ MLw.2.2.2.2.1.locals) (hC : k + M'.2.2.2.2.1.cells ≤ MLw.2.2.2.2.1.cells ∧ z + M'.2.2.2.2.1.slots ≤ MLw.2.2.2.2.1.slots)
    (kk : ∀ (r : Option Value) (n' : Nat) (h' : AH), post' r n' h' → Wl b Ln xs q L (r.toList ++ rest) n' h' (k + M'.2.2.2.2.1.cells) (z + M'.2.2.2.2.1.slots)) : Wl b Ln xs pc L S n h k z := by
  subst hst
  subst hq
  intro p l e s m below meth c D ca xa C H locs ls hn hz hP hS hl
  obtain ⟨⟨o1, o2, o3⟩, o4, o5, o6⟩ := ok
  have hts := C.1.2.2.2.2.2.2.1
  have e0 : cv (ad s.heap.size xa) (.ref a) = .ref (s.heap.size + a) := cv_ref (Nat.lt_of_lt_of_le han hn)
  have hM := hct l D ca s.heap.size xa
  rw [List.map_cons, e0] at hM
  refine bi_call (va_runI (b := s.heap.size + a) (As := As.map (cv (ad s.heap.size xa))) (rest := rest.map (cv (ad s.heap.size xa))) ⟨C.1.1, C.1.2.1, C.1.2.2.1, C.1.2.2.2.2.2.1, hts⟩ hM ⟨callB_of np hts (good_ws o1) (by rw [o6]) rfl rfl (hts _ o2) (hts _ hl0) o3 hR, o5, hts _ o4⟩ ⟨pre_blind, fun U hU hW => ⟨rfl, pre_warm hU hW hz hn hP C.1.2.2.2.2.2.2.2.1 C.1.2.2.2.2.2.2.2.2.1 C.1.2.2.2.2.2.2.2.2.2.2.1 hS⟩⟩ rfl (by simpa using hn0) hl.1 (by simp [e0]) (by rw [cv_sum]; exact lv_room (m := m) (pc := pc) (ls := ls) (rest := []) hW) hd hC) hS fun r n' h' H1 locs1 hp hn1 hz1 hP1 hS1 => ?_
  have hk := kk r n' h' hp p l e s m below meth c D ca xa C H1 locs1 ls hn1 hz1 hP1 hS1 hl
  have e9 : (r.map (cv (ad s.heap.size xa))).toList ++ rest.map (cv (ad s.heap.size xa)) = (r.toList ++ rest).map (cv (ad s.heap.size xa)) := by cases r <;> rfl
  rw [e9]
  exact hk
theorem y_callV {y : MethodName} {M' : MX} {np i0 a ci : Nat} {fs : List Value} {As rest : List Value} {post' : Option Value → Nat → AH → Prop} (hd : decode MLw.1 pc = .ok (.invokevirtual i0, 3)) {q : Nat} (hq : pc + 3 = q) (ok : MOkV y M' np) (hl0 : Cond.methodLink MLw.2.1 i0 y ∈ TBg) (hct : Ct y M' (.ref a :: As) n h post') (ha : h a = cO ci fs) (han : a < n) {T : u_T} {N : Nat} (hcl : vwCl[ci]? = some (y.cls, T, N)) (hn0 : As.length = np) (hst : S = As.reverse ++ .ref a :: rest) (hW : (rest.map fun v => v.category).sum ≤ 8) (hR : M'.2.2.2.2.1.frames + 1 ≤ MLw.2.2.2.2.1.frames ∧ 8 + (M'.2.2.1 + 11) + M'.2.2.2.2.1.locals ≤ MLw.2.2.2.2.1.locals) (hC : k + M'.2.2.2.2.1.cells ≤ MLw.2.2.2.2.1.cells ∧ z + M'.2.2.2.2.1.slots ≤ MLw.2.2.2.2.1.slots)
    (kk : ∀ (r : Option Value) (n' : Nat) (h' : AH), post' r n' h' → Wl b Ln xs q L (r.toList ++ rest) n' h' (k + M'.2.2.2.2.1.cells) (z + M'.2.2.2.2.1.slots)) : Wl b Ln xs pc L S n h k z := by
  subst hq
  subst hst
  intro p l e s m below meth c D ca xa C H locs ls hn hz hP hS hl
  obtain ⟨⟨o1, o2, o3⟩, o4, o5⟩ := ok
  have hts := C.1.2.2.2.2.2.2.1
  have he : (wd s.heap.size xa ca n h)[a]? = some (s.heap.size + a, .inr (ci, fs.map (cv (ad s.heap.size xa)))) := by rw [wd_at han, ha]; rfl
  have e0 : cv (ad s.heap.size xa) (.ref a) = .ref (s.heap.size + a) := cv_ref (Nat.lt_of_lt_of_le han hn)
  have hM := hct l D ca s.heap.size xa
  rw [List.map_cons, e0] at hM
  refine bi_call (va_runV (C := y.cls) (b := s.heap.size + a) (As := As.map (cv (ad s.heap.size xa))) (rest := rest.map (cv (ad s.heap.size xa))) ⟨C.1.1, C.1.2.1, C.1.2.2.1, C.1.2.2.2.2.2.1, hts⟩ hM ⟨callB_of np hts (good_ws o1) rfl rfl rfl (hts _ o2) (hts _ hl0) o3 hR, hts _ o4, hts _ o5⟩ ⟨pre_blind, va_recv C.1.2.2.2.2.2.2.2.1 hP hcl he, fun U hU hW => ⟨rfl, pre_warm hU hW hz hn hP C.1.2.2.2.2.2.2.2.1 C.1.2.2.2.2.2.2.2.2.1 C.1.2.2.2.2.2.2.2.2.2.2.1 hS⟩⟩ rfl (by simpa using hn0) hl.1 (by simp [e0]) (by rw [cv_sum]; exact lv_room (m := m) (pc := pc) (ls := ls) (rest := []) hW) hd hC) hS (fun r n' h' H1 locs1 hp hn1 hz1 hP1 hS1 => ?_)
  have hk := kk r n' h' hp p l e s m below meth c D ca xa C H1 locs1 ls hn1 hz1 hP1 hS1 hl
  have e9 : (r.map (cv (ad s.heap.size xa))).toList ++ rest.map (cv (ad s.heap.size xa)) = (r.toList ++ rest).map (cv (ad s.heap.size xa)) := by cases r <;> rfl
  rw [e9]
  exact hk
theorem y_slen (hd : decode cL_law pc = .ok (.arraylength, 1)) {q : Nat} (hq : pc + 1 = q) (kk : Wl b Ln xs q L (.int (nI Ln) :: S) n h k z) : Wl b Ln xs pc L (.ref 1000005 :: S) n h k z := by
  subst hq
  intro p l e s m below meth c D ca xa C H locs ls hn hz hP hS hl
  have hg : F0 m pc ls ((Value.ref 1000005 :: S).map (cv (ad s.heap.size xa))) = F0 m pc ls (.ref b :: S.map (cv (ad s.heap.size xa))) := by
    rw [List.map_cons, show cv (ad s.heap.size xa) (.ref 1000005) = .ref (xa 5) from rfl, C.2.2.2]
  rw [hg]
  exact va_slen C.1.1 C.1.2.1 C.2.1 C.2.2.1 (Nat.not_le.mpr C.2.2.1) hS hd (kk p l e s m below meth c D ca xa C H locs ls hn hz hP hS hl)
theorem y_sld {i : Int32} (hd : decode cL_law pc = .ok (.iaload, 1)) {q : Nat} (hq : pc + 1 = q) (hi : vp_in i Ln) (kk : Wl b Ln xs q L (.int (xs i.toNatClampNeg) :: S) n h k z) : Wl b Ln xs pc L (.int i :: .ref 1000005 :: S) n h k z := by
  subst hq
  intro p l e s m below meth c D ca xa C H locs ls hn hz hP hS hl
  have hg : F0 m pc ls ((Value.int i :: Value.ref 1000005 :: S).map (cv (ad s.heap.size xa))) = F0 m pc ls (.int i :: .ref b :: S.map (cv (ad s.heap.size xa))) := by
    rw [List.map_cons, List.map_cons, show cv (ad s.heap.size xa) (.ref 1000005) = .ref (xa 5) from rfl, C.2.2.2]; rfl
  rw [hg]
  exact va_sld C.1.1 C.1.2.1 C.2.1 C.2.2.1 (Nat.not_le.mpr C.2.2.1) hS hi hd (kk p l e s m below meth c D ca xa C H locs ls hn hz hP hS hl)
theorem y_ret (hd : decode cL_law pc = .ok (.ireturn, 1)) (hk : k ≤ 600000) (hkz : z ≤ 7302250) : Wl b Ln xs pc L [.int 1] n h k z := by
  intro p l e s m below meth c D ca xa C H locs ls hn hz hP hS hl
  refine va_forget hS.2.2 ?_
  refine W.widen hk hkz ?_
  exact lw_ret C.1.1 C.1.2.1 C.1.2.2.2.1 C.1.2.2.2.2.1 hd
end WLS
