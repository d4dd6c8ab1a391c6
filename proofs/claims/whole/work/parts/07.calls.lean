/-! contracts and calls -/
def loc0 (vs : List Value) : List (Option Value) := match vs with
  | [] => []
  | v :: r => if v.category = 2 then some v :: none :: loc0 r else some v :: loc0 r
theorem loc0_in (vs : List Value) : ∀ (i0 i : Nat) (v : Value), (loc0 vs)[i]? = some (some v) → (i0 + i, v) ∈ lv_args i0 vs := by
  induction vs with
  | nil => intro i0 i v h; simp [loc0] at h
  | cons w r ih =>
    intro i0 i v h
    unfold loc0 at h
    unfold lv_args
    by_cases hc : w.category = 2
    · rw [if_pos hc] at h ⊢
      match i, h with
      | 0, h =>
        have e : w = v := by simpa using h
        subst e
        exact List.mem_cons_self
      | 1, h => simp at h
      | j + 2, h =>
        have h2 := ih (i0 + 2) j v (by simpa using h)
        have e : i0 + 2 + j = i0 + (j + 2) := by omega
        rw [e] at h2
        exact List.mem_cons_of_mem _ h2
    · rw [if_neg hc] at h ⊢
      match i, h with
      | 0, h =>
        have e : w = v := by simpa using h
        subst e
        exact List.mem_cons_self
      | j + 1, h =>
        have h2 := ih (i0 + 1) j v (by simpa using h)
        have e : i0 + 1 + j = i0 + (j + 1) := by omega
        rw [e] at h2
        exact List.mem_cons_of_mem _ h2
theorem args_cv (a : Nat → Nat) (vs : List Value) : ∀ i0, lv_args i0 (vs.map (cv a)) = (lv_args i0 vs).map (fun q => (q.1, cv a q.2)) := by
  induction vs with
  | nil => intro i0; rfl
  | cons w r ih =>
    intro i0
    rw [List.map_cons]
    unfold lv_args
    rw [List.map_cons, cv_cat, ih]
theorem pad_none {L : List (Option Value)} {m i : Nat} {v : Value} (h : (L ++ List.replicate m none)[i]? = some (some v)) : L[i]? = some (some v) := by
  rw [List.getElem?_append] at h
  split at h
  · exact h
  · rw [List.getElem?_replicate] at h
    split at h <;> simp at h
theorem sl_len (a : Nat → Nat) (vs : List Value) : (lg_sl (vs.map (cv a))).length = (lg_sl vs).length := by
  unfold lg_sl
  induction vs with
  | nil => rfl
  | cons w r ih =>
    rw [List.map_cons, List.flatMap_cons, List.flatMap_cons, List.length_append, List.length_append, ih, cv_cat]
    by_cases hc : w.category = 2 <;> simp [hc]
/-- a contract out of a walk from the entry -/
theorem ct_of {y : MethodName} {M : MX} {args : List Value} {n : Nat} {h : AH} {post : Option Value → Nat → AH → Prop} (L : List (Option Value)) (m : Nat) (hy : plainName y.cls = true) (ho : M.2.1 = y.cls) (hi : M.2.2.2.2.2 = true → y.name = "<init>") (hlen : (lg_sl args).length ≤ M.2.2.1) (hL : loc0 args ++ List.replicate m none = L) (hw : Wp M 0 L [] n h 0 0 post) : Ct y M args n h post := by
  intro l D ca N0 xa
  refine Met.ofW (cc := M.1) (maxL := M.2.2.1) (ret := M.2.2.2.1) hy rfl ?_
  intro p e s m' args' below meth c s₁ B hml hv
  obtain ⟨rfl, hsz, hn, hP, hK, hN, hX⟩ := hv
  have hts := atoms_spec (ws := .code y M.1 M.2.2.1 M.2.2.2.1 :: TBg) B.pre
  have hown : s.vm.findClass y.cls = some m'.cls := findClass_of_methodNamed B.named
  have hnm : meth.name = y.name := (name_of_methodNamed B.named B.method).1
  have hl := lv_entry (args.map (cv (ad N0 xa))) (n := M.2.2.1) (by rw [sl_len]; exact hlen)
  rw [lg_entry_eq]
  refine hw p l e s m' _ below meth c D ca N0 xa ⟨B.exec, B.bytes, hml, B.returns, B.notSynchronized, by rw [ho]; exact hown, fun w hw => hts w (List.mem_cons_of_mem _ hw), hK, hN, by omega, hX, fun q => hnm.trans (hi q)⟩ s.heap [] _ hn hsz hP va_S.rf ?_
  refine ⟨hl.1, hl.2.1, fun q hq => hl.2.2 q ?_⟩
  obtain ⟨i, w⟩ := q
  obtain ⟨v, hv, e⟩ := asc_mem.mp hq
  rw [← hL] at hv
  have h1 := loc0_in args 0 i v (pad_none hv)
  rw [Nat.zero_add] at h1
  rw [args_cv]
  exact List.mem_map.mpr ⟨(i, v), h1, by rw [e]⟩
theorem ct_mono {y : MethodName} {M : MX} {args : List Value} {n : Nat} {h : AH} {post post' : Option Value → Nat → AH → Prop} (hp : ∀ r n' h', post r n' h' → post' r n' h') (hw : Ct y M args n h post) : Ct y M args n h post' := by
  intro l D ca N0 xa
  have h1 := hw l D ca N0 xa
  have h2 : ∀ a st o t, QB D ca N0 xa post a st o t → QB D ca N0 xa post' a st o t := by
    rintro a st o t ⟨⟨r, n', h', e1, e2, e3⟩, hF⟩
    exact ⟨⟨r, n', h', e1, hp _ _ _ e2, e3⟩, hF⟩
  intro p e a1 a2 a3 s m args2 below a4 a5 a6 a7
  obtain ⟨n1, o, b1, b2, b3, b4⟩ := h1 p e a1 a2 a3 s m args2 below a4 a5 a6 a7
  exact ⟨n1, o, b1, b2, b3, h2 _ _ _ _ b4.1, b4.2⟩
theorem wp_mono {M : MX} {pc n k z : Nat} {L : List (Option Value)} {S : List Value} {h : AH} {post post' : Option Value → Nat → AH → Prop} (hp : ∀ r n' h', post r n' h' → post' r n' h') (hw : Wp M pc L S n h k z post) : Wp M pc L S n h k z post' := by
  intro p l e s m args below meth c D ca N0 xa C H locs ls hn hz hP hS hl T hT X
  obtain ⟨t, st, o, s1, s2, ⟨⟨r, n', h', e1, e2, e3⟩, hF⟩, r2⟩ := hw p l e s m args below meth c D ca N0 xa C H locs ls hn hz hP hS hl T hT X
  exact ⟨t, st, o, s1, s2, ⟨⟨r, n', h', e1, hp _ _ _ e2, e3⟩, hF⟩, r2⟩
theorem bi_call {p : Program} {l : Launch} {e : Env} {R : Room} {s : State} {m : MethodId} {args : Array Value} {below : List Frame} {meth : Method} {c : Code} {H : Heap} {locs : List Loc} {cells slots : Nat} {Q : State → Prop} {pc : Nat} {ls : Array Slot} {rest st0 : List Value} {a : Array Value} {mc ms : Nat} {D : va_G} {ca : Nat → ClassId} {N0 : Nat} {xa : Nat → Nat} {post : Option Value → Nat → AH → Prop}
    (hr : va_Run p l e R s m args below meth c H locs cells slots mc ms (F0 m pc ls st0) rest (QB D ca N0 xa post a) (fun q => N0 ≤ q)) (hS : va_S (fun q => N0 ≤ q) s.heap H locs)
    (kk : ∀ (r : Option Value) (n : Nat) (h : AH) (H1 : Heap) (locs1 : List Loc), post r n h → n ≤ 1000000 → N0 + n = H1.size → va_P D vwCl (wd N0 xa ca n h) H1 → va_S (fun q => N0 ≤ q) s.heap H1 locs1 → W p l e R s m args below meth c H1 locs1 (cells + mc) (slots + ms) Q (F0 m (pc + 3) ls ((r.map (cv (ad N0 xa))).toList ++ rest))) : W p l e R s m args below meth c H locs cells slots Q (F0 m pc ls st0) := by
  intro T hT X
  obtain ⟨v, st₀, t, T', L, h0, X', hL, e1, e2, ⟨⟨r, n, h, hv, hp, hz, hn, hP⟩, hF1, hF2⟩, st⟩ := hr T hT X
  cases hv
  rw [h0] at hF1 hF2
  obtain ⟨t2, a1, b1⟩ := kk r n h T'.heap (locs ++ L) hp hn (by rw [e1]; exact hz) (by rw [e1]; exact hP)
    ⟨Nat.le_trans hS.1 (by rw [e1]; exact hF1), fun q h1 h2 => by rw [e1, hF2 q (Nat.lt_of_lt_of_le h1 hS.1) h2]; exact hS.2.1 q h1 h2, fun q hq => by
      rcases List.mem_append.mp hq with h | h
      · exact hS.2.2 q h
      · exact hL q h⟩ T' rfl X'
  exact ⟨t2, st t2 a1, b1⟩
def MOk (y : MethodName) (M : MX) (np : Nat) : Prop := Cond.code y M.1 M.2.2.1 M.2.2.2.1 ∈ TBg ∧ Cond.initialized y.cls ∈ TBg ∧ y.cls ≠ "java/lang/invoke/MethodHandle" ∧ y.cls ≠ "java/lang/invoke/VarHandle" ∧ (parseMethodDescriptor y.desc).map (fun d => d.parameters.length) = some np
def MOkV (y : MethodName) (M : MX) (np : Nat) : Prop := MOk y M np ∧ Cond.instanceMethod y ∈ TBg ∧ Cond.selects y.cls y y ∈ TBg
def MOkS (y : MethodName) (M : MX) (np : Nat) : Prop := MOk y M np ∧ Cond.static y ∈ TBg
def MOkI (y : MethodName) (M : MX) (np : Nat) : Prop := MOk y M np ∧ Cond.instanceMethod y ∈ TBg ∧ y.name = "<init>" ∧ M.2.2.2.1 = none
theorem good_tb {w : Cond} (h : w ∈ TBg) : w ∈ TBg ∧ ((w.onTables && w.keeps) = true ∨ ∃ ty, w = .arrayClass ty) := ⟨h, good_of_word (tb_good w h)⟩
theorem good_ws {w0 : Cond} (h : w0 ∈ TBg) : GoodIn TBg (w0 :: TBg) := by
  intro w hw
  rcases List.mem_cons.mp hw with rfl | hw
  · exact good_tb h
  · exact good_tb hw
theorem Nst.warm {s U : State} (hW : s.WarmedH U.vm) (h : Nst s) : Nst U := fun q hq => (h q hq).warmM hW
theorem Nst.same {s U : State} (hv : s.vm = U.vm) (h : Nst s) : Nst U := fun q hq => va_Nw.same rfl hv (h q hq)
theorem pre_warm {D : va_G} {ca : Nat → ClassId} {N0 : Nat} {xa : Nat → Nat} {n : Nat} {h : AH} {s U : State} {H : Heap} {locs : List Loc} (hU : U.heap = H) (hW : s.WarmedH U.vm) (hz : N0 + n = H.size) (hn : n ≤ 1000000) (hP : va_P D vwCl (wd N0 xa ca n h) H) (hK : va_K D vwCl (tysL ca) s) (hN : Nst s) (hX : Xt N0 xa s s.heap) (hS : va_S (fun q => N0 ≤ q) s.heap H locs) : PreU D ca N0 xa n h U := by
  subst hU
  exact ⟨hz, hn, hP, va_K.moved hW.alike hK, hN.warm hW, (hX.kept hS.2.1).warm hW⟩
theorem pre_blind {D : va_G} {ca : Nat → ClassId} {N0 : Nat} {xa : Nat → Nat} {n : Nat} {h : AH} {av : List Value} : FrameBlind (va_Pc av (PreU D ca N0 xa n h)) := by
  rintro a U g mk ⟨e, h1, h2, h3, h4, h5, h6⟩
  exact ⟨e, h1, h2, h3, va_K.moved (u := U) (U := U.calling g mk a) (Vm.Alike.refl U.vm) h4, h5.same rfl, h6.same rfl⟩
section WPC
variable {M : MX} {pc n k z : Nat} {L : List (Option Value)} {S : List Value} {h : AH} {post : Option Value → Nat → AH → Prop}
theorem x_callS {y : MethodName} {M' : MX} {np i0 : Nat} {As rest : List Value} {post' : Option Value → Nat → AH → Prop} (hd : decode M.1 pc = .ok (.invokestatic i0, 3)) {q : Nat} (hq : pc + 3 = q) (ok : MOkS y M' np) (hl0 : Cond.methodLink M.2.1 i0 y ∈ TBg) (hct : Ct y M' As n h post') (hn0 : As.length = np) (hst : S = As.reverse ++ rest) (hW : (rest.map fun v => v.category).sum ≤ 8) (hR : M'.2.2.2.2.1.frames + 1 ≤ M.2.2.2.2.1.frames ∧ 8 + (M'.2.2.1 + 11) + M'.2.2.2.2.1.locals ≤ M.2.2.2.2.1.locals) (hC : k + M'.2.2.2.2.1.cells ≤ M.2.2.2.2.1.cells ∧ z + M'.2.2.2.2.1.slots ≤ M.2.2.2.2.1.slots)
    (kk : ∀ (r : Option Value) (n' : Nat) (h' : AH), post' r n' h' → Wp M q L (r.toList ++ rest) n' h' (k + M'.2.2.2.2.1.cells) (z + M'.2.2.2.2.1.slots) post) : Wp M pc L S n h k z post := by
  subst hq
  subst hst
  intro p l e s m args below meth c D ca N0 xa C H locs ls hn hz hP hS hl
  obtain ⟨⟨o1, o2, o3⟩, o4⟩ := ok
  have hts := C.2.2.2.2.2.2.1
  refine bi_call (va_runS (As := As.map (cv (ad N0 xa))) (rest := rest.map (cv (ad N0 xa))) ⟨C.1, C.2.1, C.2.2.1, C.2.2.2.2.2.1, hts⟩ (hct l D ca N0 xa) ⟨callB_of np hts (good_ws o1) rfl rfl rfl (hts _ o2) (hts _ hl0) o3 hR, hts _ o4⟩ ⟨pre_blind, fun U hU hW => ⟨rfl, pre_warm hU hW hz hn hP C.2.2.2.2.2.2.2.1 C.2.2.2.2.2.2.2.2.1 C.2.2.2.2.2.2.2.2.2.2.1 hS⟩⟩ rfl (by simpa using hn0) hl.1 (by simp) (by rw [cv_sum]; exact lv_room (m := m) (pc := pc) (ls := ls) (rest := []) hW) hd hC) hS (fun r n' h' H1 locs1 hp hn1 hz1 hP1 hS1 => ?_)
  have hk := kk r n' h' hp p l e s m args below meth c D ca N0 xa C H1 locs1 ls hn1 hz1 hP1 hS1 hl
  have e9 : (r.map (cv (ad N0 xa))).toList ++ rest.map (cv (ad N0 xa)) = (r.toList ++ rest).map (cv (ad N0 xa)) := by cases r <;> rfl
  rw [e9]
  exact hk
theorem x_callV {y : MethodName} {M' : MX} {np i0 a ci : Nat} {fs : List Value} {As rest : List Value} {post' : Option Value → Nat → AH → Prop} (hd : decode M.1 pc = .ok (.invokevirtual i0, 3)) {q : Nat} (hq : pc + 3 = q) (ok : MOkV y M' np) (hl0 : Cond.methodLink M.2.1 i0 y ∈ TBg) (hct : Ct y M' (.ref a :: As) n h post') (ha : h a = cO ci fs) (han : a < n) {T : u_T} {N : Nat} (hcl : vwCl[ci]? = some (y.cls, T, N)) (hn0 : As.length = np) (hst : S = As.reverse ++ .ref a :: rest) (hW : (rest.map fun v => v.category).sum ≤ 8) (hR : M'.2.2.2.2.1.frames + 1 ≤ M.2.2.2.2.1.frames ∧ 8 + (M'.2.2.1 + 11) + M'.2.2.2.2.1.locals ≤ M.2.2.2.2.1.locals) (hC : k + M'.2.2.2.2.1.cells ≤ M.2.2.2.2.1.cells ∧ z + M'.2.2.2.2.1.slots ≤ M.2.2.2.2.1.slots)
    (kk : ∀ (r : Option Value) (n' : Nat) (h' : AH), post' r n' h' → Wp M q L (r.toList ++ rest) n' h' (k + M'.2.2.2.2.1.cells) (z + M'.2.2.2.2.1.slots) post) : Wp M pc L S n h k z post := by
  subst hq
  subst hst
  intro p l e s m args below meth c D ca N0 xa C H locs ls hn hz hP hS hl
  obtain ⟨⟨o1, o2, o3⟩, o4, o5⟩ := ok
  have hts := C.2.2.2.2.2.2.1
  have he : (wd N0 xa ca n h)[a]? = some (N0 + a, .inr (ci, fs.map (cv (ad N0 xa)))) := by rw [wd_at han, ha]; rfl
  have e0 : cv (ad N0 xa) (.ref a) = .ref (N0 + a) := cv_ref (Nat.lt_of_lt_of_le han hn)
  have hM := hct l D ca N0 xa
  rw [List.map_cons, e0] at hM
  refine bi_call (va_runV (C := y.cls) (b := N0 + a) (As := As.map (cv (ad N0 xa))) (rest := rest.map (cv (ad N0 xa))) ⟨C.1, C.2.1, C.2.2.1, C.2.2.2.2.2.1, hts⟩ hM ⟨callB_of np hts (good_ws o1) rfl rfl rfl (hts _ o2) (hts _ hl0) o3 hR, hts _ o4, hts _ o5⟩ ⟨pre_blind, va_recv C.2.2.2.2.2.2.2.1 hP hcl he, fun U hU hW => ⟨rfl, pre_warm hU hW hz hn hP C.2.2.2.2.2.2.2.1 C.2.2.2.2.2.2.2.2.1 C.2.2.2.2.2.2.2.2.2.2.1 hS⟩⟩ rfl (by simpa using hn0) hl.1 (by simp [e0]) (by rw [cv_sum]; exact lv_room (m := m) (pc := pc) (ls := ls) (rest := []) hW) hd hC) hS (fun r n' h' H1 locs1 hp hn1 hz1 hP1 hS1 => ?_)
  have hk := kk r n' h' hp p l e s m args below meth c D ca N0 xa C H1 locs1 ls hn1 hz1 hP1 hS1 hl
  have e9 : (r.map (cv (ad N0 xa))).toList ++ rest.map (cv (ad N0 xa)) = (r.toList ++ rest).map (cv (ad N0 xa)) := by cases r <;> rfl
  rw [e9]
  exact hk
theorem x_min {i0 : Nat} {x y : Int32} (hd : decode M.1 pc = .ok (.invokestatic i0, 3)) {q : Nat} (hq : pc + 3 = q) (hl0 : Cond.methodLink M.2.1 i0 Lib.Math.min.name ∈ TBg) (hs0 : Cond.static Lib.Math.min.name ∈ TBg) (hi0 : Cond.initialized "java/lang/Math" ∈ TBg) (hc0 : Cond.code Lib.Math.min.name Lib.Math.min.code 2 (some .int) ∈ TBg) (hfr : 1 ≤ M.2.2.2.2.1.frames) (hlo : (S.map fun v => v.category).sum + 13 ≤ M.2.2.2.2.1.locals) (hk : k ≤ M.2.2.2.2.1.cells) (hkz : z ≤ M.2.2.2.2.1.slots) (kk : Wp M q L (.int (if y < x then y else x) :: S) n h k z post) : Wp M pc L (.int y :: .int x :: S) n h k z post := by
  subst hq
  intro p l e s m args below meth c D ca N0 xa C H locs ls hn hz hP hS hl
  have hts := C.2.2.2.2.2.2.1
  exact va_mmin C.1 C.2.1 (C.2.2.1.trans hl.1.symm) C.2.2.2.2.2.1 (hts _ hl0) (hts _ hs0) (hts _ hi0) (hts _ hc0) hfr (by rw [cv_sum]; exact hlo) hk hkz hd (kk p l e s m args below meth c D ca N0 xa C H locs ls hn hz hP hS hl)
theorem x_max {i0 : Nat} {x y : Int32} (hd : decode M.1 pc = .ok (.invokestatic i0, 3)) {q : Nat} (hq : pc + 3 = q) (hl0 : Cond.methodLink M.2.1 i0 Lib.Math.max.name ∈ TBg) (hs0 : Cond.static Lib.Math.max.name ∈ TBg) (hi0 : Cond.initialized "java/lang/Math" ∈ TBg) (hc0 : Cond.code Lib.Math.max.name Lib.Math.max.code 2 (some .int) ∈ TBg) (hfr : 1 ≤ M.2.2.2.2.1.frames) (hlo : (S.map fun v => v.category).sum + 13 ≤ M.2.2.2.2.1.locals) (hk : k ≤ M.2.2.2.2.1.cells) (hkz : z ≤ M.2.2.2.2.1.slots) (kk : Wp M q L (.int (if x < y then y else x) :: S) n h k z post) : Wp M pc L (.int y :: .int x :: S) n h k z post := by
  subst hq
  intro p l e s m args below meth c D ca N0 xa C H locs ls hn hz hP hS hl
  have hts := C.2.2.2.2.2.2.1
  exact va_mmax C.1 C.2.1 (C.2.2.1.trans hl.1.symm) C.2.2.2.2.2.1 (hts _ hl0) (hts _ hs0) (hts _ hi0) (hts _ hc0) hfr (by rw [cv_sum]; exact hlo) hk hkz hd (kk p l e s m args below meth c D ca N0 xa C H locs ls hn hz hP hS hl)
theorem x_abs {i0 : Nat} {x : Int32} (hd : decode M.1 pc = .ok (.invokestatic i0, 3)) {q : Nat} (hq : pc + 3 = q) (hl0 : Cond.methodLink M.2.1 i0 Lib.Math.abs.name ∈ TBg) (hs0 : Cond.static Lib.Math.abs.name ∈ TBg) (hi0 : Cond.initialized "java/lang/Math" ∈ TBg) (hc0 : Cond.code Lib.Math.abs.name Lib.Math.abs.code 1 (some .int) ∈ TBg) (hfr : 1 ≤ M.2.2.2.2.1.frames) (hlo : (S.map fun v => v.category).sum + 13 ≤ M.2.2.2.2.1.locals) (hk : k ≤ M.2.2.2.2.1.cells) (hkz : z ≤ M.2.2.2.2.1.slots) (kk : Wp M q L (.int (if 0 ≤ x then x else 0 - x) :: S) n h k z post) : Wp M pc L (.int x :: S) n h k z post := by
  subst hq
  intro p l e s m args below meth c D ca N0 xa C H locs ls hn hz hP hS hl
  have hts := C.2.2.2.2.2.2.1
  exact va_mabs C.1 C.2.1 (C.2.2.1.trans hl.1.symm) C.2.2.2.2.2.1 (hts _ hl0) (hts _ hs0) (hts _ hi0) (hts _ hc0) hfr (by rw [cv_sum]; exact hlo) hk hkz hd (kk p l e s m args below meth c D ca N0 xa C H locs ls hn hz hP hS hl)
end WPC
