theorem arrVx {cA : ClassId} {N : Nat} {f g : Nat → Value} (h : ∀ j, j < N → f j = g j) : arrV cA N f = arrV cA N g := by
  unfold arrV
  congr 1
  apply Array.ext
  · simp
  · intro i h1 h2
    have hi : i < N := by simpa using h1
    simpa using h i hi
theorem mn_arr (cA : ClassId) (z : Nat) : (((mnO cA).setSlot 0 (.ref (z + 1))).setSlot 1 (.ref (z + 2))).setSlot 2 (.ref (z + 3)) = arrV cA 3 (fun j => if j < 3 then .ref (z + 1 + j) else .null) := by
  have e0 : mnO cA = arrV cA 3 (fun _ => .null) := arrV_new cA 3 .null
  rw [e0, arrV_store, arrV_store, arrV_store]
  refine arrVx (fun j hj => ?_)
  have : j = 0 ∨ j = 1 ∨ j = 2 := by omega
  rcases this with rfl | rfl | rfl <;> rfl
section MNR
variable {M : MX} {pc n k z : Nat} {L : List (Option Value)} {S : List Value} {h : AH} {post : Option Value → Nat → AH → Prop}
def mnF (n : Nat) : Nat → Option Nat := fun j => if j < 3 then some (n + 1 + j) else none
def mnH (h : AH) (n : Nat) : AH := hup (hup (hup (hup h n (cR 6 3 (mnF n))) (n + 1) (cI 0 75 (fun _ => 0))) (n + 2) (cI 0 75 (fun _ => 0))) (n + 3) (cI 0 75 (fun _ => 0))
theorem x_mnew {i0 : Nat} (hd : decode M.1 pc = .ok (.multianewarray i0 2, 4)) {q : Nat} (hq : pc + 4 = q) (hw : Cond.classLink M.2.1 i0 "[[I" ∈ TBg) {n2 : Nat} (hn2 : n + 4 = n2) (hb : n2 ≤ 1000000) (hk : k + 4 ≤ M.2.2.2.2.1.cells) (hkz : z + 228 ≤ M.2.2.2.2.1.slots) (kk : Wp M q L (.ref n :: S) n2 (mnH h n) (k + 4) (z + 228) post) : Wp M pc L (.int 75 :: .int 3 :: S) n h k z post := by
  subst hn2
  subst hq
  intro p l e s m args below meth c D ca N0 xa C H locs ls hn hz hP hS hl
  have hts := C.2.2.2.2.2.2.1
  obtain ⟨comp, cA, kA, f1, f2, f3, f4⟩ := C.2.2.2.2.2.2.2.2.2.2.1.2.2.2.2.2.2.2.2
  obtain ⟨comp2, kC, cc, g1, g2, g3⟩ := Cond.arrayClass_spec (hts _ tw_153)
  obtain rfl : comp2 = comp := Option.some.inj (g1.symm.trans f1)
  have c6 : ca 6 = cA := Option.some.inj (Eq.trans (Eq.symm (show s.vm.findClass ("[" ++ (FieldType.array .int).toString) = some (ca 6) from (C.2.2.2.2.2.2.2.1.2 6 (ca 6, .array .int) rfl).2)) f4)
  have c0 : ca 0 = comp2 := Option.some.inj (Eq.trans (Eq.symm (show s.vm.findClass (FieldType.array .int).toString = some (ca 0) from (C.2.2.2.2.2.2.2.1.2 0 (ca 0, .int) rfl).2)) f1)
  intro T hT X
  have hpl : e.platform.magicAccessors = ({} : Platform).magicAccessors := by rw [X.admits.platform]
  obtain ⟨d0, hd0, hcl⟩ := Cond.classLink_spec C.2.2.2.2.2.1 (hts _ hw) e.platform hpl
  obtain rfl : d0 = cA := Option.some.inj (hd0.symm.trans f4)
  obtain ⟨hg1, hwarm, hready⟩ := State.classEntry (e := e) X.warmed hcl
  generalize T.vm.noted m.cls i0 (.cls d0) = vm1 at hg1 hwarm hready
  have hal : s.vm.Alike vm1 := hwarm.alike
  obtain ⟨kA1, hkA1, heA⟩ := hal.2.2 _ _ f2
  obtain ⟨kC1, hkC1, heC⟩ := hal.2.2 _ _ g2
  have hA1 : kA1.kind = .array comp2 (.array .int) := by rw [heA]; exact f3
  have hC1 : kC1.kind = .array cc .int := by rw [heC]; exact g3
  have X1 := X.noted hwarm
  obtain ⟨r1, r2⟩ := X.roomAbove hk hkz
  have X3 := mn_stand X1 d0 comp2
  have zT : (T.setVm vm1).heap.size = N0 + n := by show T.heap.size = _; rw [hT]; exact hz.symm
  have hsz : (mn3 d0 comp2 (T.setVm vm1)).heap.size = N0 + (n + 4) := by rw [(mn_sz d0 comp2 _).2.2, zT]; exact Nat.add_assoc _ _ _
  obtain ⟨w0, w1, w2, w3⟩ := mn_new d0 comp2 (T.setVm vm1)
  rw [zT] at w0 w1 w2 w3
  have hP1 : va_P D vwCl (wd N0 xa ca (n + 4) (mnH h n)) (mn3 d0 comp2 (T.setVm vm1)).heap := by
    have old : ∀ q : Nat, q < H.size → (mn3 d0 comp2 (T.setVm vm1)).heap[q]? = H[q]? := fun q hq => by
      have hq2 : q < (T.setVm vm1).heap.size := by show q < T.heap.size; rw [hT]; exact hq
      rw [mn_old d0 comp2 _ hq2]
      show T.heap[q]? = _
      rw [hT]
    intro i x hx
    obtain ⟨hi, rfl⟩ := wd_lt hx
    by_cases e3 : i = n + 3
    · subst e3
      have : mnH h n (n + 3) = cI 0 75 (fun _ => 0) := hup_self
      rw [this]
      show _[N0 + (n + 3)]? = some (vp_cell (ca 0) (75, .inl (fun _ => 0)))
      rw [← Nat.add_assoc, w3, c0, vp_cell_i]
      exact congrArg some (arrV_new comp2 75 (.int 0))
    by_cases e2 : i = n + 2
    · subst e2
      have : mnH h n (n + 2) = cI 0 75 (fun _ => 0) := by unfold mnH; rw [hup_ne (by omega), hup_self]
      rw [this]
      show _[N0 + (n + 2)]? = some (vp_cell (ca 0) (75, .inl (fun _ => 0)))
      rw [← Nat.add_assoc, w2, c0, vp_cell_i]
      exact congrArg some (arrV_new comp2 75 (.int 0))
    by_cases e1 : i = n + 1
    · subst e1
      have : mnH h n (n + 1) = cI 0 75 (fun _ => 0) := by unfold mnH; rw [hup_ne (by omega), hup_ne (by omega), hup_self]
      rw [this]
      show _[N0 + (n + 1)]? = some (vp_cell (ca 0) (75, .inl (fun _ => 0)))
      rw [← Nat.add_assoc, w1, c0, vp_cell_i]
      exact congrArg some (arrV_new comp2 75 (.int 0))
    by_cases e0 : i = n
    · subst e0
      have : mnH h i i = cR 6 3 (mnF i) := by unfold mnH; rw [hup_ne (by omega), hup_ne (by omega), hup_ne (by omega), hup_self]
      rw [this]
      show _[N0 + i]? = some (vp_cell (ca 6) (3, .inr (.inr (.inr (.inr (fun j => (mnF i j).map (ad N0 xa)))))))
      rw [w0, c6, vp_cell_q, mn_arr]
      refine congrArg some (arrVx (fun j hj => ?_))
      unfold mnF
      rw [if_pos hj, if_pos hj]
      show _ = Value.ref (ad N0 xa (i + 1 + j))
      rw [ad_lt (by omega)]
      have e5 : N0 + i + 1 + j = N0 + (i + 1 + j) := by omega
      rw [e5]
    · have hlt : i < n := by omega
      have : mnH h n i = h i := by unfold mnH; rw [hup_ne (by omega), hup_ne (by omega), hup_ne (by omega), hup_ne (by omega)]
      rw [this]
      have hx2 := wd_at (N0 := N0) (xa := xa) (ca := ca) (h := h) hlt
      exact (hP i _ hx2).kept (old _ ((hP i _ hx2).lt))
  have hS1 : va_S (fun q => N0 ≤ q) s.heap (mn3 d0 comp2 (T.setVm vm1)).heap (locs ++ [⟨(T.setVm vm1).heap.size, 0⟩] ++ [⟨(T.setVm vm1).heap.size, 1⟩] ++ [⟨(T.setVm vm1).heap.size, 2⟩]) := by
    refine ⟨Nat.le_trans hS.1 (by rw [hsz, ← hz]; omega), fun x h1 h2 => ?_, fun q hq => ?_⟩
    · have hx2 : x < (T.setVm vm1).heap.size := by show x < T.heap.size; rw [hT]; exact Nat.lt_of_lt_of_le h1 hS.1
      rw [mn_old d0 comp2 _ hx2]
      show T.heap[x]? = _
      rw [hT]
      exact hS.2.1 x h1 h2
    · have zz : N0 ≤ (T.setVm vm1).heap.size := by rw [zT]; omega
      simp only [List.mem_append, List.mem_singleton] at hq
      rcases hq with ((hq | rfl) | rfl) | rfl
      · exact hS.2.2 q hq
      · exact zz
      · exact zz
      · exact zz
  have hg : F0 m (pc + 4) ls ((Value.ref n :: S).map (cv (ad N0 xa))) = F0 m (pc + 4) ls (.ref T.heap.size :: S.map (cv (ad N0 xa))) := by
    rw [List.map_cons, cv_ref (show n < 1000000 by omega), hz, hT]
  have k1 := kk p l e s m args below meth c D ca N0 xa C (mn3 d0 comp2 (T.setVm vm1)).heap _ ls hb hsz.symm hP1 hS1 hl
  rw [hg] at k1
  obtain ⟨t, a1, b1⟩ := k1 (mn3 d0 comp2 (T.setVm vm1)) rfl X3
  refine ⟨t, ?_, b1⟩
  have l1 : ¬ 75 > e.platform.arrayLengthLimit := by rw [Launch.admits_arrayLengthLimit X.admits]; omega
  have l2 : ¬ 75 * componentBytes .int > e.platform.maxHeapBytes := by rw [Launch.admits_maxHeapBytes X.admits]; decide
  have l3 : ¬ 3 > e.platform.arrayLengthLimit := by rw [Launch.admits_arrayLengthLimit X.admits]; omega
  have l4 : ¬ 3 * componentBytes (.array .int) > e.platform.maxHeapBytes := by rw [Launch.admits_maxHeapBytes X.admits]; decide
  have hdd : decode c.code pc = .ok (.multianewarray i0 2, 4) := by rw [C.2.1]; exact hd
  obtain ⟨g, hgd⟩ : ∃ g : JFrame, g = F0 m pc ls (.int 75 :: .int 3 :: S.map (cv (ad N0 xa))) := ⟨_, rfl⟩
  have hgm : g.method = m := by rw [hgd]
  have hgs : g.stack = .int 75 :: .int 3 :: S.map (cv (ad N0 xa)) := by rw [hgd]
  show Steps p.tables e below (T.setTop (F0 m pc ls (.int 75 :: .int 3 :: S.map (cv (ad N0 xa))))) t
  jvm_step X.here [C.1, hdd]
  simp only [multianewarray.sem, wp_bind', W.resolveClassAt_links (mm := m) (index := i0) (c := d0) (vm' := vm1) (t := T.setTop (F0 m pc ls (.int 75 :: .int 3 :: S.map (cv (ad N0 xa))))) (State.method?_setTop _ X.here.top) hg1]
  rw [W.popN, if_neg (by decide)]
  refine ⟨F0 m pc ls (.int 75 :: .int 3 :: S.map (cv (ad N0 xa))), State.topJava?_setTop' (s := T.setVm vm1) _ X.here.top, [.int 3, .int 75], S.map (cv (ad N0 xa)), rfl, rfl, ?_⟩
  simp only [List.mapM_cons, List.mapM_nil, wp_bind', wp_pure']
  refine mk_out (kA := kA1) (kC := kC1) (comp := comp2) (cc := cc) hkA1 hA1 hkC1 hC1 l1 l2 l3 l4 (by show T.heap.size + 4 ≤ _; exact r1) (by show T.slotsUsed + 228 ≤ _; exact r2) (fun d' acts' => ?_)
  have eS : ((T.setTop (F0 m pc ls (.int 75 :: .int 3 :: S.map (cv (ad N0 xa))))).setVm vm1).setTop { F0 m pc ls (.int 75 :: .int 3 :: S.map (cv (ad N0 xa))) with stack := S.map (cv (ad N0 xa)) } = (T.setVm vm1).setTop { F0 m pc ls (.int 75 :: .int 3 :: S.map (cv (ad N0 xa))) with stack := S.map (cv (ad N0 xa)) } := by
    show ((T.setVm vm1).setTop _).setTop _ = _
    rw [State.setTop_setTop]
  rw [eS, mn_top]
  simp only [wp_bind', W.mark, W.pushRef, State.topJava?_setTop' _ X3.here.top, Option.some.injEq, exists_eq_left', State.setTop_setTop, State.heap_setTop]
  intro acts
  simp [jvm, X3.here.top]
  exact a1
end MNR
