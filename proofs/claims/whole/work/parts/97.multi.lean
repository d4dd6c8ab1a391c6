/-! new int[3][75]: one row of rows and three rows, by hand -/
def mnI (comp : ClassId) : Cell := { cls := comp, slots := Array.replicate 75 (.int 0) }
def mnO (c : ClassId) : Cell := { cls := c, slots := Array.replicate 3 .null }
def mn1 (c comp : ClassId) (U : State) : State := ((U.pushCell (mnO c)).pushCell (mnI comp)).setCell U.heap.size ((mnO c).setSlot 0 (.ref (U.heap.size + 1)))
def mn2 (c comp : ClassId) (U : State) : State := ((mn1 c comp U).pushCell (mnI comp)).setCell U.heap.size (((mnO c).setSlot 0 (.ref (U.heap.size + 1))).setSlot 1 (.ref (U.heap.size + 2)))
def mn3 (c comp : ClassId) (U : State) : State := ((mn2 c comp U).pushCell (mnI comp)).setCell U.heap.size ((((mnO c).setSlot 0 (.ref (U.heap.size + 1))).setSlot 1 (.ref (U.heap.size + 2))).setSlot 2 (.ref (U.heap.size + 3)))
theorem szs (U : State) (a : Nat) (c : Cell) : (U.setCell a c).heap.size = U.heap.size := by simp [State.setCell]
theorem szp (U : State) (c : Cell) : (U.pushCell c).heap.size = U.heap.size + 1 := by simp [State.pushCell]
theorem mn_sz (c comp : ClassId) (U : State) : (mn1 c comp U).heap.size = U.heap.size + 2 ∧ (mn2 c comp U).heap.size = U.heap.size + 3 ∧ (mn3 c comp U).heap.size = U.heap.size + 4 := by
  have e1 : (mn1 c comp U).heap.size = U.heap.size + 2 := by unfold mn1; rw [szs, szp, szp]
  have e2 : (mn2 c comp U).heap.size = U.heap.size + 3 := by unfold mn2; rw [szs, szp, e1]
  exact ⟨e1, e2, by unfold mn3; rw [szs, szp, e2]⟩
theorem hpl {U : State} {c : Cell} {q : Nat} (h : q < U.heap.size) : (U.pushCell c).heap[q]? = U.heap[q]? := State.heap_pushCell_of_lt _ _ h
theorem hps (U : State) (c : Cell) {q : Nat} (h : U.heap.size = q) : (U.pushCell c).heap[q]? = some c := by
  subst h; exact State.heap_pushCell_size _ _
theorem hso {U : State} {c : Cell} {a q : Nat} (h : a ≠ q) : (U.setCell a c).heap[q]? = U.heap[q]? := State.heap_setCell_other h
theorem mn_c0 (c comp : ClassId) (U : State) : ((U.pushCell (mnO c)).pushCell (mnI comp)).heap[U.heap.size]? = some (mnO c) := by
  have h0 : U.heap.size < (U.pushCell (mnO c)).heap.size := by rw [szp]; exact Nat.lt_succ_self _
  rw [hpl h0]
  exact hps _ _ rfl
theorem mn_c1 (c comp : ClassId) (U : State) : ((mn1 c comp U).pushCell (mnI comp)).heap[U.heap.size]? = some ((mnO c).setSlot 0 (.ref (U.heap.size + 1))) := by
  have h0 : U.heap.size < (mn1 c comp U).heap.size := by rw [(mn_sz c comp U).1]; exact Nat.lt_add_of_pos_right (by decide)
  rw [hpl h0]
  exact State.heap_setCell_self (mn_c0 c comp U)
theorem mn_c2 (c comp : ClassId) (U : State) : ((mn2 c comp U).pushCell (mnI comp)).heap[U.heap.size]? = some (((mnO c).setSlot 0 (.ref (U.heap.size + 1))).setSlot 1 (.ref (U.heap.size + 2))) := by
  have h0 : U.heap.size < (mn2 c comp U).heap.size := by rw [(mn_sz c comp U).2.1]; exact Nat.lt_add_of_pos_right (by decide)
  rw [hpl h0]
  exact State.heap_setCell_self (mn_c1 c comp U)
theorem mn_at (c comp : ClassId) (U : State) {q : Nat} (hne : U.heap.size ≠ q) : (q < U.heap.size → (mn1 c comp U).heap[q]? = U.heap[q]?) ∧ (q < U.heap.size + 2 → (mn2 c comp U).heap[q]? = (mn1 c comp U).heap[q]?) ∧ (q < U.heap.size + 3 → (mn3 c comp U).heap[q]? = (mn2 c comp U).heap[q]?) := by
  have s1 := (mn_sz c comp U).1
  have s2 := (mn_sz c comp U).2.1
  have s0 := szp U (mnO c)
  refine ⟨fun h => ?_, fun h => ?_, fun h => ?_⟩
  · have h0 : q < (U.pushCell (mnO c)).heap.size := by rw [s0]; exact Nat.lt_succ_of_lt h
    unfold mn1
    rw [hso hne, hpl h0, hpl h]
  · have h0 : q < (mn1 c comp U).heap.size := by rw [s1]; exact h
    unfold mn2
    rw [hso hne, hpl h0]
  · have h0 : q < (mn2 c comp U).heap.size := by rw [s2]; exact h
    unfold mn3
    rw [hso hne, hpl h0]
theorem mn_old (c comp : ClassId) (U : State) {q : Nat} (h : q < U.heap.size) : (mn3 c comp U).heap[q]? = U.heap[q]? := by
  have g := mn_at c comp U (Nat.ne_of_gt h)
  rw [g.2.2 (Nat.lt_add_right 3 h), g.2.1 (Nat.lt_add_right 2 h), g.1 h]
theorem mn_new (c comp : ClassId) (U : State) : (mn3 c comp U).heap[U.heap.size]? = some ((((mnO c).setSlot 0 (.ref (U.heap.size + 1))).setSlot 1 (.ref (U.heap.size + 2))).setSlot 2 (.ref (U.heap.size + 3))) ∧ (mn3 c comp U).heap[U.heap.size + 1]? = some (mnI comp) ∧ (mn3 c comp U).heap[U.heap.size + 2]? = some (mnI comp) ∧ (mn3 c comp U).heap[U.heap.size + 3]? = some (mnI comp) := by
  obtain ⟨z, hz⟩ : ∃ z : Nat, z = U.heap.size := ⟨_, rfl⟩
  have s1 := (mn_sz c comp U).1
  have s2 := (mn_sz c comp U).2.1
  have s0 := szp U (mnO c)
  have n1 : U.heap.size ≠ U.heap.size + 1 := by rw [← hz]; omega
  have n2 : U.heap.size ≠ U.heap.size + 2 := by rw [← hz]; omega
  have n3 : U.heap.size ≠ U.heap.size + 3 := by rw [← hz]; omega
  have g1 := mn_at c comp U n1
  have g2 := mn_at c comp U n2
  refine ⟨State.heap_setCell_self (mn_c2 c comp U), ?_, ?_, ?_⟩
  · rw [g1.2.2 (by rw [← hz]; omega), g1.2.1 (by rw [← hz]; omega)]
    unfold mn1
    rw [hso n1]
    exact hps _ _ s0
  · rw [g2.2.2 (by rw [← hz]; omega)]
    unfold mn2
    rw [hso n2]
    exact hps _ _ s1
  · unfold mn3
    rw [hso n3]
    exact hps _ _ s2
theorem mn_top (c comp : ClassId) (U : State) (f : JFrame) : mn3 c comp (U.setTop f) = (mn3 c comp U).setTop f := rfl
theorem mn_vm (c comp : ClassId) (U : State) : (mn1 c comp U).vm = U.vm ∧ (mn2 c comp U).vm = U.vm := ⟨rfl, rfl⟩
theorem mn_us (c comp : ClassId) (U : State) : (U.pushCell (mnO c)).slotsUsed = U.slotsUsed + 3 ∧ (mn1 c comp U).slotsUsed = U.slotsUsed + 78 ∧ (mn2 c comp U).slotsUsed = U.slotsUsed + 153 := by
  refine ⟨by simp [mnO], by simp [mn1, mnO, mnI], by simp [mn2, mn1, mnO, mnI]⟩
theorem mn_stand {p : Program} {l : Launch} {e : Env} {R : Room} {s : State} {m : MethodId} {args : Array Value} {below : List Frame} {meth : Method} {c : Code} {U : State} {locs : List Loc} {cells slots : Nat} (X : Stand p l e R s m args below meth c U locs cells slots) (cA comp : ClassId) : Stand p l e R s m args below meth c (mn3 cA comp U) (locs ++ [⟨U.heap.size, 0⟩] ++ [⟨U.heap.size, 1⟩] ++ [⟨U.heap.size, 2⟩]) (cells + 4) (slots + 228) := by
  have x0 := X.pushed (mnO cA)
  have x1 := (x0.pushed (mnI comp)).stored (mn_c0 cA comp U) 0 (.ref (U.heap.size + 1))
  have x2 := (x1.pushed (mnI comp)).stored (mn_c1 cA comp U) 1 (.ref (U.heap.size + 2))
  have x3 := (x2.pushed (mnI comp)).stored (mn_c2 cA comp U) 2 (.ref (U.heap.size + 3))
  exact x3
section MN
variable {E : CtlPost} {e : Env} {d : Bool} {acts : List Action} {U : State}
theorem mk_in {comp cc : ClassId} {kC : Class} {Q : Addr → Pre} (g2 : U.vm.classes[comp]? = some kC) (g3 : kC.kind = .array cc .int) (h1 : ¬ 75 > e.platform.arrayLengthLimit) (h2 : ¬ 75 * componentBytes .int > e.platform.maxHeapBytes) (h3 : U.heap.size < e.platform.maxCells) (h4 : U.slotsUsed + 75 ≤ e.platform.maxSlots) (hq : ∀ acts', Q U.heap.size d acts' (U.pushCell (mnI comp))) : wp (multianewarray.make comp [75]) Q E e d acts U := by
  rw [multianewarray.make]
  simp only [wp_bind', W.ite, show ¬ ((75 : Int32) < 0) by decide, if_false, wp_pure', W.theClass, g2, g3, Option.some.injEq, exists_eq_left']
  exact W.newArray_of (howMany := 75) (init := .int 0) g2 g3 h1 h2 h3 h4 rfl hq
theorem fit_r {cA comp : ClassId} {kA : Class} {c : Cell} {i a : Nat} (hk : U.vm.classes[cA]? = some kA) (hkind : kA.kind = .array comp (.array .int)) (hc : c.cls = cA) (hv : c.vm = .none) : U.fitsSlot c.cls c.vm i (.ref a) = true := by
  rw [hc, hv]
  simp [State.fitsSlot, State.slotType?, hk, hkind, fits]
theorem mk_out {cA comp cc : ClassId} {kA kC : Class} {Q : Addr → Pre} (f2 : U.vm.classes[cA]? = some kA) (f3 : kA.kind = .array comp (.array .int)) (g2 : U.vm.classes[comp]? = some kC) (g3 : kC.kind = .array cc .int) (h1 : ¬ 75 > e.platform.arrayLengthLimit) (h2 : ¬ 75 * componentBytes .int > e.platform.maxHeapBytes) (h1' : ¬ 3 > e.platform.arrayLengthLimit) (h2' : ¬ 3 * componentBytes (.array .int) > e.platform.maxHeapBytes) (h3 : U.heap.size + 4 ≤ e.platform.maxCells) (h4 : U.slotsUsed + 228 ≤ e.platform.maxSlots) (hq : ∀ d' acts', Q U.heap.size d' acts' (mn3 cA comp U)) : wp (multianewarray.make cA [3, 75]) Q E e d acts U := by
  have u := mn_us cA comp U
  have z := mn_sz cA comp U
  have z0 : (U.pushCell (mnO cA)).heap.size = U.heap.size + 1 := szp U _
  rw [multianewarray.make]
  simp only [wp_bind', W.ite, show ¬ ((3 : Int32) < 0) by decide, if_false, wp_pure', W.theClass, f2, f3, Option.some.injEq, exists_eq_left']
  refine W.newArray_of (howMany := 3) (init := .null) f2 f3 h1' h2' (by omega) (by omega) rfl (fun acts1 => ?_)
  simp only [show ((3 : Int32) == 0) = false by decide, Bool.false_eq_true, if_false, wp_bind', Std.Legacy.Range.forIn_eq_forIn_range']
  have hr : List.range' ([:(3 : Int32).toNatClampNeg] : Std.Legacy.Range).start ([:(3 : Int32).toNatClampNeg] : Std.Legacy.Range).size ([:(3 : Int32).toNatClampNeg] : Std.Legacy.Range).step = [0, 1, 2] := by decide
  show wp (forIn (List.range' 0 ([:(3 : Int32).toNatClampNeg] : Std.Legacy.Range).size 1) PUnit.unit _) _ E e d acts1 (U.pushCell (mnO cA))
  rw [show List.range' 0 ([:(3 : Int32).toNatClampNeg] : Std.Legacy.Range).size 1 = [0, 1, 2] from hr]
  simp only [List.forIn_cons, List.forIn_nil, wp_bind', wp_pure']
  refine mk_in g2 g3 h1 h2 (by omega) (by omega) (fun acts2 => ?_)
  simp only [wp_bind', W.writeLoc, wp_pure']
  refine ⟨mnO cA, mn_c0 cA comp U, by simp [mnO], by simp [mnO], fit_r f2 f3 rfl rfl, ?_⟩
  rw [z0]
  refine mk_in (U := mn1 cA comp U) g2 g3 h1 h2 (by omega) (by omega) (fun acts3 => ?_)
  simp only [wp_bind', W.writeLoc, wp_pure']
  refine ⟨_, mn_c1 cA comp U, by simp [mnO, Cell.setSlot], by simp [mnO, Cell.setSlot], fit_r f2 f3 rfl rfl, ?_⟩
  rw [z.1]
  refine mk_in (U := mn2 cA comp U) g2 g3 h1 h2 (by omega) (by omega) (fun acts4 => ?_)
  simp only [wp_bind', W.writeLoc, wp_pure']
  refine ⟨_, mn_c2 cA comp U, by simp [mnO, Cell.setSlot], by simp [mnO, Cell.setSlot], fit_r f2 f3 rfl rfl, ?_⟩
  rw [z.2.1]
  exact hq _ _
end MN
