/-! THE LOGIC: an abstract heap of numbered cells (cell i lies at N0 + i), and one judgement Wp over it -/
/-- a cell: numbers (kind, length, contents), longs, references (kind ..), an object (class, fields) -/
abbrev AC : Type := (Nat × Nat × (Nat → Int32)) ⊕ ((Nat × (Nat → Int64)) ⊕ ((Nat × Nat × (Nat → Option Nat)) ⊕ (Nat × List Value)))
abbrev cI (k n : Nat) (f : Nat → Int32) : AC := .inl (k, n, f)
abbrev cJ (n : Nat) (f : Nat → Int64) : AC := .inr (.inl (n, f))
abbrev cR (k n : Nat) (f : Nat → Option Nat) : AC := .inr (.inr (.inl (k, n, f)))
abbrev cO (ci : Nat) (fs : List Value) : AC := .inr (.inr (.inr (ci, fs)))
abbrev AH : Type := Nat → AC
def ad (N0 : Nat) (xa : Nat → Nat) (n : Nat) : Nat := if n < 1000000 then N0 + n else xa (n - 1000000)
def cv (a : Nat → Nat) (v : Value) : Value := match v with
  | .ref n => .ref (a n)
  | w => w
def cnc (a : Nat → Nat) (ca : Nat → ClassId) (c : AC) : va_E := match c with
  | .inl (k, n, f) => .inl (ca k, n, .inl f)
  | .inr (.inl (n, f)) => .inl (ca 3, n, .inr (.inl f))
  | .inr (.inr (.inl (k, n, f))) => .inl (ca k, n, .inr (.inr (.inr (.inr (fun j => (f j).map a)))))
  | .inr (.inr (.inr (ci, fs))) => .inr (ci, fs.map (cv a))
def wd (N0 : Nat) (xa : Nat → Nat) (ca : Nat → ClassId) (n : Nat) (h : AH) : va_W := (List.range n).map fun i => (N0 + i, cnc (ad N0 xa) ca (h i))
theorem wd_at {N0 : Nat} {xa : Nat → Nat} {ca : Nat → ClassId} {n i : Nat} {h : AH} (hi : i < n) : (wd N0 xa ca n h)[i]? = some (N0 + i, cnc (ad N0 xa) ca (h i)) := by
  simp [wd, hi]
theorem wd_lt {N0 : Nat} {xa : Nat → Nat} {ca : Nat → ClassId} {n i : Nat} {h : AH} {q : Nat × va_E} (hq : (wd N0 xa ca n h)[i]? = some q) : i < n ∧ q = (N0 + i, cnc (ad N0 xa) ca (h i)) := by
  have hi : i < n := by
    have := (List.getElem?_eq_some_iff.mp hq).1
    simpa [wd] using this
  refine ⟨hi, ?_⟩
  rw [wd_at hi] at hq
  exact (Option.some.inj hq).symm
theorem wd_D {N0 : Nat} {xa : Nat → Nat} {ca : Nat → ClassId} {n : Nat} {h : AH} : va_D (fun q => N0 ≤ q) (wd N0 xa ca n h) := by
  refine ⟨fun i j p q hp hq e => ?_, fun k q hq => ?_⟩
  · obtain ⟨-, rfl⟩ := wd_lt hp
    obtain ⟨-, rfl⟩ := wd_lt hq
    have e : N0 + i = N0 + j := e
    omega
  · obtain ⟨-, rfl⟩ := wd_lt hq
    exact Nat.le_add_right _ _
theorem ad_lt {N0 : Nat} {xa : Nat → Nat} {i : Nat} (h : i < 1000000) : ad N0 xa i = N0 + i := if_pos h
def hup (h : AH) (a : Nat) (c : AC) : AH := fun i => if i = a then c else h i
theorem hup_self {h : AH} {a : Nat} {c : AC} : hup h a c a = c := if_pos rfl
theorem hup_ne {h : AH} {a b : Nat} {c : AC} (hb : b ≠ a) : hup h a c b = h b := if_neg hb
theorem wd_set {N0 : Nat} {xa : Nat → Nat} {ca : Nat → ClassId} {n a : Nat} {h : AH} (c : AC) : (wd N0 xa ca n h).set a (N0 + a, cnc (ad N0 xa) ca c) = wd N0 xa ca n (hup h a c) := by
  apply List.ext_getElem?
  intro j
  by_cases hj : j < n
  · rw [List.getElem?_set, wd_at hj, wd_at hj]
    by_cases e : a = j
    · subst e
      simp [hup, wd, hj]
    · have e2 : j ≠ a := fun q => e q.symm
      simp [hup, e, e2]
  · have h1 : (wd N0 xa ca n (hup h a c))[j]? = none := List.getElem?_eq_none (by simp [wd]; omega)
    have h2 : ((wd N0 xa ca n h).set a (N0 + a, cnc (ad N0 xa) ca c))[j]? = none := List.getElem?_eq_none (by simp [wd]; omega)
    rw [h1, h2]
theorem wd_push {N0 : Nat} {xa : Nat → Nat} {ca : Nat → ClassId} {n : Nat} {h : AH} (c : AC) : wd N0 xa ca n h ++ [(N0 + n, cnc (ad N0 xa) ca c)] = wd N0 xa ca (n + 1) (hup h n c) := by
  unfold wd
  rw [List.range_succ, List.map_append]
  congr 1
  · apply List.map_congr_left
    intro i hi
    have : i < n := List.mem_range.mp hi
    rw [hup_ne (by omega)]
  · simp [hup]
theorem cv_cat (a : Nat → Nat) (v : Value) : (cv a v).category = v.category := by cases v <;> rfl
theorem cv_sum (a : Nat → Nat) (S : List Value) : (((S.map (cv a)).map fun v => v.category).sum) = ((S.map fun v => v.category).sum) := by
  rw [List.map_map]
  congr 1
  apply List.map_congr_left
  intro v _
  exact cv_cat a v
/-- the locals, by places -/
def asc (a : Nat → Nat) (L : List (Option Value)) : List (Nat × Value) := (List.range L.length).filterMap fun i => (L[i]?.join).map fun v => (i, cv a v)
theorem asc_mem {a : Nat → Nat} {L : List (Option Value)} {i : Nat} {w : Value} : (i, w) ∈ asc a L ↔ ∃ v, L[i]? = some (some v) ∧ w = cv a v := by
  unfold asc
  rw [List.mem_filterMap]
  constructor
  · rintro ⟨j, hj, e⟩
    cases hL : L[j]? with
    | none => rw [hL] at e; cases e
    | some x =>
      cases x with
      | none => rw [hL] at e; cases e
      | some v =>
        rw [hL] at e
        have e2 : (j, cv a v) = (i, w) := Option.some.inj e
        have e3 : j = i := (Prod.mk.inj e2).1
        subst e3
        exact ⟨v, hL, (Prod.mk.inj e2).2.symm⟩
  · rintro ⟨v, hv, rfl⟩
    refine ⟨i, List.mem_range.mpr (List.getElem?_eq_some_iff.mp hv).1, ?_⟩
    rw [hv]
    rfl
theorem asc_at {a : Nat → Nat} {L : List (Option Value)} {ls : Array Slot} {nL i : Nat} {v : Value} (h : lv_has ls nL (asc a L)) (hv : L[i]? = some (some v)) : ls[i]? = some (.val (cv a v)) := h.2.2 (i, cv a v) (asc_mem.mpr ⟨v, hv, rfl⟩)
theorem asc_sub {a : Nat → Nat} {L L' : List (Option Value)} {ls : Array Slot} {nL : Nat} (h : lv_has ls nL (asc a L)) (hs : ∀ (i : Nat) (v : Value), L'[i]? = some (some v) → L[i]? = some (some v)) : lv_has ls nL (asc a L') := by
  refine ⟨h.1, h.2.1, fun q hq => ?_⟩
  obtain ⟨v, hv, e⟩ := asc_mem.mp (show (q.1, q.2) ∈ asc a L' from hq)
  rw [e]
  exact asc_at h (hs _ _ hv)
/-- no long just ahead of place i -/
def lgv (x : Option (Option Value)) : Bool := match x with
  | some (some (.long _)) => true
  | some (some (.double _)) => true
  | _ => false
def nlg (L : List (Option Value)) (i : Nat) : Bool := (i == 0) || !(lgv L[i - 1]?)
theorem nlg_cat {L : List (Option Value)} {i j : Nat} {v : Value} (h : nlg L i = true) (hj : j + 1 = i) (hv : L[j]? = some (some v)) : ¬ v.category = 2 := by
  subst hj
  have h2 : lgv L[j]? = false := by simpa [nlg] using h
  rw [hv] at h2
  intro e
  cases v with
  | long x => cases h2
  | double x => cases h2
  | int x => simp [Value.category] at e
  | float x => simp [Value.category] at e
  | null => simp [Value.category] at e
  | ref x => simp [Value.category] at e
  | retAddr x => simp [Value.category] at e
theorem asc_store1 {a : Nat → Nat} {L : List (Option Value)} {ls : Array Slot} {nL i : Nat} {v : Value} (hg : nlg L i = true) (hx : lv_has ls nL ((i, cv a v) :: (asc a L).filter (fun q => !(q.1 == i) && !(q.1 + 1 == i && q.2.category == 2)))) : lv_has ls nL (asc a (L.set i (some v))) := by
  refine ⟨hx.1, hx.2.1, fun q hq => ?_⟩
  obtain ⟨j, w⟩ := q
  obtain ⟨u, hu, e⟩ := asc_mem.mp hq
  rw [List.getElem?_set] at hu
  by_cases hij : i = j
  · subst hij
    have hu2 : some u = some v := by
      by_cases hl : i < L.length
      · simp [hl] at hu; rw [hu]
      · simp [hl] at hu
    rw [e, Option.some.inj hu2]
    exact hx.2.2 (i, cv a v) List.mem_cons_self
  · rw [if_neg hij] at hu
    refine hx.2.2 (j, w) (List.mem_cons_of_mem _ (List.mem_filter.mpr ⟨asc_mem.mpr ⟨u, hu, e⟩, ?_⟩))
    have hc : ¬ (j + 1 = i ∧ w.category = 2) := fun ⟨h1, h2⟩ => nlg_cat hg h1 hu (by rw [e, cv_cat] at h2; exact h2)
    have h3 : ¬ j = i := fun q => hij q.symm
    simp [h3]
    exact Classical.not_and_iff_not_or_not.mp hc
theorem asc_store2 {a : Nat → Nat} {L : List (Option Value)} {ls : Array Slot} {nL i : Nat} {v : Value} (hg : nlg L i = true) (hx : lv_has ls nL ((i, cv a v) :: (asc a L).filter (fun q => !(q.1 == i) && (!(q.1 == i + 1) && !(q.1 + 1 == i && q.2.category == 2))))) : lv_has ls nL (asc a ((L.set i (some v)).set (i + 1) none)) := by
  refine ⟨hx.1, hx.2.1, fun q hq => ?_⟩
  obtain ⟨j, w⟩ := q
  obtain ⟨u, hu, e⟩ := asc_mem.mp hq
  rw [List.getElem?_set] at hu
  by_cases hij1 : i + 1 = j
  · subst hij1
    by_cases hl : i + 1 < (L.set i (some v)).length
    · simp [hl] at hu
    · simp [hl] at hu
  rw [if_neg hij1, List.getElem?_set] at hu
  by_cases hij : i = j
  · subst hij
    have hu2 : some u = some v := by
      by_cases hl : i < L.length
      · simp [hl] at hu; rw [hu]
      · simp [hl] at hu
    rw [e, Option.some.inj hu2]
    exact hx.2.2 (i, cv a v) List.mem_cons_self
  · rw [if_neg hij] at hu
    refine hx.2.2 (j, w) (List.mem_cons_of_mem _ (List.mem_filter.mpr ⟨asc_mem.mpr ⟨u, hu, e⟩, ?_⟩))
    have hc : ¬ (j + 1 = i ∧ w.category = 2) := fun ⟨h1, h2⟩ => nlg_cat hg h1 hu (by rw [e, cv_cat] at h2; exact h2)
    have h3 : ¬ j = i := fun q => hij q.symm
    have h4 : ¬ j = i + 1 := fun q => hij1 q.symm
    simp [h3, h4]
    exact Classical.not_and_iff_not_or_not.mp hc
/-- the array classes: int, byte, boolean, long, Told, Ground, int[] -/
abbrev tysL (ca : Nat → ClassId) : List (ClassId × FieldType) := [(ca 0, .int), (ca 1, .byte), (ca 2, .boolean), (ca 3, .long), (ca 4, .object RX10), (ca 5, .object RX4), (ca 6, .array .int)]
def TPf : Nat → Int32 := fun j => ([2, 4, 4, 3] : List Int32).getD j 0
def WHf : Nat → Int32 := fun j => ([60, 20, 20, 10] : List Int32).getD j 0
