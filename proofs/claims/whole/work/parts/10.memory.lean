/-! the memory behind the constructors: 146 cells, their shapes fixed; numbers I, five references r that move, longs J -/
def SHl : List (Nat × Nat) := [(21, 14), (1, 1700), (15, 18), (4, 8), (0, 16), (0, 16), (0, 16), (0, 12), (0, 12), (0, 12), (0, 7), (0, 7), (20, 6), (0, 5), (20, 6), (0, 5), (20, 6), (0, 5), (20, 6), (0, 5), (20, 6), (0, 5), (20, 6), (0, 5), (20, 6), (0, 5), (20, 6), (0, 5), (15, 18), (4, 8), (0, 16), (0, 16), (0, 16), (0, 12), (0, 12), (0, 12), (0, 7), (0, 7), (20, 6), (0, 5), (20, 6), (0, 5), (20, 6), (0, 5), (20, 6), (0, 5), (20, 6), (0, 5), (20, 6), (0, 5), (20, 6), (0, 5), (20, 6), (0, 5), (18, 5), (16, 9), (3, 20), (1, 0), (11, 5), (5, 8), (14, 5), (0, 5), (14, 5), (0, 5), (14, 5), (0, 5), (14, 5), (0, 5), (14, 5), (0, 5), (14, 5), (0, 5), (14, 5), (0, 5), (14, 5), (0, 5), (17, 1), (14, 5), (0, 5), (19, 4), (13, 7), (0, 64), (1, 576), (0, 7), (0, 7), (10, 2), (0, 73), (0, 721), (12, 9), (0, 30), (0, 30), (0, 30), (14, 5), (0, 5), (0, 35), (6, 3), (0, 75), (0, 75), (0, 75), (2, 3), (22, 79), (0, 1700), (3, 8), (0, 8), (0, 8), (0, 8), (0, 8), (0, 40), (0, 64), (0, 12), (0, 12), (0, 12), (0, 7), (0, 7), (0, 8), (0, 8), (0, 8), (0, 8), (0, 40), (0, 64), (0, 12), (0, 12), (0, 12), (0, 7), (0, 7), (0, 5), (0, 40), (0, 32), (0, 64), (0, 7), (0, 7), (2, 576), (0, 721), (0, 73), (0, 30), (0, 30), (0, 30), (0, 30), (0, 30), (0, 30), (0, 30), (0, 7), (2, 3), (0, 120), (0, 96), (0, 9)]
def SH (a : Nat) : Nat × Nat := SHl.getD a (9, 0)
def RFl : List (List (Option Nat)) := [[some 1, none, some 2, some 28, some 54, some 58, some 76, some 79, some 80, some 85, some 88, none, some 95, some 99], [], [some 3, none, some 4, some 5, some 6, none, some 7, some 8, some 9, none, some 10, some 11], [some 12, some 14, some 16, some 18, some 20, some 22, some 24, some 26], [], [], [], [], [], [], [], [], [none, none, none, none, none, some 13], [], [none, none, none, none, none, some 15], [], [none, none, none, none, none, some 17], [], [none, none, none, none, none, some 19], [], [none, none, none, none, none, some 21], [], [none, none, none, none, none, some 23], [], [none, none, none, none, none, some 25], [], [none, none, none, none, none, some 27], [], [some 29, none, some 30, some 31, some 32, none, some 33, some 34, some 35, none, some 36, some 37], [some 38, some 40, some 42, some 44, some 46, some 48, some 50, some 52], [], [], [], [], [], [], [], [], [none, none, none, none, none, some 39], [], [none, none, none, none, none, some 41], [], [none, none, none, none, none, some 43], [], [none, none, none, none, none, some 45], [], [none, none, none, none, none, some 47], [], [none, none, none, none, none, some 49], [], [none, none, none, none, none, some 51], [], [none, none, none, none, none, some 53], [], [some 55, some 28], [some 56, some 57], [], [], [some 2, some 59], [some 60, some 62, some 64, some 66, some 68, some 70, some 72, some 74], [some 61], [], [some 63], [], [some 65], [], [some 67], [], [some 69], [], [some 71], [], [some 73], [], [some 75], [], [some 77], [some 78], [], [], [some 81, some 82, some 83, some 84], [], [], [], [], [some 86, some 87], [], [], [some 89, some 90, some 91, none, some 92, some 94], [], [], [], [some 93], [], [], [some 96, some 97, some 98], [], [], [], [], [some 101, none, none, none, none, none, none, none, none, none, some 102, some 103, some 104, some 105, some 106, some 107, some 108, some 109, some 110, some 111, some 112, some 113, some 114, some 115, some 116, some 117, some 118, some 119, some 120, some 121, some 122, some 123, some 124, none, none, none, none, none, none, none, none, none, none, none, none, none, none, none, some 125, none, none, none, none, some 126, some 127, none, none, none, some 128, some 129, some 130, none, some 131, some 132, some 133, some 134, some 135, some 136, some 137, some 138, some 139, some 140, none, none, some 141, some 142, some 143, some 144, some 145], [], [], [], [], [], [], [], [], [], [], [], [], [], [], [], [], [], [], [], [], [], [], [], [], [], [], [], [], [], [], [], [], [], [], [], [], [], [], [], [], [], [], [], [], []]
def RF (a K : Nat) : Option Nat := (RFl.getD a []).getD K none
def RR (r : Nat → Nat) (a K : Nat) : Option Nat := if a = 0 ∧ K = 2 then some (r 0) else if a = 0 ∧ K = 3 then some (r 1) else if a = 54 ∧ K = 1 then some (r 2) else if a = 58 ∧ K = 0 then some (r 3) else if a = 55 ∧ K = 1 then some (r 4) else RF a K
def ftl : List (List Nat) := [[1, 1], [1, 1, 0, 0, 0], [1, 1, 1, 0, 1, 1, 0, 0, 0], [1, 1, 1, 1, 0, 0, 0], [1, 0, 0, 0, 0], [1, 0, 1, 1, 1, 0, 1, 1, 1, 0, 1, 1, 0, 0, 0, 0, 0, 0], [1, 1, 0, 0, 0, 0, 0, 2, 0], [1], [1, 1, 0, 0, 0], [0, 0, 0, 0], [2, 0, 0, 0, 0, 1], [1, 0, 1, 1, 1, 1, 1, 1, 1, 1, 1, 0, 1, 1], [1, 0, 0, 0, 0, 0, 0, 0, 0, 2, 1, 1, 1, 1, 1, 1, 1, 1, 1, 1, 1, 1, 1, 1, 1, 1, 1, 1, 1, 1, 1, 1, 1, 0, 0, 0, 0, 0, 0, 0, 0, 0, 0, 0, 0, 0, 0, 0, 1, 0, 0, 0, 0, 1, 1, 0, 0, 0, 1, 1, 1, 0, 1, 1, 1, 1, 1, 1, 1, 1, 1, 1, 0, 0, 1, 1, 1, 1, 1]]
def fty (ci K : Nat) : Nat := (ftl.getD ci []).getD K 9
abbrev MI : Type := Nat → Nat → Int32
abbrev MJ : Type := Nat → Nat → Int64
abbrev MR : Type := Nat → Nat
def rv (x : Option Nat) : Value := match x with
  | none => .null
  | some b => .ref b
def fv (ci : Nat) (I : MI) (r : MR) (J : MJ) (a K : Nat) : Value := if fty ci K = 0 then .int (I a K) else if fty ci K = 1 then rv (RR r a K) else .long (J a K)
def hp (I : MI) (r : MR) (J : MJ) : AH := fun a => if (SH a).1 ≤ 2 then cI (SH a).1 (SH a).2 (I a) else if (SH a).1 = 3 then cJ (SH a).2 (J a) else if (SH a).1 ≤ 6 then cR (SH a).1 (SH a).2 (RR r a) else cO ((SH a).1 - 10) ((List.range (SH a).2).map (fv ((SH a).1 - 10) I r J a))
def upI (I : MI) (a K : Nat) (x : Int32) : MI := fun b j => if b = a ∧ j = K then x else I b j
def upJ (J : MJ) (a K : Nat) (x : Int64) : MJ := fun b j => if b = a ∧ j = K then x else J b j
def upR (r : MR) (k x : Nat) : MR := fun j => if j = k then x else r j
theorem SH_lt {a k N : Nat} (h : SH a = (k, N)) (hs : k ≠ 9) : a < 146 := by
  refine Nat.lt_of_not_le fun hle => hs ?_
  have h1 : (SH a).1 = k := by rw [h]
  rw [← h1]
  unfold SH
  rw [List.getD_eq_getElem?_getD, List.getElem?_eq_none (by show SHl.length ≤ a; exact hle)]
  rfl
theorem hp_I {I : MI} {r : MR} {J : MJ} {a k N : Nat} (h : SH a = (k, N)) (hk : k ≤ 2) : hp I r J a = cI k N (I a) := by
  unfold hp
  rw [h, if_pos hk]
theorem hp_J {I : MI} {r : MR} {J : MJ} {a N : Nat} (h : SH a = (3, N)) : hp I r J a = cJ N (J a) := by
  unfold hp
  rw [h, if_neg (show ¬ 3 ≤ 2 by decide), if_pos rfl]
theorem hp_R {I : MI} {r : MR} {J : MJ} {a k N : Nat} (h : SH a = (k, N)) (h1 : 3 < k) (h2 : k ≤ 6) : hp I r J a = cR k N (RR r a) := by
  unfold hp
  rw [h, if_neg (show ¬ k ≤ 2 by omega), if_neg (show ¬ k = 3 by omega), if_pos h2]
theorem hp_O {I : MI} {r : MR} {J : MJ} {a ci N : Nat} (h : SH a = (10 + ci, N)) : hp I r J a = cO ci ((List.range N).map (fv ci I r J a)) := by
  unfold hp
  rw [h, if_neg (show ¬ 10 + ci ≤ 2 by omega), if_neg (show ¬ 10 + ci = 3 by omega), if_neg (show ¬ 10 + ci ≤ 6 by omega)]
  show cO (10 + ci - 10) _ = _
  rw [Nat.add_sub_cancel_left]
theorem hp_upI {I : MI} {r : MR} {J : MJ} {a K : Nat} {x : Int32} {h' : AH} {c : AC} (h1 : h' a = c) (h2 : ∀ b, b ≠ a → h' b = hp I r J b) (hc : hp (upI I a K x) r J a = c) : h' = hp (upI I a K x) r J := by
  funext b
  by_cases e : b = a
  · subst e
    rw [h1, hc]
  · rw [h2 b e]
    unfold hp
    have e1 : I b = upI I a K x b := by funext j; simp [upI, e]
    have e2 : fv ((SH b).1 - 10) I r J b = fv ((SH b).1 - 10) (upI I a K x) r J b := by funext j; simp [fv, ← e1]
    rw [← e1, ← e2]
theorem hp_upJ {I : MI} {r : MR} {J : MJ} {a K : Nat} {x : Int64} {h' : AH} {c : AC} (h1 : h' a = c) (h2 : ∀ b, b ≠ a → h' b = hp I r J b) (hc : hp I r (upJ J a K x) a = c) : h' = hp I r (upJ J a K x) := by
  funext b
  by_cases e : b = a
  · subst e
    rw [h1, hc]
  · rw [h2 b e]
    unfold hp
    have e1 : J b = upJ J a K x b := by funext j; simp [upJ, e]
    have e2 : fv ((SH b).1 - 10) I r J b = fv ((SH b).1 - 10) I r (upJ J a K x) b := by funext j; simp [fv, ← e1]
    rw [← e1, ← e2]
theorem hp_upR {I : MI} {r r' : MR} {J : MJ} {a : Nat} {h' : AH} {c : AC} (h1 : h' a = c) (h2 : ∀ b, b ≠ a → h' b = hp I r J b) (hr : ∀ b K, b ≠ a → RR r' b K = RR r b K) (hc : hp I r' J a = c) : h' = hp I r' J := by
  funext b
  by_cases e : b = a
  · subst e
    rw [h1, hc]
  · rw [h2 b e]
    unfold hp
    have e1 : RR r b = RR r' b := by funext j; rw [hr b j e]
    have e2 : fv ((SH b).1 - 10) I r J b = fv ((SH b).1 - 10) I r' J b := by funext j; simp [fv, ← e1]
    rw [← e1, ← e2]
/-- what holds at the end, in the memory's words -/
def PQ (post : Option Value → MI → MR → MJ → Prop) : Option Value → Nat → AH → Prop := fun v n h => ∃ (I : MI) (r : MR) (J : MJ), n = 146 ∧ h = hp I r J ∧ post v I r J
theorem PQ.mk {post : Option Value → MI → MR → MJ → Prop} {v : Option Value} {I : MI} {r : MR} {J : MJ} (h : post v I r J) : PQ post v 146 (hp I r J) := ⟨I, r, J, rfl, rfl, h⟩
abbrev Wq (M : MX) (pc : Nat) (L : List (Option Value)) (S : List Value) (I : MI) (r : MR) (J : MJ) (post : Option Value → MI → MR → MJ → Prop) : Prop := Wp M pc L S 146 (hp I r J) 0 0 (PQ post)
abbrev Cq (y : MethodName) (M : MX) (args : List Value) (I : MI) (r : MR) (J : MJ) (post : Option Value → MI → MR → MJ → Prop) : Prop := Ct y M args 146 (hp I r J) (PQ post)
def ClOk (ci : Nat) (Cn : String) (T : u_T) (ty0 : Nat → FieldType) (N : Nat) : Prop := vwCl[ci]? = some (Cn, T, N) ∧ (∀ w ∈ u_ws Cn T N, w ∈ TBg) ∧ (∀ j, j < N → parseFieldDescriptor (T j).2.2.1 = some (ty0 j)) ∧ (∀ a, a < N → ∀ b, b < N → a ≠ b → (T a).2.1 ≠ (T b).2.1)
section WQ
variable {M : MX} {pc k z : Nat} {L : List (Option Value)} {S : List Value} {I : MI} {r : MR} {J : MJ} {post : Option Value → Nat → AH → Prop}
theorem rng_at {N K : Nat} {g : Nat → Value} (h : K < N) : ((List.range N).map g)[K]? = some (g K) := by simp [h]
theorem rng_set {N K : Nat} {g g' : Nat → Value} {v : Value} (h1 : g' K = v) (h2 : ∀ j, j ≠ K → g' j = g j) : ((List.range N).map g).set K v = (List.range N).map g' := by
  apply List.ext_getElem?
  intro j
  rw [List.getElem?_set]
  by_cases e : K = j
  · subst e
    by_cases hN : K < N
    · simp [hN, h1]
    · simp [hN]
  · rw [if_neg e]
    by_cases hN : j < N
    · rw [rng_at hN, rng_at hN, h2 j (fun q => e q.symm)]
    · rw [List.getElem?_eq_none (by simp; omega), List.getElem?_eq_none (by simp; omega)]
theorem q_gi {ci K i0 a N : Nat} {Cn : String} {T : u_T} {ty0 : Nat → FieldType} (hd : decode M.1 pc = .ok (.getfield i0, 3)) {q : Nat} (hq : pc + 3 = q) (ok : ClOk ci Cn T ty0 N) (hK : K < N) (hw : Cond.fieldLink M.2.1 i0 (T K).1 (T K).2.1 (T K).2.2.1 ∈ TBg) (hs : SH a = (10 + ci, N)) (ht : fty ci K = 0) (kk : Wp M q L (.int (I a K) :: S) 146 (hp I r J) k z post) : Wp M pc L (.ref a :: S) 146 (hp I r J) k z post :=
  x_get hd hq ok.1 ok.2.1 hK hw (hp_O hs) (SH_lt hs (show 10 + ci ≠ 9 by omega)) (by rw [rng_at hK]; simp [fv, ht]) kk
theorem q_gl {ci K i0 a N : Nat} {Cn : String} {T : u_T} {ty0 : Nat → FieldType} (hd : decode M.1 pc = .ok (.getfield i0, 3)) {q : Nat} (hq : pc + 3 = q) (ok : ClOk ci Cn T ty0 N) (hK : K < N) (hw : Cond.fieldLink M.2.1 i0 (T K).1 (T K).2.1 (T K).2.2.1 ∈ TBg) (hs : SH a = (10 + ci, N)) (ht : fty ci K = 2) (kk : Wp M q L (.long (J a K) :: S) 146 (hp I r J) k z post) : Wp M pc L (.ref a :: S) 146 (hp I r J) k z post :=
  x_get hd hq ok.1 ok.2.1 hK hw (hp_O hs) (SH_lt hs (show 10 + ci ≠ 9 by omega)) (by rw [rng_at hK]; simp [fv, ht]) kk
theorem q_gr {ci K i0 a N b : Nat} {Cn : String} {T : u_T} {ty0 : Nat → FieldType} (hd : decode M.1 pc = .ok (.getfield i0, 3)) {q : Nat} (hq : pc + 3 = q) (ok : ClOk ci Cn T ty0 N) (hK : K < N) (hw : Cond.fieldLink M.2.1 i0 (T K).1 (T K).2.1 (T K).2.2.1 ∈ TBg) (hs : SH a = (10 + ci, N)) (ht : fty ci K = 1) (hb : RR r a K = some b) (kk : Wp M q L (.ref b :: S) 146 (hp I r J) k z post) : Wp M pc L (.ref a :: S) 146 (hp I r J) k z post :=
  x_get hd hq ok.1 ok.2.1 hK hw (hp_O hs) (SH_lt hs (show 10 + ci ≠ 9 by omega)) (by rw [rng_at hK]; simp [fv, ht, hb, rv]) kk
theorem q_pi {ci K i0 a N : Nat} {Cn : String} {T : u_T} {ty0 : Nat → FieldType} {x : Int32} (hd : decode M.1 pc = .ok (.putfield i0, 3)) {q : Nat} (hq : pc + 3 = q) (ok : ClOk ci Cn T ty0 N) (hK : K < N) (hw : Cond.fieldLink M.2.1 i0 (T K).1 (T K).2.1 (T K).2.2.1 ∈ TBg) (hfin : (T K).2.2.2 = false) (hy : ty0 K = .int) (hs : SH a = (10 + ci, N)) (ht : fty ci K = 0) (kk : ∀ I' : MI, I' = upI I a K x → Wp M q L S 146 (hp I' r J) k z post) : Wp M pc L (.int x :: .ref a :: S) 146 (hp I r J) k z post := by
  refine x_put hd hq ok.1 ok.2.1 ok.2.2.1 ok.2.2.2 hK hw hfin (by rw [hy]; rfl) (by rw [hy]; rfl) (hp_O hs) (SH_lt hs (show 10 + ci ≠ 9 by omega)) (by simpa using hK) (fun h' e1 e2 => ?_)
  have e3 := hp_upI (I := I) (r := r) (J := J) (a := a) (K := K) (x := x) e1 e2 (by
    rw [hp_O hs]
    refine congrArg (cO ci) (rng_set ?_ (fun j hj => ?_)).symm
    · simp [fv, ht, upI]
    · simp [fv, upI, hj])
  rw [e3]
  exact kk _ rfl
theorem q_pl {ci K i0 a N : Nat} {Cn : String} {T : u_T} {ty0 : Nat → FieldType} {x : Int64} (hd : decode M.1 pc = .ok (.putfield i0, 3)) {q : Nat} (hq : pc + 3 = q) (ok : ClOk ci Cn T ty0 N) (hK : K < N) (hw : Cond.fieldLink M.2.1 i0 (T K).1 (T K).2.1 (T K).2.2.1 ∈ TBg) (hfin : (T K).2.2.2 = false) (hy : ty0 K = .long) (hs : SH a = (10 + ci, N)) (ht : fty ci K = 2) (kk : ∀ J' : MJ, J' = upJ J a K x → Wp M q L S 146 (hp I r J') k z post) : Wp M pc L (.long x :: .ref a :: S) 146 (hp I r J) k z post := by
  refine x_put hd hq ok.1 ok.2.1 ok.2.2.1 ok.2.2.2 hK hw hfin (by rw [hy]; rfl) (by rw [hy]; rfl) (hp_O hs) (SH_lt hs (show 10 + ci ≠ 9 by omega)) (by simpa using hK) (fun h' e1 e2 => ?_)
  have e3 := hp_upJ (I := I) (r := r) (J := J) (a := a) (K := K) (x := x) e1 e2 (by
    rw [hp_O hs]
    refine congrArg (cO ci) (rng_set ?_ (fun j hj => ?_)).symm
    · simp [fv, ht, upJ]
    · simp [fv, upJ, hj])
  rw [e3]
  exact kk _ rfl
/-- a reference that moves: number m of r, the field K of the cell a -/
theorem q_pr {ci K i0 a N b : Nat} {Cn : String} {T : u_T} {ty0 : Nat → FieldType} (m : Nat) (hd : decode M.1 pc = .ok (.putfield i0, 3)) {q : Nat} (hq : pc + 3 = q) (ok : ClOk ci Cn T ty0 N) (hK : K < N) (hw : Cond.fieldLink M.2.1 i0 (T K).1 (T K).2.1 (T K).2.2.1 ∈ TBg) (hfin : (T K).2.2.2 = false) (hy : narrow (ty0 K) (.ref b) = .ref b ∧ fits (ty0 K) (.ref b) = true) (hs : SH a = (10 + ci, N)) (ht : fty ci K = 1) (hm : ∀ c j, RR (upR r m b) c j = if c = a ∧ j = K then some b else RR r c j) (kk : ∀ r' : MR, r' = upR r m b → Wp M q L S 146 (hp I r' J) k z post) : Wp M pc L (.ref b :: .ref a :: S) 146 (hp I r J) k z post := by
  refine x_put hd hq ok.1 ok.2.1 ok.2.2.1 ok.2.2.2 hK hw hfin hy.1 hy.2 (hp_O hs) (SH_lt hs (show 10 + ci ≠ 9 by omega)) (by simpa using hK) (fun h' e1 e2 => ?_)
  have e3 := hp_upR (I := I) (r := r) (r' := upR r m b) (J := J) (a := a) e1 e2 (fun c j hc => by rw [hm]; simp [hc]) (by
    rw [hp_O hs]
    refine congrArg (cO ci) (rng_set ?_ (fun j hj => ?_)).symm
    · simp [fv, ht, hm, rv]
    · simp [fv, hm, hj])
  rw [e3]
  exact kk _ rfl
theorem q_iald {a N : Nat} {i : Int32} (hd : decode M.1 pc = .ok (.iaload, 1)) {q : Nat} (hq : pc + 1 = q) (hs : SH a = (0, N)) (hi : vp_in i N) (kk : Wp M q L (.int (I a i.toNatClampNeg) :: S) 146 (hp I r J) k z post) : Wp M pc L (.int i :: .ref a :: S) 146 (hp I r J) k z post :=
  x_iald hd hq (hp_I hs (by decide)) (SH_lt hs (by decide)) hi kk
theorem q_bald {a N : Nat} {i : Int32} (hd : decode M.1 pc = .ok (.baload, 1)) {q : Nat} (hq : pc + 1 = q) (hs : SH a = (1, N)) (hi : vp_in i N) (kk : Wp M q L (.int (I a i.toNatClampNeg) :: S) 146 (hp I r J) k z post) : Wp M pc L (.int i :: .ref a :: S) 146 (hp I r J) k z post :=
  x_bald hd hq (hp_I hs (by decide)) (SH_lt hs (by decide)) hi kk
theorem q_zald {a N : Nat} {i : Int32} (hd : decode M.1 pc = .ok (.baload, 1)) {q : Nat} (hq : pc + 1 = q) (hs : SH a = (2, N)) (hi : vp_in i N) (kk : Wp M q L (.int (I a i.toNatClampNeg) :: S) 146 (hp I r J) k z post) : Wp M pc L (.int i :: .ref a :: S) 146 (hp I r J) k z post :=
  x_zald hd hq (hp_I hs (by decide)) (SH_lt hs (by decide)) hi kk
theorem q_lald {a N : Nat} {i : Int32} (hd : decode M.1 pc = .ok (.laload, 1)) {q : Nat} (hq : pc + 1 = q) (hs : SH a = (3, N)) (hi : vp_in i N) (kk : Wp M q L (.long (J a i.toNatClampNeg) :: S) 146 (hp I r J) k z post) : Wp M pc L (.int i :: .ref a :: S) 146 (hp I r J) k z post :=
  x_lald hd hq (hp_J hs) (SH_lt hs (by decide)) hi kk
theorem q_aald4 {a N b : Nat} {i : Int32} (hd : decode M.1 pc = .ok (.aaload, 1)) {q : Nat} (hq : pc + 1 = q) (hs : SH a = (4, N)) (hi : vp_in i N) (hb : RR r a i.toNatClampNeg = some b) (kk : Wp M q L (.ref b :: S) 146 (hp I r J) k z post) : Wp M pc L (.int i :: .ref a :: S) 146 (hp I r J) k z post :=
  x_aald4 hd hq (hp_R hs (by decide) (by decide)) (SH_lt hs (by decide)) hi hb kk
theorem q_aald5 {a N b : Nat} {i : Int32} (hd : decode M.1 pc = .ok (.aaload, 1)) {q : Nat} (hq : pc + 1 = q) (hs : SH a = (5, N)) (hi : vp_in i N) (hb : RR r a i.toNatClampNeg = some b) (kk : Wp M q L (.ref b :: S) 146 (hp I r J) k z post) : Wp M pc L (.int i :: .ref a :: S) 146 (hp I r J) k z post :=
  x_aald5 hd hq (hp_R hs (by decide) (by decide)) (SH_lt hs (by decide)) hi hb kk
theorem q_aald6 {a N b : Nat} {i : Int32} (hd : decode M.1 pc = .ok (.aaload, 1)) {q : Nat} (hq : pc + 1 = q) (hs : SH a = (6, N)) (hi : vp_in i N) (hb : RR r a i.toNatClampNeg = some b) (kk : Wp M q L (.ref b :: S) 146 (hp I r J) k z post) : Wp M pc L (.int i :: .ref a :: S) 146 (hp I r J) k z post :=
  x_aald6 hd hq (hp_R hs (by decide) (by decide)) (SH_lt hs (by decide)) hi hb kk
theorem upd_upI {a K : Nat} {x : Int32} : upd (I a) K x = upI I a K x a := by funext j; simp [upd, upI]
theorem q_iast {a N : Nat} {i x : Int32} (hd : decode M.1 pc = .ok (.iastore, 1)) {q : Nat} (hq : pc + 1 = q) (hs : SH a = (0, N)) (hi : vp_in i N) (kk : ∀ I' : MI, I' = upI I a i.toNatClampNeg x → Wp M q L S 146 (hp I' r J) k z post) : Wp M pc L (.int x :: .int i :: .ref a :: S) 146 (hp I r J) k z post := by
  refine x_iast hd hq (hp_I hs (by decide)) (SH_lt hs (by decide)) hi (fun h' e1 e2 => ?_)
  rw [hp_upI (I := I) (K := i.toNatClampNeg) (x := x) e1 e2 (by rw [hp_I hs (by decide), upd_upI])]
  exact kk _ rfl
theorem q_bast {a N : Nat} {i x : Int32} (hd : decode M.1 pc = .ok (.bastore, 1)) {q : Nat} (hq : pc + 1 = q) (hs : SH a = (1, N)) (hi : vp_in i N) (kk : ∀ I' : MI, I' = upI I a i.toNatClampNeg x.toInt8.toInt32 → Wp M q L S 146 (hp I' r J) k z post) : Wp M pc L (.int x :: .int i :: .ref a :: S) 146 (hp I r J) k z post := by
  refine x_bast hd hq (hp_I hs (by decide)) (SH_lt hs (by decide)) hi (fun h' e1 e2 => ?_)
  rw [hp_upI (I := I) (K := i.toNatClampNeg) (x := x.toInt8.toInt32) e1 e2 (by rw [hp_I hs (by decide), upd_upI])]
  exact kk _ rfl
theorem q_zast {a N : Nat} {i x : Int32} (hd : decode M.1 pc = .ok (.bastore, 1)) {q : Nat} (hq : pc + 1 = q) (hx : narrow .boolean (.int x) = .int x) (hs : SH a = (2, N)) (hi : vp_in i N) (kk : ∀ I' : MI, I' = upI I a i.toNatClampNeg x → Wp M q L S 146 (hp I' r J) k z post) : Wp M pc L (.int x :: .int i :: .ref a :: S) 146 (hp I r J) k z post := by
  refine x_zast hd hq hx (hp_I hs (by decide)) (SH_lt hs (by decide)) hi (fun h' e1 e2 => ?_)
  rw [hp_upI (I := I) (K := i.toNatClampNeg) (x := x) e1 e2 (by rw [hp_I hs (by decide), upd_upI])]
  exact kk _ rfl
theorem q_last {a N : Nat} {i : Int32} {x : Int64} (hd : decode M.1 pc = .ok (.lastore, 1)) {q : Nat} (hq : pc + 1 = q) (hs : SH a = (3, N)) (hi : vp_in i N) (kk : ∀ J' : MJ, J' = upJ J a i.toNatClampNeg x → Wp M q L S 146 (hp I r J') k z post) : Wp M pc L (.long x :: .int i :: .ref a :: S) 146 (hp I r J) k z post := by
  refine x_last hd hq (hp_J hs) (SH_lt hs (by decide)) hi (fun h' e1 e2 => ?_)
  rw [hp_upJ (J := J) (K := i.toNatClampNeg) (x := x) e1 e2 (by rw [hp_J hs]; refine congrArg (cJ N) ?_; funext j; simp [upJ, vp_updL])]
  exact kk _ rfl
theorem q_aleni {a N : Nat} {v : Int32} (hd : decode M.1 pc = .ok (.arraylength, 1)) {q : Nat} (hq : pc + 1 = q) (hs : SH a = (0, N)) (hv : Int32.ofNat N = v) (kk : Wp M q L (.int v :: S) 146 (hp I r J) k z post) : Wp M pc L (.ref a :: S) 146 (hp I r J) k z post :=
  x_aleni hd hq (hp_I hs (by decide)) (SH_lt hs (by decide)) hv kk
theorem q_alenb {a N : Nat} {v : Int32} (hd : decode M.1 pc = .ok (.arraylength, 1)) {q : Nat} (hq : pc + 1 = q) (hs : SH a = (1, N)) (hv : Int32.ofNat N = v) (kk : Wp M q L (.int v :: S) 146 (hp I r J) k z post) : Wp M pc L (.ref a :: S) 146 (hp I r J) k z post :=
  x_alenb hd hq (hp_I hs (by decide)) (SH_lt hs (by decide)) hv kk
end WQ
section WQC
variable {M : MX} {pc : Nat} {L : List (Option Value)} {S : List Value} {I : MI} {r : MR} {J : MJ} {post : Option Value → MI → MR → MJ → Prop}
/-- ends -/
theorem q_iret {x : Int32} (hd : decode M.1 pc = .ok (.ireturn, 1)) (hr : M.2.2.2.1 = some .int) (hp0 : post (some (.int x)) I r J) : Wq M pc L [.int x] I r J post := x_iret hd hr (Nat.zero_le _) (Nat.zero_le _) (PQ.mk hp0)
theorem q_zret {x : Int32} (hd : decode M.1 pc = .ok (.ireturn, 1)) (hr : M.2.2.2.1 = some .boolean) (hx : x = 0 ∨ x = 1) (hp0 : post (some (.int x)) I r J) : Wq M pc L [.int x] I r J post := x_zret hd hr (by rcases hx with rfl | rfl <;> rfl) (Nat.zero_le _) (Nat.zero_le _) (PQ.mk hp0)
theorem q_lret {x : Int64} (hd : decode M.1 pc = .ok (.lreturn, 1)) (hr : M.2.2.2.1 = some .long) (hp0 : post (some (.long x)) I r J) : Wq M pc L [.long x] I r J post := x_lret hd hr (Nat.zero_le _) (Nat.zero_le _) (PQ.mk hp0)
theorem q_vret (hd : decode M.1 pc = .ok (.return_, 1)) (hr : M.2.2.2.1 = none) (hp0 : post none I r J) : Wq M pc L [] I r J post := x_vret hd hr (Nat.zero_le _) (Nat.zero_le _) (PQ.mk hp0)
/-- calls of methods that make nothing -/
theorem q_callS {y : MethodName} {M' : MX} {np i0 : Nat} {As rest : List Value} {post' : Option Value → MI → MR → MJ → Prop} (hd : decode M.1 pc = .ok (.invokestatic i0, 3)) {q : Nat} (hq : pc + 3 = q) (ok : MOkS y M' np) (hl0 : Cond.methodLink M.2.1 i0 y ∈ TBg) (hct : Cq y M' As I r J post') (hn0 : As.length = np) (hst : S = As.reverse ++ rest) (hW : (rest.map fun v => v.category).sum ≤ 8) (hR : M'.2.2.2.2.1.frames + 1 ≤ M.2.2.2.2.1.frames ∧ 8 + (M'.2.2.1 + 11) + M'.2.2.2.2.1.locals ≤ M.2.2.2.2.1.locals) (hC : M'.2.2.2.2.1.cells = 0 ∧ M'.2.2.2.2.1.slots = 0)
    (kk : ∀ (v : Option Value) (I' : MI) (r' : MR) (J' : MJ), post' v I' r' J' → Wq M q L (v.toList ++ rest) I' r' J' post) : Wq M pc L S I r J post := by
  refine x_callS hd hq ok hl0 hct hn0 hst hW hR ⟨by rw [hC.1]; exact Nat.zero_le _, by rw [hC.2]; exact Nat.zero_le _⟩ (fun v n' h' hp0 => ?_)
  obtain ⟨I', r', J', rfl, rfl, hp1⟩ := hp0
  rw [hC.1, hC.2]
  exact kk v I' r' J' hp1
theorem q_callV {y : MethodName} {M' : MX} {np i0 a ci N : Nat} {T : u_T} {As rest : List Value} {post' : Option Value → MI → MR → MJ → Prop} (hd : decode M.1 pc = .ok (.invokevirtual i0, 3)) {q : Nat} (hq : pc + 3 = q) (ok : MOkV y M' np) (hl0 : Cond.methodLink M.2.1 i0 y ∈ TBg) (hs : SH a = (10 + ci, N)) (hcl : vwCl[ci]? = some (y.cls, T, N)) (hct : Cq y M' (.ref a :: As) I r J post') (hn0 : As.length = np) (hst : S = As.reverse ++ .ref a :: rest) (hW : (rest.map fun v => v.category).sum ≤ 8) (hR : M'.2.2.2.2.1.frames + 1 ≤ M.2.2.2.2.1.frames ∧ 8 + (M'.2.2.1 + 11) + M'.2.2.2.2.1.locals ≤ M.2.2.2.2.1.locals) (hC : M'.2.2.2.2.1.cells = 0 ∧ M'.2.2.2.2.1.slots = 0)
    (kk : ∀ (v : Option Value) (I' : MI) (r' : MR) (J' : MJ), post' v I' r' J' → Wq M q L (v.toList ++ rest) I' r' J' post) : Wq M pc L S I r J post := by
  refine x_callV hd hq ok hl0 hct (hp_O hs) (SH_lt hs (show 10 + ci ≠ 9 by omega)) hcl hn0 hst hW hR ⟨by rw [hC.1]; exact Nat.zero_le _, by rw [hC.2]; exact Nat.zero_le _⟩ (fun v n' h' hp0 => ?_)
  obtain ⟨I', r', J', rfl, rfl, hp1⟩ := hp0
  rw [hC.1, hC.2]
  exact kk v I' r' J' hp1
theorem cq_of {y : MethodName} {args : List Value} (L : List (Option Value)) (m : Nat) (hy : plainName y.cls = true) (ho : M.2.1 = y.cls) (hi : M.2.2.2.2.2 = false) (hlen : (lg_sl args).length ≤ M.2.2.1) (hL : loc0 args ++ List.replicate m none = L) (hw : Wq M 0 L [] I r J post) : Cq y M args I r J post :=
  ct_of L m hy ho (fun q => by rw [hi] at q; cases q) hlen hL hw
theorem cq_mono {y : MethodName} {args : List Value} {post' : Option Value → MI → MR → MJ → Prop} (hp0 : ∀ v I' r' J', post v I' r' J' → post' v I' r' J') (hw : Cq y M args I r J post) : Cq y M args I r J post' :=
  ct_mono (fun v n h q => by obtain ⟨I', r', J', e1, e2, e3⟩ := q; exact ⟨I', r', J', e1, e2, hp0 _ _ _ _ e3⟩) hw
theorem wq_mono {post' : Option Value → MI → MR → MJ → Prop} (hp0 : ∀ v I' r' J', post v I' r' J' → post' v I' r' J') (hw : Wq M pc L S I r J post) : Wq M pc L S I r J post' :=
  wp_mono (fun v n h q => by obtain ⟨I', r', J', e1, e2, e3⟩ := q; exact ⟨I', r', J', e1, e2, hp0 _ _ _ _ e3⟩) hw
end WQC
theorem cl_0 : ClOk 0 RX0 TX0 tyX0 2 := ⟨rfl, in_X0, tyX0_ok, nmX0⟩
theorem cl_1 : ClOk 1 RX1 TX1 tyX1 5 := ⟨rfl, in_X1, tyX1_ok, nmX1⟩
theorem cl_2 : ClOk 2 RX2 TX2 tyX2 9 := ⟨rfl, in_X2, tyX2_ok, nmX2⟩
theorem cl_3 : ClOk 3 RX3 TX3 tyX3 7 := ⟨rfl, in_X3, tyX3_ok, nmX3⟩
theorem cl_4 : ClOk 4 RX4 TX4 tyX4 5 := ⟨rfl, in_X4, tyX4_ok, nmX4⟩
theorem cl_5 : ClOk 5 RX5 TX5 tyX5 18 := ⟨rfl, in_X5, tyX5_ok, nmX5⟩
theorem cl_6 : ClOk 6 RX6 TX6 tyX6 9 := ⟨rfl, in_X6, tyX6_ok, nmX6⟩
theorem cl_7 : ClOk 7 RX7 TX7 tyX7 1 := ⟨rfl, in_X7, tyX7_ok, nmX7⟩
theorem cl_8 : ClOk 8 RX8 TX8 tyX8 5 := ⟨rfl, in_X8, tyX8_ok, nmX8⟩
theorem cl_9 : ClOk 9 RX9 TX9 tyX9 4 := ⟨rfl, in_X9, tyX9_ok, nmX9⟩
theorem cl_10 : ClOk 10 RX10 TX10 tyX10 6 := ⟨rfl, in_X10, tyX10_ok, nmX10⟩
theorem cl_11 : ClOk 11 RX11 TX11 tyX11 14 := ⟨rfl, in_X11, tyX11_ok, nmX11⟩
theorem cl_12 : ClOk 12 RX12 TX12 tyX12 79 := ⟨rfl, in_X12, tyX12_ok, nmX12⟩
