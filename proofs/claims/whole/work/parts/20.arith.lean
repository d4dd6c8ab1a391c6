/-! numbers of a ground: bounds, and what a step looks at -/
theorem td {a d : Int} (hd : 0 < d) : (0 ≤ a → 0 ≤ a.tdiv d ∧ d * a.tdiv d ≤ a ∧ a < d * a.tdiv d + d) ∧ (a ≤ 0 → a.tdiv d ≤ 0 ∧ a ≤ d * a.tdiv d ∧ d * a.tdiv d < a + d) := by
  have key : ∀ b : Int, 0 ≤ b → 0 ≤ b.tdiv d ∧ d * b.tdiv d ≤ b ∧ b < d * b.tdiv d + d := by
    intro b hb
    rw [Int.tdiv_eq_ediv_of_nonneg hb]
    have h1 := Int.mul_ediv_add_emod b d
    have h2 := Int.emod_nonneg b (show d ≠ 0 by omega)
    have h3 := Int.emod_lt_of_pos b hd
    have h4 := Int.ediv_nonneg hb (show 0 ≤ d by omega)
    exact ⟨h4, by omega, by omega⟩
  refine ⟨key a, fun ha => ?_⟩
  obtain ⟨k1, k2, k3⟩ := key (-a) (by omega)
  rw [Int.neg_tdiv] at k1 k2 k3
  rw [Int.mul_neg] at k2 k3
  exact ⟨by omega, by omega, by omega⟩
def GB (la n : Nat) (G : GT) : Prop := (∀ j, j < la → -250 ≤ (G j).toInt ∧ (G j).toInt ≤ 250) ∧ 0 ≤ (G 5).toInt ∧ 0 ≤ (G 6).toInt ∧ 0 ≤ (G 7).toInt ∧ (G 5).toInt + (G 6).toInt + (G 7).toInt ≤ 100 * n ∧ 0 ≤ (G 8).toInt ∧ (G 8).toInt ≤ 20000
def EB (T fl wt tr : Int32) : Prop := (-250 ≤ T.toInt ∧ T.toInt ≤ 250) ∧ (0 ≤ fl.toInt ∧ fl.toInt ≤ 99) ∧ (0 ≤ wt.toInt ∧ wt.toInt ≤ 10) ∧ (0 ≤ tr.toInt ∧ tr.toInt ≤ 99)
theorem dv {a d : Int32} {k : Int} (hk : d.toInt = k) (h0 : 0 < k) : (a / d).toInt = a.toInt.tdiv k := by
  rw [Kit.i32_div (fun q => by omega), hk]
theorem mv {x T d : Int32} {k : Int} (hk : d.toInt = k) (h2 : 2 ≤ k) (hx : -250 ≤ x.toInt ∧ x.toInt ≤ 250) (hT : -250 ≤ T.toInt ∧ T.toInt ≤ 250) : -250 ≤ (x + (T - x) / d).toInt ∧ (x + (T - x) / d).toInt ≤ 250 := by
  have e1 : (T - x).toInt = T.toInt - x.toInt := Kit.i32_sub (by omega) (by omega)
  have e2 : ((T - x) / d).toInt = (T.toInt - x.toInt).tdiv k := by rw [dv hk (by omega), e1]
  obtain ⟨t1, t2⟩ := td (a := T.toInt - x.toInt) (d := k) (by omega)
  generalize (T.toInt - x.toInt).tdiv k = q at e2 t1 t2
  by_cases h : 0 ≤ T.toInt - x.toInt
  · obtain ⟨p1, p2, p3⟩ := t1 h
    have p4 : q ≤ k * q := by
      have := Int.mul_le_mul_of_nonneg_right (show (1 : Int) ≤ k by omega) p1
      omega
    have e3 : (x + (T - x) / d).toInt = x.toInt + q := by rw [Kit.i32_add (by rw [e2]; omega) (by rw [e2]; omega), e2]
    omega
  · obtain ⟨p1, p2, p3⟩ := t2 (by omega)
    have p4 : k * q ≤ q := by
      have := Int.mul_le_mul_of_nonneg_right (show (1 : Int) ≤ k by omega) (show 0 ≤ -q by omega)
      rw [Int.mul_neg, Int.mul_neg] at this
      omega
    have e3 : (x + (T - x) / d).toInt = x.toInt + q := by rw [Kit.i32_add (by rw [e2]; omega) (by rw [e2]; omega), e2]
    omega
theorem tw {a b : Int32} (ha : -250 ≤ a.toInt ∧ a.toInt ≤ 250) (hb : -250 ≤ b.toInt ∧ b.toInt ≤ 250) : (-250 ≤ (a + (b - a) / 4).toInt ∧ (a + (b - a) / 4).toInt ≤ 250) ∧ (-250 ≤ (b - (b - a) / 4).toInt ∧ (b - (b - a) / 4).toInt ≤ 250) := by
  refine ⟨mv (k := 4) (by decide) (by decide) ha hb, ?_⟩
  have e1 : (b - a).toInt = b.toInt - a.toInt := Kit.i32_sub (by omega) (by omega)
  have e2 : ((b - a) / 4).toInt = (b.toInt - a.toInt).tdiv 4 := by rw [dv (k := 4) (by decide) (by decide), e1]
  obtain ⟨t1, t2⟩ := td (a := b.toInt - a.toInt) (d := 4) (by decide)
  generalize (b.toInt - a.toInt).tdiv 4 = q at e2 t1 t2
  have e3 : (b - (b - a) / 4).toInt = b.toInt - q := by
    rw [Kit.i32_sub (by rw [e2]; omega) (by rw [e2]; omega), e2]
  rw [e3]
  omega
/-- the two grounds agree where a step looks -/
def GE (la : Nat) (G G' : GT) : Prop := (∀ j, j < la → G j = G' j) ∧ ∀ j, 5 ≤ j → j < 9 → G j = G' j
theorem GE.put {la : Nat} {G G' : GT} (h : GE la G G') (i : Nat) {x x' : Int32} (hx : x = x') : GE la (upd G i x) (upd G' i x') := by
  subst hx
  refine ⟨fun j hj => ?_, fun j h1 h2 => ?_⟩
  · simp only [upd]
    by_cases e : j = i <;> simp [e, h.1 j hj]
  · simp only [upd]
    by_cases e : j = i <;> simp [e, h.2 j h1 h2]
theorem GE.top {so la : Nat} {T : Int32} {G G' : GT} (h : GE la G G') (h1 : 1 ≤ la) : GE la (topG so T G) (topG so T G') := by
  unfold topG
  exact h.put 0 (by rw [h.1 0 (by omega)])
theorem GE.last {so la : Nat} {T : Int32} {G G' : GT} (h : GE la G G') (h1 : 1 ≤ la) : GE la (lastG so la T G) (lastG so la T G') := by
  unfold lastG
  split
  · exact h.put _ (by rw [h.1 (la - 1) (by omega)])
  · exact h
theorem GE.cond {la : Nat} {G G' : GT} (h : GE la G G') : ∀ k, k + 1 ≤ la → GE la (condN k G) (condN k G') := by
  intro k
  induction k with
  | zero => intro _; exact h
  | succ k ih =>
    intro hk
    have h2 := ih (by omega)
    show GE la (condS k (condN k G)) (condS k (condN k G'))
    unfold condS
    rw [h2.1 k (by omega), h2.1 (k + 1) (by omega)]
    exact (h2.put _ rfl).put _ rfl
theorem GE.warm {so la : Nat} {T : Int32} {G G' : GT} (h : GE la G G') (h1 : 1 ≤ la) : GE la (warmG so la T G) (warmG so la T G') := by
  unfold warmG
  exact ((h.top h1).last h1).cond (la - 1) (by omega)
theorem GE.melt {la : Nat} {G G' : GT} (h : GE la G G') (h1 : 1 ≤ la) : GE la (meltG G) (meltG G') := by
  have e0 := h.1 0 (by omega)
  have e5 := h.2 5 (by decide) (by decide)
  have e6 := h.2 6 (by decide) (by decide)
  have e7 := h.2 7 (by decide) (by decide)
  have e8 := h.2 8 (by decide) (by decide)
  have ep : pointF G = pointF G' := by unfold pointF; rw [e5, e6, e7, e8]
  unfold meltG
  rw [ep, e0, e5, e6, e7]
  split
  · exact ((h.put 5 rfl).put 7 rfl).put 0 rfl
  · exact (((h.put 6 rfl).put 7 rfl).put 5 rfl).put 0 rfl
theorem GE.runOff {la : Nat} {G G' : GT} (h : GE la G G') (x : Int32) : GE la (runOffG x G) (runOffG x G') := by
  have e5 := h.2 5 (by decide) (by decide)
  have e8 := h.2 8 (by decide) (by decide)
  unfold runOffG
  rw [e5, e8]
  split
  · exact h
  · exact (h.put 8 rfl).put 5 rfl
theorem GE.fall {la : Nat} {G G' : GT} (h : GE la G G') (a b : Int32) : GE la (fallG a b G) (fallG a b G') := by
  unfold fallG
  rw [h.2 5 (by decide) (by decide), h.2 6 (by decide) (by decide)]
  exact (h.put 5 rfl).put 6 rfl
theorem GE.salt {la : Nat} {G G' : GT} (h : GE la G G') (a : Int32) : GE la (saltG a G) (saltG a G') := by
  unfold saltG
  rw [h.2 8 (by decide) (by decide)]
  exact h.put 8 rfl
theorem GE.pack {la : Nat} {G G' : GT} (h : GE la G G') (a : Int32) : GE la (packG a G) (packG a G') := by
  unfold packG
  rw [h.2 6 (by decide) (by decide), h.2 7 (by decide) (by decide)]
  exact (h.put 6 rfl).put 7 rfl
theorem GE.step {so la : Nat} {T fl wt tr : Int32} {G G' : GT} (h : GE la G G') (h1 : 1 ≤ la) : GE la (stepG so la T fl wt tr G) (stepG so la T fl wt tr G') := by
  unfold stepG
  exact (((((h.warm h1).fall _ _).melt h1).runOff _).salt _).pack _
/-- bounds -/
theorem TPf_k {so : Nat} (h : so < 4) : (TPf so).toInt = 2 ∨ (TPf so).toInt = 3 ∨ (TPf so).toInt = 4 := by
  have : so = 0 ∨ so = 1 ∨ so = 2 ∨ so = 3 := by omega
  rcases this with rfl | rfl | rfl | rfl <;> decide
theorem BW_put {la : Nat} {G : GT} (h : ∀ j, j < la → -250 ≤ (G j).toInt ∧ (G j).toInt ≤ 250) (i : Nat) {x : Int32} (hx : -250 ≤ x.toInt ∧ x.toInt ≤ 250) : ∀ j, j < la → -250 ≤ (upd G i x j).toInt ∧ (upd G i x j).toInt ≤ 250 := by
  intro j hj
  simp only [upd]
  by_cases e : j = i
  · simp [e, hx]
  · simp [e, h j hj]
theorem BW_warm {so la : Nat} {T : Int32} {G : GT} (hs : so < 4) (h1 : 1 ≤ la) (hT : -250 ≤ T.toInt ∧ T.toInt ≤ 250) (h : ∀ j, j < la → -250 ≤ (G j).toInt ∧ (G j).toInt ≤ 250) : ∀ j, j < la → -250 ≤ (warmG so la T G j).toInt ∧ (warmG so la T G j).toInt ≤ 250 := by
  have a1 : ∀ j, j < la → -250 ≤ (topG so T G j).toInt ∧ (topG so T G j).toInt ≤ 250 := by
    refine BW_put h 0 ?_
    rcases TPf_k hs with e | e | e
    · exact mv e (by decide) (h 0 (by omega)) hT
    · exact mv e (by decide) (h 0 (by omega)) hT
    · exact mv e (by decide) (h 0 (by omega)) hT
  have a2 : ∀ j, j < la → -250 ≤ (lastG so la T (topG so T G) j).toInt ∧ (lastG so la T (topG so T G) j).toInt ≤ 250 := by
    unfold lastG
    split
    · exact BW_put a1 _ (mv (k := 4) (by decide) (by decide) (a1 (la - 1) (by omega)) hT)
    · exact a1
  have a3 : ∀ k, k + 1 ≤ la → ∀ j, j < la → -250 ≤ (condN k (lastG so la T (topG so T G)) j).toInt ∧ (condN k (lastG so la T (topG so T G)) j).toInt ≤ 250 := by
    intro k
    induction k with
    | zero => intro _; exact a2
    | succ k ih =>
      intro hk
      have h2 := ih (by omega)
      have h3 := tw (h2 k (by omega)) (h2 (k + 1) (by omega))
      exact BW_put (BW_put h2 k h3.1) (k + 1) h3.2
  exact a3 (la - 1) (by omega)
theorem mn {x y : Int32} : (minJ x y).toInt ≤ x.toInt ∧ (minJ x y).toInt ≤ y.toInt ∧ ((minJ x y).toInt = x.toInt ∨ (minJ x y).toInt = y.toInt) := by
  unfold minJ
  by_cases h : y < x
  · rw [if_pos h]
    have := Int32.lt_iff_toInt_lt.mp h
    omega
  · rw [if_neg h]
    have := Int32.le_iff_toInt_le.mp (Int32.not_lt.mp h)
    omega
theorem rainB {fl wt : Int32} (hf : 0 ≤ fl.toInt ∧ fl.toInt ≤ 99) (hw : 0 ≤ wt.toInt ∧ wt.toInt ≤ 10) : 0 ≤ (fl * wt / 10).toInt ∧ (fl * wt / 10).toInt ≤ fl.toInt := by
  have p1 : 0 ≤ fl.toInt * wt.toInt := Int.mul_nonneg hf.1 hw.1
  have p2 : fl.toInt * wt.toInt ≤ fl.toInt * 10 := Int.mul_le_mul_of_nonneg_left hw.2 hf.1
  have e1 : (fl * wt).toInt = fl.toInt * wt.toInt := Kit.i32_mul (by omega) (by omega)
  have e2 : (fl * wt / 10).toInt = (fl.toInt * wt.toInt).tdiv 10 := by rw [dv (k := 10) (by decide) (by decide), e1]
  obtain ⟨t1, -⟩ := td (a := fl.toInt * wt.toInt) (d := 10) (by decide)
  have := t1 p1
  rw [e2]
  omega
theorem pointB {G : GT} {N : Int} (h5 : 0 ≤ (G 5).toInt) (h6 : 0 ≤ (G 6).toInt) (h7 : 0 ≤ (G 7).toInt) (hs : (G 5).toInt + (G 6).toInt + (G 7).toInt ≤ N) (hN : N ≤ 1000000) (h8 : 0 ≤ (G 8).toInt ∧ (G 8).toInt ≤ 20000) : -80 ≤ (pointF G).toInt ∧ (pointF G).toInt ≤ 0 := by
  have e1 : (G 5 + G 6).toInt = (G 5).toInt + (G 6).toInt := Kit.i32_add (by omega) (by omega)
  have e2 : (G 5 + G 6 + G 7).toInt = (G 5).toInt + (G 6).toInt + (G 7).toInt := by rw [Kit.i32_add (by omega) (by omega), e1]
  have c10 : (10 : Int32).toInt = 10 := by decide
  have e3 : (G 5 + G 6 + G 7 + 10).toInt = (G 5).toInt + (G 6).toInt + (G 7).toInt + 10 := by rw [Kit.i32_add (by omega) (by omega), e2, c10]
  have e4 : (10 * G 8).toInt = 10 * (G 8).toInt := by rw [Kit.i32_mul (by rw [c10]; omega) (by rw [c10]; omega), c10]
  have e5 : (10 * G 8 / (G 5 + G 6 + G 7 + 10)).toInt = (10 * (G 8).toInt).tdiv ((G 5).toInt + (G 6).toInt + (G 7).toInt + 10) := by rw [dv e3 (by omega), e4]
  obtain ⟨t1, -⟩ := td (a := 10 * (G 8).toInt) (d := (G 5).toInt + (G 6).toInt + (G 7).toInt + 10) (by omega)
  obtain ⟨u1, u2, u3⟩ := t1 (by omega)
  generalize (10 * (G 8).toInt).tdiv ((G 5).toInt + (G 6).toInt + (G 7).toInt + 10) = q at e5 u1 u2 u3
  have u4 : 1 * q ≤ ((G 5).toInt + (G 6).toInt + (G 7).toInt + 10) * q := Int.mul_le_mul_of_nonneg_right (by omega) u1
  have e6 : (-(10 * G 8 / (G 5 + G 6 + G 7 + 10))).toInt = -q := by rw [Kit.i32_neg (by rw [e5]; omega), e5]
  have c80 : (-80 : Int32).toInt = -80 := by decide
  unfold pointF maxJ
  by_cases h : -80 < -(10 * G 8 / (G 5 + G 6 + G 7 + 10))
  · rw [if_pos h, e6]
    have := Int32.lt_iff_toInt_lt.mp h
    rw [c80, e6] at this
    omega
  · rw [if_neg h, c80]
    omega
