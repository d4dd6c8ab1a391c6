/-- System.arraycopy of ints -/
def cpI (I : MI) (a0 sp a dp n : Nat) : MI := fun b j => if b = a ∧ dp ≤ j ∧ j < dp + n then I a0 (sp + (j - dp)) else I b j
section WQD
variable {M : MX} {pc : Nat} {L : List (Option Value)} {S : List Value} {I : MI} {r : MR} {J : MJ} {post : Option Value → Nat → AH → Prop}
theorem q_copy {i0 a0 a N0' N1 : Nat} {sp dp c0 : Int32} (hd : decode M.1 pc = .ok (.invokestatic i0, 3)) {q : Nat} (hq : pc + 3 = q) (hl0 : Cond.methodLink M.2.1 i0 arraycopyName ∈ TBg) (hna : Cond.native arraycopyName ∈ TBg) (hst : Cond.static arraycopyName ∈ TBg) (hin : Cond.initialized "java/lang/System" ∈ TBg) (hfr : 1 ≤ M.2.2.2.2.1.frames) (hlo : (S.map fun v => v.category).sum + 18 ≤ M.2.2.2.2.1.locals) (hs0 : SH a0 = (0, N0')) (hs1 : SH a = (0, N1)) (h1 : ¬ sp < 0) (h2 : ¬ dp < 0) (h3 : ¬ c0 < 0) (h4 : sp.toNatClampNeg + c0.toNatClampNeg ≤ N0') (h5 : dp.toNatClampNeg + c0.toNatClampNeg ≤ N1) (kk : ∀ I' : MI, I' = cpI I a0 sp.toNatClampNeg a dp.toNatClampNeg c0.toNatClampNeg → Wp M q L S 146 (hp I' r J) 0 0 post) : Wp M pc L (.int c0 :: .int dp :: .ref a :: .int sp :: .ref a0 :: S) 146 (hp I r J) 0 0 post := by
  subst hq
  intro p l e s m args below meth c D ca N0 xa C H locs ls hn hz hP hS hl T hT X
  have hsz := X.heapSize
  have han0 := SH_lt hs0 (by decide)
  have han := SH_lt hs1 (by decide)
  have he0 : (wd N0 xa ca 146 (hp I r J))[a0]? = some (N0 + a0, .inl (ca 0, N0', .inl (I a0))) := by rw [wd_at han0, hp_I hs0 (by decide)]; rfl
  have he1 : (wd N0 xa ca 146 (hp I r J))[a]? = some (N0 + a, .inl (ca 0, N1, .inl (I a))) := by rw [wd_at han, hp_I hs1 (by decide)]; rfl
  have hg : F0 m pc ls ((Value.int c0 :: .int dp :: .ref a :: .int sp :: .ref a0 :: S).map (cv (ad N0 xa))) = F0 m pc ls (.int c0 :: .int dp :: .ref (N0 + a) :: .int sp :: .ref (N0 + a0) :: S.map (cv (ad N0 xa))) := by
    simp only [List.map_cons]
    rw [cv_ref (by omega), cv_ref (by omega)]
    rfl
  rw [hg]
  have hts := C.2.2.2.2.2.2.1
  refine va_copyi (ty := .int) C.1 C.2.1 (C.2.2.1.trans hl.1.symm) C.2.2.2.2.2.1 (hts _ hl0) (hts _ hna) (hts _ hst) (hts _ hin) C.2.2.2.2.2.2.2.1 hP wd_D hS a0 a 0 0 he0 he1 rfl rfl rfl h1 h2 h3 h4 h5 (fun i _ => rfl) hfr (by rw [cv_sum]; exact hlo) hd (fun H1 locs1 hP1 _ hS1 => ?_) T hT X
  intro T1 hT1 X1
  have hsz1 := X1.heapSize
  have e1 : H1.size = H.size := by
    have := hS.1
    have := hS1.1
    rw [hT] at hsz
    rw [hT1] at hsz1
    omega
  have e2 : (wd N0 xa ca 146 (hp I r J)).set a (N0 + a, .inl (ca 0, N1, .inl (va_cpy (I a0) (I a) sp.toNatClampNeg dp.toNatClampNeg c0.toNatClampNeg))) = wd N0 xa ca 146 (hp (cpI I a0 sp.toNatClampNeg a dp.toNatClampNeg c0.toNatClampNeg) r J) := by
    have e3 := wd_set (N0 := N0) (xa := xa) (ca := ca) (n := 146) (a := a) (h := hp I r J) (cI 0 N1 (va_cpy (I a0) (I a) sp.toNatClampNeg dp.toNatClampNeg c0.toNatClampNeg))
    refine Eq.trans e3 (congrArg (wd N0 xa ca 146) ?_)
    funext b
    by_cases e : b = a
    · subst e
      rw [hup_self, hp_I hs1 (by decide)]
      refine congrArg (cI 0 N1) ?_
      funext j
      simp [va_cpy, cpI]
    · rw [hup_ne e]
      have e4 : cpI I a0 sp.toNatClampNeg a dp.toNatClampNeg c0.toNatClampNeg b = I b := by funext j; simp [cpI, e]
      unfold hp
      have e5 : fv ((SH b).1 - 10) (cpI I a0 sp.toNatClampNeg a dp.toNatClampNeg c0.toNatClampNeg) r J b = fv ((SH b).1 - 10) I r J b := by funext j; simp [fv, e4]
      rw [e4, e5]
  rw [e2] at hP1
  exact kk _ rfl p l e s m args below meth c D ca N0 xa C H1 locs1 ls hn (hz.trans e1.symm) hP1 hS1 hl T1 hT1 X1
end WQD
theorem sh_G : ∀ g, g < 146 → SH g = (14, 5) → SH (g + 1) = (0, 5) ∧ RF g 0 = some (g + 1) ∧ (g ≠ 0 ∧ g ≠ 54 ∧ g ≠ 55 ∧ g ≠ 58) := by decide
theorem sh_T : ∀ g, g < 146 → SH g = (20, 6) → SH (g + 1) = (0, 5) ∧ RF g 5 = some (g + 1) ∧ (g ≠ 0 ∧ g ≠ 54 ∧ g ≠ 55 ∧ g ≠ 58) := by decide
theorem sh_L : ∀ b, b < 146 → SH b = (15, 18) → b = 2 ∨ b = 28 := by decide
theorem RR_RF {r : MR} {a K : Nat} (h : a ≠ 0 ∧ a ≠ 54 ∧ a ≠ 55 ∧ a ≠ 58) : RR r a K = RF a K := by
  unfold RR
  simp [h.1, h.2.1, h.2.2.1, h.2.2.2]
theorem gr_w {g : Nat} (h : SH g = (14, 5)) (r : MR) : RR r g 0 = some (g + 1) := by
  obtain ⟨_, h2, h3⟩ := sh_G g (SH_lt h (by decide)) h
  rw [RR_RF h3, h2]
theorem gs_w {g : Nat} (h : SH g = (14, 5)) : SH (g + 1) = (0, 5) := (sh_G g (SH_lt h (by decide)) h).1
theorem tr_w {g : Nat} (h : SH g = (20, 6)) (r : MR) : RR r g 5 = some (g + 1) := by
  obtain ⟨_, h2, h3⟩ := sh_T g (SH_lt h (by decide)) h
  rw [RR_RF h3, h2]
theorem ts_w {g : Nat} (h : SH g = (20, 6)) : SH (g + 1) = (0, 5) := (sh_T g (SH_lt h (by decide)) h).1
/-- the rows of a land, by the field's number -/
theorem lr_w {b : Nat} (h : SH b = (15, 18)) (r : MR) : RR r b 0 = some (b + 1) ∧ RR r b 2 = some (b + 2) ∧ RR r b 3 = some (b + 3) ∧ RR r b 4 = some (b + 4) ∧ RR r b 6 = some (b + 5) ∧ RR r b 7 = some (b + 6) ∧ RR r b 8 = some (b + 7) ∧ RR r b 10 = some (b + 8) ∧ RR r b 11 = some (b + 9) := by
  rcases sh_L b (SH_lt h (by decide)) h with rfl | rfl <;> exact ⟨rfl, rfl, rfl, rfl, rfl, rfl, rfl, rfl, rfl⟩
theorem ls_w {b : Nat} (h : SH b = (15, 18)) : SH (b + 1) = (4, 8) ∧ SH (b + 2) = (0, 16) ∧ SH (b + 3) = (0, 16) ∧ SH (b + 4) = (0, 16) ∧ SH (b + 5) = (0, 12) ∧ SH (b + 6) = (0, 12) ∧ SH (b + 7) = (0, 12) ∧ SH (b + 8) = (0, 7) ∧ SH (b + 9) = (0, 7) := by
  rcases sh_L b (SH_lt h (by decide)) h with rfl | rfl <;> decide
theorem lt_8 {j : Nat} (h : j < 8) : j = 0 ∨ j = 1 ∨ j = 2 ∨ j = 3 ∨ j = 4 ∨ j = 5 ∨ j = 6 ∨ j = 7 := by omega
/-- the yards of a land, the grounds of the day -/
theorem ly_w {b j : Nat} (h : SH b = (15, 18)) (hj : j < 8) (r : MR) : RR r (b + 1) j = some (b + 10 + 2 * j) ∧ SH (b + 10 + 2 * j) = (20, 6) := by
  rcases sh_L b (SH_lt h (by decide)) h with rfl | rfl <;> rcases lt_8 hj with rfl | rfl | rfl | rfl | rfl | rfl | rfl | rfl <;> exact ⟨rfl, rfl⟩
theorem gy_w {j : Nat} (hj : j < 8) (r : MR) : RR r 59 j = some (60 + 2 * j) ∧ SH (60 + 2 * j) = (14, 5) := by
  rcases lt_8 hj with rfl | rfl | rfl | rfl | rfl | rfl | rfl | rfl <;> exact ⟨rfl, rfl⟩
theorem lt_3 {j : Nat} (h : j < 3) : j = 0 ∨ j = 1 ∨ j = 2 := by omega
theorem bx_w {j : Nat} (hj : j < 3) (r : MR) : RR r 95 j = some (96 + j) ∧ SH (96 + j) = (0, 75) := by
  rcases lt_3 hj with rfl | rfl | rfl <;> exact ⟨rfl, rfl⟩
