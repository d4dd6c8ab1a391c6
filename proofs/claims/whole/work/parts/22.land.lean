/-! a land of the class that can be, and a yard's step by it -/
def yOk (I : MI) (b y : Nat) : Prop := ∃ so la : Nat, I (b + 10 + 2 * y) 1 = nI so ∧ so < 4 ∧ I (b + 10 + 2 * y) 4 = nI la ∧ 1 ≤ la ∧ la ≤ 5 ∧ (0 ≤ (I (b + 10 + 2 * y) 2).toInt ∧ (I (b + 10 + 2 * y) 2).toInt ≤ 99) ∧ (0 ≤ (I (b + 10 + 2 * y) 3).toInt ∧ (I (b + 10 + 2 * y) 3).toInt ≤ 99) ∧ ∀ j, j < la → -200 ≤ (I (b + 11 + 2 * y) j).toInt ∧ (I (b + 11 + 2 * y) j).toInt ≤ 200
def hOk (I : MI) (b hn : Nat) : Prop := (∀ h, h < hn → (0 ≤ (I (b + 5) h).toInt ∧ (I (b + 5) h).toInt ≤ 99) ∧ (-200 ≤ (I (b + 6) h).toInt ∧ (I (b + 6) h).toInt ≤ 200) ∧ (0 ≤ (I (b + 7) h).toInt ∧ (I (b + 7) h).toInt ≤ 10)) ∧ (hn = 0 → I (b + 5) 0 = 0 ∧ I (b + 6) 0 = 0 ∧ I (b + 7) 0 = 0)
def LOk (I : MI) (b yn hn : Nat) : Prop := SH b = (15, 18) ∧ I b 1 = nI yn ∧ yn ≤ 8 ∧ I b 9 = nI hn ∧ hn ≤ 12 ∧ (∀ y, y < yn → yOk I b y) ∧ hOk I b hn
def hourN (s hn : Nat) : Nat := if hn = 0 then 0 else if s / 6 < hn - 1 then s / 6 else hn - 1
theorem hourN_lt (s : Nat) {hn : Nat} (h : hn ≤ 12) : hourN s hn < 12 := by
  unfold hourN
  split
  · decide
  · split <;> omega
theorem hourN_in (s : Nat) {hn : Nat} (h0 : ¬ hn = 0) : hourN s hn < hn := by
  unfold hourN
  rw [if_neg h0]
  split <;> omega
theorem s6 {s : Nat} (hs : s ≤ 800) : nI s / 6 = nI (s / 6) := pk_div (d := 6) (by omega) (by decide) (by decide)
theorem hourF_N {s hn : Nat} (hs : s ≤ 800) (h : hn ≤ 12) : hourF (nI s) (nI hn) = nI (hourN s hn) := by
  unfold hourF hourN
  rw [s6 hs]
  by_cases h0 : hn = 0
  · subst h0
    rw [if_pos rfl]
    unfold minJ
    have e : nI 0 - 1 = -1 := by decide
    rw [e]
    have h1 : (-1 : Int32) < nI (s / 6) := by
      rw [Int32.lt_iff_toInt_lt, nI_toInt (by omega)]
      have : (-1 : Int32).toInt = -1 := by decide
      omega
    rw [if_pos h1]
    decide
  · rw [if_neg h0]
    have e : nI hn - 1 = nI (hn - 1) := pk_sub (a := hn) (b := 1) (by omega)
    rw [e]
    have e2 : minJ (nI (s / 6)) (nI (hn - 1)) = nI (if s / 6 < hn - 1 then s / 6 else hn - 1) := by
      unfold minJ
      by_cases h2 : s / 6 < hn - 1
      · rw [if_pos h2, if_neg]
        rw [nI_ltI (by omega) (by omega)]
        omega
      · rw [if_neg h2]
        by_cases h3 : hn - 1 < s / 6
        · rw [if_pos ((nI_ltI (by omega) (by omega)).mpr h3)]
        · rw [if_neg (fun q => h3 ((nI_ltI (by omega) (by omega)).mp q))]
          rw [show s / 6 = hn - 1 by omega]
    rw [e2]
    generalize hx : (if s / 6 < hn - 1 then s / 6 else hn - 1) = x
    have hx2 : x < 12 := by rw [← hx]; split <;> omega
    unfold maxJ
    by_cases h4 : (0 : Int32) < nI x
    · rw [if_pos h4]
    · rw [if_neg h4]
      have h5 : ¬ 0 < x := fun q => h4 ((nI_ltI (a := 0) (by omega) (by omega)).mpr q)
      rw [show x = 0 by omega]
      rfl
def soN (I : MI) (b y : Nat) : Nat := (I (b + 10 + 2 * y) 1).toNatClampNeg
def laN (I : MI) (b y : Nat) : Nat := (I (b + 10 + 2 * y) 4).toNatClampNeg
/-- a yard's step number s (0 the first), with a shift -/
def stepY (I : MI) (b y hn : Nat) (sh : Int32) (s : Nat) (G : GT) : GT := stepG (soN I b y) (laN I b y) (I (b + 6) (hourN s hn) + sh) (I (b + 5) (hourN s hn)) (I (b + 7) (hourN s hn)) (I (b + 10 + 2 * y) 3) G
theorem la_of {I : MI} {b y so la : Nat} (h : I (b + 10 + 2 * y) 4 = nI la) (h5 : la ≤ 5) : laN I b y = la := by
  unfold laN
  rw [h]
  exact nI_clamp (by omega)
theorem so_of {I : MI} {b y so : Nat} (h : I (b + 10 + 2 * y) 1 = nI so) (h5 : so < 4) : soN I b y = so := by
  unfold soN
  rw [h]
  exact nI_clamp (by omega)
def ShOk (sh : Int32) : Prop := -50 ≤ sh.toInt ∧ sh.toInt ≤ 50
theorem c0i : (0 : Int32).toInt = 0 := by decide
theorem envOk {I : MI} {b hn : Nat} (h : hOk I b hn) {sh : Int32} (hsh : ShOk sh) (s : Nat) {tr : Int32} (ht : 0 ≤ tr.toInt ∧ tr.toInt ≤ 99) : EB (I (b + 6) (hourN s hn) + sh) (I (b + 5) (hourN s hn)) (I (b + 7) (hourN s hn)) tr := by
  have key : (0 ≤ (I (b + 5) (hourN s hn)).toInt ∧ (I (b + 5) (hourN s hn)).toInt ≤ 99) ∧ (-200 ≤ (I (b + 6) (hourN s hn)).toInt ∧ (I (b + 6) (hourN s hn)).toInt ≤ 200) ∧ (0 ≤ (I (b + 7) (hourN s hn)).toInt ∧ (I (b + 7) (hourN s hn)).toInt ≤ 10) := by
    by_cases h0 : hn = 0
    · have e : hourN s hn = 0 := by unfold hourN; rw [if_pos h0]
      obtain ⟨e1, e2, e3⟩ := h.2 h0
      rw [e, e1, e2, e3, c0i]
      decide
    · exact h.1 _ (hourN_in s h0)
  obtain ⟨k1, k2, k3⟩ := key
  have e : (I (b + 6) (hourN s hn) + sh).toInt = (I (b + 6) (hourN s hn)).toInt + sh.toInt := Kit.i32_add (by have := hsh.1; omega) (by have := hsh.2; omega)
  refine ⟨?_, k1, k3, ht⟩
  rw [e]
  have := hsh.1
  have := hsh.2
  omega
theorem GB_stepY {I : MI} {b yn hn y n : Nat} (h : LOk I b yn hn) (hy : y < yn) {sh : Int32} (hsh : ShOk sh) (s : Nat) (hn9 : n ≤ 900) {G : GT} (hG : GB (laN I b y) n G) : GB (laN I b y) (n + 1) (stepY I b y hn sh s G) := by
  obtain ⟨hb, e1, h8, e9, h12, hys, hh⟩ := h
  obtain ⟨so, la, q1, q2, q3, q4, q5, q6, q7, q8⟩ := hys y hy
  unfold stepY
  rw [so_of q1 q2]
  rw [la_of (so := so) q3 q5] at hG ⊢
  exact (GB_step q2 q4 q5 hn9 (envOk hh hsh s q7) hG).1
theorem c_stepY {g : Nat} (hg : SH g = (14, 5)) {I : MI} {b yn hn y n : Nat} (h : LOk I b yn hn) (hy : y < yn) {sh : Int32} (hsh : ShOk sh) {s : Nat} (hs : s ≤ 800) (hn9 : n ≤ 900) {G : GT} (hG : GB (laN I b y) n G) (r : MR) (J : MJ) : Cq yX4_goStep MX4_goStep [.ref g, .ref (b + 10 + 2 * y), .ref b, .int (nI s), .int sh] (gPut I g G) r J (Rt none (gPut I g (stepY I b y hn sh s G)) r J) := by
  obtain ⟨hb, e1, h8, e9, h12, hys, hh⟩ := h
  obtain ⟨so, la, q1, q2, q3, q4, q5, q6, q7, q8⟩ := hys y hy
  unfold stepY
  rw [so_of q1 q2]
  rw [la_of (so := so) q3 q5] at hG ⊢
  have hst := GB_step q2 q4 q5 hn9 (envOk hh hsh s q7) hG
  exact c_goStep hg (ly_w hb (show y < 8 by omega) r).2 hb (nI s) sh I q1 q2 q3 q4 q5 (by rw [e9]; exact hourF_N hs h12) (hourN_lt s h12) G hst.2.2.1 r J
/-- k steps from step s on -/
def trajY (I : MI) (b y hn : Nat) (sh : Int32) (s : Nat) : Nat → GT → GT
  | 0, G => G
  | k + 1, G => stepY I b y hn sh (s + k) (trajY I b y hn sh s k G)
theorem GB_traj {I : MI} {b yn hn y n : Nat} (h : LOk I b yn hn) (hy : y < yn) {sh : Int32} (hsh : ShOk sh) (s : Nat) {G : GT} (hG : GB (laN I b y) n G) : ∀ k, n + k ≤ 900 → GB (laN I b y) (n + k) (trajY I b y hn sh s k G) := by
  intro k
  induction k with
  | zero => intro _; exact hG
  | succ k ih =>
    intro hk
    exact GB_stepY h hy hsh (s + k) (show n + k ≤ 900 by omega) (ih (by omega))
