/-! bits -/
theorem bitsN_s (p : Nat → Bool) (n : Nat) : bitsN p (n + 1) = bitsN p n + (if p n then 2 ^ n else 0) := rfl
theorem bitsN_lt (p : Nat → Bool) : ∀ n, bitsN p n < 2 ^ n := by
  intro n
  induction n with
  | zero => exact Nat.one_pos
  | succ n ih =>
    have e : 2 ^ (n + 1) = 2 ^ n + 2 ^ n := by rw [Nat.pow_succ]; omega
    unfold bitsN
    rw [e]
    by_cases h : p n = true
    · rw [if_pos h]; omega
    · rw [if_neg h]; omega
theorem bitsN_tb (p : Nat → Bool) : ∀ n k, (bitsN p n).testBit k = (decide (k < n) && p k) := by
  intro n
  induction n with
  | zero => intro k; simp [bitsN]
  | succ n ih =>
    intro k
    by_cases h : p n = true
    · have e : bitsN p (n + 1) = 2 ^ n + bitsN p n := by
        rw [bitsN_s, if_pos h, Nat.add_comm]
      rw [e]
      rcases Nat.lt_trichotomy k n with q | q | q
      · rw [Nat.testBit_two_pow_add_gt q, ih k]
        have h1 : k < n + 1 := by omega
        simp [q, h1]
      · subst q
        rw [Nat.testBit_two_pow_add_eq, ih k]
        simp [h]
      · rw [Nat.testBit_lt_two_pow (show 2 ^ n + bitsN p n < 2 ^ k by
          have := bitsN_lt p (n + 1)
          rw [e] at this
          exact Nat.lt_of_lt_of_le this (Nat.pow_le_pow_right (by decide) q))]
        have h1 : ¬ k < n + 1 := by omega
        simp [h1]
    · have e : bitsN p (n + 1) = bitsN p n := by
        rw [bitsN_s, if_neg h, Nat.add_zero]
      rw [e, ih k]
      by_cases q : k < n
      · have h1 : k < n + 1 := by omega
        simp [q, h1]
      · by_cases q2 : k = n
        · subst q2
          simp [h]
        · have h1 : ¬ k < n + 1 := by omega
          simp [q, h1]
theorem nI_and (a b : Nat) : nI a &&& nI b = nI (a &&& b) := Int32.toBitVec_inj.mp (BitVec.ofNat_and (w := 32)).symm
theorem nI_or (a b : Nat) : nI a ||| nI b = nI (a ||| b) := Int32.toBitVec_inj.mp (BitVec.ofNat_or (w := 32)).symm
theorem bitsN_and (p q : Nat → Bool) (n : Nat) : bitsN p n &&& bitsN q n = bitsN (fun k => p k && q k) n := by
  apply Nat.eq_of_testBit_eq
  intro k
  rw [Nat.testBit_and, bitsN_tb, bitsN_tb, bitsN_tb]
  cases decide (k < n) <;> simp
theorem bitsN_or (p q : Nat → Bool) (n : Nat) : bitsN p n ||| bitsN q n = bitsN (fun k => p k || q k) n := by
  apply Nat.eq_of_testBit_eq
  intro k
  rw [Nat.testBit_or, bitsN_tb, bitsN_tb, bitsN_tb]
  cases decide (k < n) <;> simp
theorem bitsN_1 (p : Nat → Bool) (n : Nat) (x : Nat) (hx : x = if p n then 2 ^ n else 0) : bitsN p n ||| x = bitsN p (n + 1) := by
  apply Nat.eq_of_testBit_eq
  intro k
  rw [Nat.testBit_or, bitsN_tb, bitsN_tb, hx]
  by_cases h : p n = true
  · rw [if_pos h, Nat.testBit_two_pow]
    by_cases e : n = k
    · subst e
      simp [h]
    · by_cases q : k < n
      · have h1 : k < n + 1 := by omega
        simp [q, h1, e]
      · have h1 : ¬ k < n + 1 := by omega
        simp [q, h1, e]
  · rw [if_neg h, Nat.zero_testBit, Bool.or_false]
    by_cases q : k < n
    · have h1 : k < n + 1 := by omega
      simp [q, h1]
    · by_cases q2 : k = n
      · subst q2
        simp [h]
      · have h1 : ¬ k < n + 1 := by omega
        simp [q, h1]
theorem bitsN_all : ∀ n, bitsN (fun _ => true) n = 2 ^ n - 1 := by
  intro n
  induction n with
  | zero => rfl
  | succ n ih =>
    unfold bitsN
    have e : 2 ^ (n + 1) = 2 ^ n + 2 ^ n := by rw [Nat.pow_succ]; omega
    have := Nat.two_pow_pos n
    rw [ih, e, if_pos rfl]
    omega
theorem bitsN_c {p q : Nat → Bool} : ∀ n, (∀ k, k < n → p k = q k) → bitsN p n = bitsN q n := by
  intro n
  induction n with
  | zero => intro _; rfl
  | succ n ih =>
    intro h
    unfold bitsN
    rw [ih (fun k hk => h k (by omega)), h n (by omega)]
theorem lt_9' {j : Nat} (h : j ≤ 8) : j = 0 ∨ j = 1 ∨ j = 2 ∨ j = 3 ∨ j = 4 ∨ j = 5 ∨ j = 6 ∨ j = 7 ∨ j = 8 := by omega
theorem sh1 {s : Nat} (h : s ≤ 8) : (1 : Int32) <<< (nI s &&& 31) = nI (2 ^ s) := by
  rcases lt_9' h with rfl | rfl | rfl | rfl | rfl | rfl | rfl | rfl | rfl <;> decide
theorem sh1m {s : Nat} (h : s ≤ 8) : (1 : Int32) <<< (nI s &&& 31) - 1 = nI (2 ^ s - 1) := by
  rcases lt_9' h with rfl | rfl | rfl | rfl | rfl | rfl | rfl | rfl | rfl <;> decide
theorem shq {s : Nat} (h : s ≤ 8) : ((nI s &&& 31).toBitVec.smod 32).toNat = s := by
  rcases lt_9' h with rfl | rfl | rfl | rfl | rfl | rfl | rfl | rfl | rfl <;> decide
theorem bit_v {N i : Nat} (hN : N < 2 ^ 31) (hi : i ≤ 8) : (nI N >>> (nI i &&& 31)) &&& 1 = if N.testBit i then 1 else 0 := by
  rw [pk_shrN hN (nI i &&& 31) i (shq hi), pk_andN (m := 1) (by have := Nat.div_le_self N (2 ^ i); omega) 1 (by decide), Nat.testBit_eq_decide_div_mod_eq]
  have : N / 2 ^ i % 2 = 0 ∨ N / 2 ^ i % 2 = 1 := by omega
  rcases this with q | q
  · rw [show (2 : Nat) ^ 1 = 2 from rfl, q]; rfl
  · rw [show (2 : Nat) ^ 1 = 2 from rfl, q]; rfl
theorem bit_0 {N i : Nat} (hN : N < 2 ^ 31) (hi : i ≤ 8) : (nI N >>> (nI i &&& 31)) &&& 1 = 0 ↔ N.testBit i = false := by
  rw [bit_v hN hi]
  cases N.testBit i <;> decide
theorem bit_1 {N i : Nat} (hN : N < 2 ^ 31) (hi : i ≤ 8) : (nI N >>> (nI i &&& 31)) &&& 1 = 1 ↔ N.testBit i = true := by
  rw [bit_v hN hi]
  cases N.testBit i <;> decide
/-- does a glass count at a time, by the model's words -/
def cntB (I : MI) (k : Int32) (g : Nat) : Bool := decide (I 139 g ≤ k) && (decide (I 140 g < 0) || decide (k < I 140 g))
def gfit (I : MI) (b hn g : Nat) : Nat → Bool := fitB I b hn (I 134 g).toNatClampNeg (I 135 g).toNatClampNeg (I 136 g).toNatClampNeg (I 137 g) (I 138 g)
def lftB (I : MI) (b hn : Nat) (k : Int32) : Nat → Nat → Bool
  | 0, _ => true
  | g + 1, s => lftB I b hn k g s && (!cntB I k g || gfit I b hn g s)
def lftN (I : MI) (b hn sn gn : Nat) (k : Int32) : Nat := bitsN (fun s => lftB I b hn k gn s) sn
theorem lftN_lt {I : MI} {b hn sn gn : Nat} {k : Int32} (h : sn ≤ 7) : lftN I b hn sn gn k < 128 := by
  have := bitsN_lt (fun s => lftB I b hn k gn s) sn
  have h2 : 2 ^ sn ≤ 2 ^ 7 := Nat.pow_le_pow_right (by decide) h
  unfold lftN
  omega
theorem lftB_mono {I : MI} {b hn : Nat} {k : Int32} {s g : Nat} (h : lftB I b hn k g s = false) : ∀ m, lftB I b hn k (g + m) s = false := by
  intro m
  induction m with
  | zero => exact h
  | succ m ih =>
    show (lftB I b hn k (g + m) s && _) = false
    rw [ih]
    rfl
theorem gl_fit {I : MI} {b yn hn sn gn g : Nat} (h : ∀ g, g < gn → I 139 g = I 89 g ∧ I 140 g = I 90 g ∧ (I 90 g = -1 ∨ 0 ≤ (I 90 g).toInt) ∧ ∃ y l s : Nat, y < yn ∧ l < laN I b y ∧ s ≤ 72 ∧ I 134 g = nI y ∧ I 135 g = nI l ∧ I 136 g = nI s ∧ Ib (I 137 g) (-999) 999 ∧ Ib (I 138 g) 0 99 ∧ I 91 g = nI (bitsN (fitB I b hn y l s (I 137 g) (I 138 g)) sn)) (h8 : yn ≤ 8) (h5 : ∀ y, y < yn → laN I b y ≤ 5) (hg : g < gn) : I 91 g = nI (bitsN (gfit I b hn g) sn) := by
  obtain ⟨-, -, -, y, l, s, p1, p2, p3, p4, p5, p6, p7, p8, p9⟩ := h g hg
  have := h5 y p1
  unfold gfit
  rw [p4, p5, p6, nI_clamp (by omega), nI_clamp (by omega), nI_clamp (by omega)]
  exact p9
/-- the class's reading of it -/
theorem cnt_x {I : MI} {k : Int32} {g : Nat} (h1 : I 139 g = I 89 g) (h2 : I 140 g = I 90 g) (h3 : I 90 g = -1 ∨ 0 ≤ (I 90 g).toInt) : cntB I k g = true ↔ (¬ k < I 89 g ∧ (I 90 g = -1 ∨ k < I 90 g)) := by
  unfold cntB
  rw [h1, h2]
  simp only [Bool.and_eq_true, Bool.or_eq_true, decide_eq_true_eq, Int32.not_lt]
  refine and_congr_right fun _ => or_congr_left ?_
  rcases h3 with q | q
  · rw [q]
    decide
  · rw [Int32.lt_iff_toInt_lt, Int32.toInt_zero]
    constructor
    · intro z; omega
    · intro z
      rw [z] at q
      exact absurd q (by decide)
