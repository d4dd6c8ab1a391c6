theorem lN_orr (a b : Nat) : lN a ||| lN b = lN (a ||| b) := Int64.toBitVec_inj.mp (BitVec.ofNat_or (w := 64)).symm
theorem sh64 {n : Nat} {y : Int64} {k : Nat} (hk : k < 64) (e : y.toBitVec.smod 64 = BitVec.ofNat 64 k) : lN n <<< y = lN (n * 2 ^ k) := by
  apply Int64.toBitVec_inj.mp
  rw [Int64.toBitVec_shiftLeft, e]
  apply BitVec.eq_of_toNat_eq
  rw [BitVec.shiftLeft_eq', BitVec.toNat_shiftLeft, Nat.shiftLeft_eq, BitVec.toNat_ofNat, Nat.mod_eq_of_lt (show k < 2 ^ 64 by omega)]
  show (BitVec.ofNat 64 n).toNat * 2 ^ k % 2 ^ 64 = (BitVec.ofNat 64 (n * 2 ^ k)).toNat
  rw [BitVec.toNat_ofNat, BitVec.toNat_ofNat, Nat.mod_mul_mod]
theorem w5s (a d : Nat) (h : d < 32) : lN a <<< ((5:Int32).toInt64 &&& 63) ||| lN d = lN (32 * a + d) := by
  rw [sh64 (k := 5) (by decide) (by decide), lN_orr]
  congr 1
  rw [show a * 2 ^ 5 = a <<< 5 from (Nat.shiftLeft_eq a 5).symm, ← Nat.shiftLeft_add_eq_or_of_lt (i := 5) h, Nat.shiftLeft_eq]
  omega
theorem w8s (a d : Nat) (h : d < 256) : lN a <<< ((8:Int32).toInt64 &&& 63) ||| lN d = lN (256 * a + d) := by
  rw [sh64 (k := 8) (by decide) (by decide), lN_orr]
  congr 1
  rw [show a * 2 ^ 8 = a <<< 8 from (Nat.shiftLeft_eq a 8).symm, ← Nat.shiftLeft_add_eq_or_of_lt (i := 8) h, Nat.shiftLeft_eq]
  omega
def c5 (T : Nat → Nat) (q : Nat) : Nat → Nat
  | 0 => 0
  | k + 1 => 32 * c5 T q k + (T (q + k) - 96)
def c8 (T : Nat → Nat) (q : Nat) : Nat → Nat
  | 0 => 0
  | k + 1 => 256 * c8 T q k + T (q + k)
def ltr (c : Nat) : Bool := decide (97 ≤ c) && decide (c ≤ 122)
theorem c_in {T T' : Nat → Nat} {q q' : Nat} : ∀ k k', (∀ i, i < k → 97 ≤ T (q + i) ∧ T (q + i) ≤ 122) → (∀ i, i < k' → 97 ≤ T' (q' + i) ∧ T' (q' + i) ≤ 122) → (c5 T q k = c5 T' q' k' ↔ c8 T q k = c8 T' q' k') := by
  intro k
  induction k with
  | zero =>
    intro k' h h'
    cases k' with
    | zero => exact ⟨fun _ => rfl, fun _ => rfl⟩
    | succ j =>
      have := h' j (by omega)
      unfold c5 c8
      omega
  | succ k ih =>
    intro k' h h'
    have hk := h k (by omega)
    cases k' with
    | zero =>
      unfold c5 c8
      omega
    | succ j =>
      have hj := h' j (by omega)
      have e := ih j (fun i hi => h i (by omega)) (fun i hi => h' i (by omega))
      show 32 * c5 T q k + (T (q + k) - 96) = 32 * c5 T' q' j + (T' (q' + j) - 96) ↔ 256 * c8 T q k + T (q + k) = 256 * c8 T' q' j + T' (q' + j)
      constructor
      · intro z
        have z1 : c5 T q k = c5 T' q' j := by omega
        have z2 := e.mp z1
        omega
      · intro z
        have z1 : c8 T q k = c8 T' q' j := by omega
        have z2 := e.mpr z1
        omega
def dgi (c : Nat) : Bool := decide (48 ≤ c) && decide (c ≤ 57)
def spc (c : Nat) : Bool := decide (c = 32) || decide (c = 10)
def rl (g : Nat → Bool) (T : Nat → Nat) : Nat → Nat → Nat
  | 0, p => p
  | k + 1, p => if g (T p) then rl g T k (p + 1) else p
def rlp (g : Nat → Bool) (T : Nat → Nat) (n p : Nat) : Nat := rl g T (n - p) p
theorem rl_ge {g : Nat → Bool} {T : Nat → Nat} : ∀ k p, p ≤ rl g T k p ∧ rl g T k p ≤ p + k := by
  intro k
  induction k with
  | zero => intro p; exact ⟨Nat.le_refl _, Nat.le_refl _⟩
  | succ k ih =>
    intro p
    unfold rl
    by_cases q : g (T p) = true
    · rw [if_pos q]
      have := ih (p + 1)
      omega
    · rw [if_neg q]; omega
theorem rl_in {g : Nat → Bool} {T : Nat → Nat} : ∀ k p j, p ≤ j → j < rl g T k p → g (T j) = true := by
  intro k
  induction k with
  | zero => intro p j h1 h2; unfold rl at h2; omega
  | succ k ih =>
    intro p j h1 h2
    unfold rl at h2
    by_cases q : g (T p) = true
    · rw [if_pos q] at h2
      by_cases e : j = p
      · rw [e]; exact q
      · exact ih (p + 1) j (by omega) h2
    · rw [if_neg q] at h2; omega
theorem rlp_1 {g : Nat → Bool} {T : Nat → Nat} {n p : Nat} (h : p < n) (q : g (T p) = true) : rlp g T n p = rlp g T n (p + 1) := by
  unfold rlp
  rw [show n - p = (n - (p + 1)) + 1 by omega]
  exact if_pos q
theorem rlp_0 {g : Nat → Bool} {T : Nat → Nat} {n p : Nat} (h : p < n) (q : ¬ g (T p) = true) : rlp g T n p = p := by
  unfold rlp
  rw [show n - p = (n - (p + 1)) + 1 by omega]
  exact if_neg q
theorem rlp_e {g : Nat → Bool} {T : Nat → Nat} {n p : Nat} (h : n ≤ p) : rlp g T n p = p := by
  unfold rlp
  rw [show n - p = 0 by omega]
  rfl
theorem rlp_b {g : Nat → Bool} {T : Nat → Nat} {n p : Nat} (h : p ≤ n) : p ≤ rlp g T n p ∧ rlp g T n p ≤ n := by
  have := rl_ge (g := g) (T := T) (n - p) p
  unfold rlp
  omega
theorem rlp_in {g : Nat → Bool} {T : Nat → Nat} {n p j : Nat} (h1 : p ≤ j) (h2 : j < rlp g T n p) : g (T j) = true := rl_in (n - p) p j h1 h2
def v10 (T : Nat → Nat) (q : Nat) : Nat → Nat
  | 0 => 0
  | k + 1 => 10 * v10 T q k + (T (q + k) - 48)
def K5 : Nat → Nat := fun k => [820804, 23609, 278194, 635184, 99724, 263757, 4375028, 20594245, 7931507, 605220, 86282469, 605670, 20332037, 22080067875, 755277, 21015731, 198028, 660912, 23732, 777297172].getD k 0
theorem K5_l : ∀ k, k < 20 → KWl.getD k 0 = lN (K5 k) := by decide +kernel
def kg (w : Nat) : Nat → Nat → Nat
  | 0, _ => 20
  | f + 1, i => if K5 i = w then i else kg w f (i + 1)
def sk (T : Nat → Nat) (n p : Nat) : Nat := rlp spc T n p
def wde (T : Nat → Nat) (n q : Nat) : Nat := rlp ltr T n q
def dge (T : Nat → Nat) (n q : Nat) : Nat := rlp dgi T n q
def kdQ (T : Nat → Nat) (n q : Nat) : Nat := if n ≤ q then 0 else if ltr (T q) then (if 8 < wde T n q - q then 1 else 2) else if dgi (T q) then (if 4 < dge T n q - q ∨ (dge T n q < n ∧ ltr (T (dge T n q)) = true) then 1 else 3) else if T q = 59 then 4 else if T q = 45 then 5 else 1
def enQ (T : Nat → Nat) (n q : Nat) : Nat := if n ≤ q then q else if ltr (T q) then wde T n q else if dgi (T q) then dge T n q else q + 1
def vlQ (T : Nat → Nat) (n q : Nat) : Nat := v10 T q (dge T n q - q)
def w5Q (T : Nat → Nat) (n q : Nat) : Nat := c5 T q (wde T n q - q)
def w8Q (T : Nat → Nat) (n q : Nat) : Nat := c8 T q (wde T n q - q)
def kwQ (T : Nat → Nat) (n q : Nat) : Nat := if kdQ T n q = 2 then kg (w5Q T n q) 20 0 else 20
def kwI (k : Nat) : Int32 := if k = 20 then -1 else nI k
def kd (T : Nat → Nat) (n p : Nat) : Nat := kdQ T n (sk T n p)
def en (T : Nat → Nat) (n p : Nat) : Nat := enQ T n (sk T n p)
def vl (T : Nat → Nat) (n p : Nat) : Nat := vlQ T n (sk T n p)
def w5 (T : Nat → Nat) (n p : Nat) : Nat := w5Q T n (sk T n p)
def w8 (T : Nat → Nat) (n p : Nat) : Nat := w8Q T n (sk T n p)
def kw (T : Nat → Nat) (n p : Nat) : Nat := kwQ T n (sk T n p)
def bI (c : Nat) : Int32 := (nI c).toInt8.toInt32
theorem bI_32 : ∀ c, c < 256 → (bI c = 32 ↔ c = 32) := by decide +kernel
theorem bI_10 : ∀ c, c < 256 → (bI c = 10 ↔ c = 10) := by decide +kernel
theorem bI_59 : ∀ c, c < 256 → (bI c = 59 ↔ c = 59) := by decide +kernel
theorem bI_45 : ∀ c, c < 256 → (bI c = 45 ↔ c = 45) := by decide +kernel
def lI (x : Int32) : Int32 := if 97 ≤ x ∧ x ≤ 122 then 1 else 0
def dI (x : Int32) : Int32 := if 48 ≤ x ∧ x ≤ 57 then 1 else 0
theorem lI_b : ∀ c, c < 256 → lI (bI c) = if ltr c then 1 else 0 := by decide +kernel
theorem dI_b : ∀ c, c < 256 → dI (bI c) = if dgi c then 1 else 0 := by decide +kernel
theorem lI_n : ∀ c, c < 256 → lI (nI c) = if ltr c then 1 else 0 := by decide +kernel
theorem dI_n : ∀ c, c < 256 → dI (nI c) = if dgi c then 1 else 0 := by decide +kernel
theorem bI_lo : ∀ c, c < 128 → bI c = nI c := by decide +kernel
theorem ltr_lo {c : Nat} (h : ltr c = true) : 97 ≤ c ∧ c ≤ 122 := by
  unfold ltr at h
  simpa using h
theorem dgi_lo {c : Nat} (h : dgi c = true) : 48 ≤ c ∧ c ≤ 57 := by
  unfold dgi at h
  simpa using h
theorem spc_e (c : Nat) : spc c = true ↔ c = 32 ∨ c = 10 := by
  unfold spc
  simp
/-- the text in the class's tape, and the lexer's state -/
def TX (T : Nat → Nat) (n : Nat) (X : MI) : Prop := n ≤ 1700 ∧ ∀ j, j < n → T j < 256 ∧ X 1 j = bI (T j)
def Lq (n q : Nat) (X Y : MI) : Prop := (∀ c, c ≠ 55 → Y c = X c) ∧ Y 55 2 = nI n ∧ Y 55 3 = nI q
def JL (J K : MJ) : Prop := ∀ c k, c ≠ 55 → K c k = J c k
def Rq (x : Option Value) (F : MI → MJ → Prop) (r : MR) : Option Value → MI → MR → MJ → Prop := fun v I' r' J' => v = x ∧ F I' J' ∧ r' = r
/-- the token that begins at q -/
def LxQ (T : Nat → Nat) (n q : Nat) (Y : MI) (K : MJ) : Prop := Y 55 2 = nI n ∧ Y 55 3 = nI (enQ T n q) ∧ Y 55 4 = nI (kdQ T n q) ∧ Y 55 5 = nI q ∧ (kdQ T n q = 3 → Y 55 6 = nI (vlQ T n q)) ∧ (kdQ T n q = 2 → K 55 7 = lN (w5Q T n q)) ∧ Y 55 8 = kwI (kwQ T n q)
set_option maxRecDepth 100000 in
theorem c_isL (x : Int32) (X : MI) (r : MR) (J : MJ) : Cq yX6_isLetter MX6_isLetter [.int x] X r J (Rt (some (.int (lI x))) X r J) := by
  refine cq_of [some (.int x)] 0 (by decide +kernel) rfl rfl (Nat.le_of_ble_eq_true rfl) rfl ?_
  refine x_iload_n (q := 1) dX6_isLetter_0 rfl rfl ?_
  refine x_bipush (97) (q := 3) dX6_isLetter_1 rfl (by decide) ?_
  refine x_icmp_lt (t := 16) (q := 6) dX6_isLetter_3 (by decide) rfl (fun c3 => ?_) (fun c3 => ?_)
  · have cq : ¬ ((97 : Int32) ≤ x ∧ x ≤ 122) := by
      first
      | exact fun z => absurd c3 (Int32.not_lt.mpr z.1)
      | exact fun z => absurd c9 (Int32.not_lt.mpr z.2)
    refine x_iconst (0) (q := 17) dX6_isLetter_16 rfl (by decide) ?_
    refine q_zret dX6_isLetter_17 rfl (Or.inl rfl) ?_
    rw [show lI x = 0 from if_neg (fun z => cq z)]
    exact ⟨rfl, rfl, rfl, rfl⟩
  · refine x_iload_n (q := 7) dX6_isLetter_6 rfl rfl ?_
    refine x_bipush (122) (q := 9) dX6_isLetter_7 rfl (by decide) ?_
    refine x_icmp_gt (t := 16) (q := 12) dX6_isLetter_9 (by decide) rfl (fun c9 => ?_) (fun c9 => ?_)
    · have cq : ¬ ((97 : Int32) ≤ x ∧ x ≤ 122) := by
        first
        | exact fun z => absurd c3 (Int32.not_lt.mpr z.1)
        | exact fun z => absurd c9 (Int32.not_lt.mpr z.2)
      refine x_iconst (0) (q := 17) dX6_isLetter_16 rfl (by decide) ?_
      refine q_zret dX6_isLetter_17 rfl (Or.inl rfl) ?_
      rw [show lI x = 0 from if_neg (fun z => cq z)]
      exact ⟨rfl, rfl, rfl, rfl⟩
    · refine x_iconst (1) (q := 13) dX6_isLetter_12 rfl (by decide) ?_
      refine x_goto (t := 17) dX6_isLetter_13 (by decide) ?_
      refine q_zret dX6_isLetter_17 rfl (Or.inr rfl) ?_
      rw [show lI x = 1 from if_pos ⟨Int32.not_lt.mp c3, Int32.not_lt.mp c9⟩]
      exact ⟨rfl, rfl, rfl, rfl⟩
set_option maxRecDepth 100000 in
theorem c_isD (x : Int32) (X : MI) (r : MR) (J : MJ) : Cq yX6_isDigit MX6_isDigit [.int x] X r J (Rt (some (.int (dI x))) X r J) := by
  refine cq_of [some (.int x)] 0 (by decide +kernel) rfl rfl (Nat.le_of_ble_eq_true rfl) rfl ?_
  refine x_iload_n (q := 1) dX6_isDigit_0 rfl rfl ?_
  refine x_bipush (48) (q := 3) dX6_isDigit_1 rfl (by decide) ?_
  refine x_icmp_lt (t := 16) (q := 6) dX6_isDigit_3 (by decide) rfl (fun c3 => ?_) (fun c3 => ?_)
  · have cq : ¬ ((48 : Int32) ≤ x ∧ x ≤ 57) := by
      first
      | exact fun z => absurd c3 (Int32.not_lt.mpr z.1)
      | exact fun z => absurd c9 (Int32.not_lt.mpr z.2)
    refine x_iconst (0) (q := 17) dX6_isDigit_16 rfl (by decide) ?_
    refine q_zret dX6_isDigit_17 rfl (Or.inl rfl) ?_
    rw [show dI x = 0 from if_neg (fun z => cq z)]
    exact ⟨rfl, rfl, rfl, rfl⟩
  · refine x_iload_n (q := 7) dX6_isDigit_6 rfl rfl ?_
    refine x_bipush (57) (q := 9) dX6_isDigit_7 rfl (by decide) ?_
    refine x_icmp_gt (t := 16) (q := 12) dX6_isDigit_9 (by decide) rfl (fun c9 => ?_) (fun c9 => ?_)
    · have cq : ¬ ((48 : Int32) ≤ x ∧ x ≤ 57) := by
        first
        | exact fun z => absurd c3 (Int32.not_lt.mpr z.1)
        | exact fun z => absurd c9 (Int32.not_lt.mpr z.2)
      refine x_iconst (0) (q := 17) dX6_isDigit_16 rfl (by decide) ?_
      refine q_zret dX6_isDigit_17 rfl (Or.inl rfl) ?_
      rw [show dI x = 0 from if_neg (fun z => cq z)]
      exact ⟨rfl, rfl, rfl, rfl⟩
    · refine x_iconst (1) (q := 13) dX6_isDigit_12 rfl (by decide) ?_
      refine x_goto (t := 17) dX6_isDigit_13 (by decide) ?_
      refine q_zret dX6_isDigit_17 rfl (Or.inr rfl) ?_
      rw [show dI x = 1 from if_pos ⟨Int32.not_lt.mp c3, Int32.not_lt.mp c9⟩]
      exact ⟨rfl, rfl, rfl, rfl⟩
set_option maxRecDepth 100000 in
theorem c_misL (x : Int32) (X : MI) (r : MR) (J : MJ) : Cq yX12_isLetter MX12_isLetter [.int x] X r J (Rt (some (.int (lI x))) X r J) := by
  refine cq_of [some (.int x)] 0 (by decide +kernel) rfl rfl (Nat.le_of_ble_eq_true rfl) rfl ?_
  refine x_iload_n (q := 1) dX12_isLetter_0 rfl rfl ?_
  refine x_bipush (97) (q := 3) dX12_isLetter_1 rfl (by decide) ?_
  refine x_icmp_lt (t := 16) (q := 6) dX12_isLetter_3 (by decide) rfl (fun c3 => ?_) (fun c3 => ?_)
  · have cq : ¬ ((97 : Int32) ≤ x ∧ x ≤ 122) := by
      first
      | exact fun z => absurd c3 (Int32.not_lt.mpr z.1)
      | exact fun z => absurd c9 (Int32.not_lt.mpr z.2)
    refine x_iconst (0) (q := 17) dX12_isLetter_16 rfl (by decide) ?_
    refine q_zret dX12_isLetter_17 rfl (Or.inl rfl) ?_
    rw [show lI x = 0 from if_neg (fun z => cq z)]
    exact ⟨rfl, rfl, rfl, rfl⟩
  · refine x_iload_n (q := 7) dX12_isLetter_6 rfl rfl ?_
    refine x_bipush (122) (q := 9) dX12_isLetter_7 rfl (by decide) ?_
    refine x_icmp_gt (t := 16) (q := 12) dX12_isLetter_9 (by decide) rfl (fun c9 => ?_) (fun c9 => ?_)
    · have cq : ¬ ((97 : Int32) ≤ x ∧ x ≤ 122) := by
        first
        | exact fun z => absurd c3 (Int32.not_lt.mpr z.1)
        | exact fun z => absurd c9 (Int32.not_lt.mpr z.2)
      refine x_iconst (0) (q := 17) dX12_isLetter_16 rfl (by decide) ?_
      refine q_zret dX12_isLetter_17 rfl (Or.inl rfl) ?_
      rw [show lI x = 0 from if_neg (fun z => cq z)]
      exact ⟨rfl, rfl, rfl, rfl⟩
    · refine x_iconst (1) (q := 13) dX12_isLetter_12 rfl (by decide) ?_
      refine x_goto (t := 17) dX12_isLetter_13 (by decide) ?_
      refine q_zret dX12_isLetter_17 rfl (Or.inr rfl) ?_
      rw [show lI x = 1 from if_pos ⟨Int32.not_lt.mp c3, Int32.not_lt.mp c9⟩]
      exact ⟨rfl, rfl, rfl, rfl⟩
set_option maxRecDepth 100000 in
theorem c_misD (x : Int32) (X : MI) (r : MR) (J : MJ) : Cq yX12_isDigit MX12_isDigit [.int x] X r J (Rt (some (.int (dI x))) X r J) := by
  refine cq_of [some (.int x)] 0 (by decide +kernel) rfl rfl (Nat.le_of_ble_eq_true rfl) rfl ?_
  refine x_iload_n (q := 1) dX12_isDigit_0 rfl rfl ?_
  refine x_bipush (48) (q := 3) dX12_isDigit_1 rfl (by decide) ?_
  refine x_icmp_lt (t := 16) (q := 6) dX12_isDigit_3 (by decide) rfl (fun c3 => ?_) (fun c3 => ?_)
  · have cq : ¬ ((48 : Int32) ≤ x ∧ x ≤ 57) := by
      first
      | exact fun z => absurd c3 (Int32.not_lt.mpr z.1)
      | exact fun z => absurd c9 (Int32.not_lt.mpr z.2)
    refine x_iconst (0) (q := 17) dX12_isDigit_16 rfl (by decide) ?_
    refine q_zret dX12_isDigit_17 rfl (Or.inl rfl) ?_
    rw [show dI x = 0 from if_neg (fun z => cq z)]
    exact ⟨rfl, rfl, rfl, rfl⟩
  · refine x_iload_n (q := 7) dX12_isDigit_6 rfl rfl ?_
    refine x_bipush (57) (q := 9) dX12_isDigit_7 rfl (by decide) ?_
    refine x_icmp_gt (t := 16) (q := 12) dX12_isDigit_9 (by decide) rfl (fun c9 => ?_) (fun c9 => ?_)
    · have cq : ¬ ((48 : Int32) ≤ x ∧ x ≤ 57) := by
        first
        | exact fun z => absurd c3 (Int32.not_lt.mpr z.1)
        | exact fun z => absurd c9 (Int32.not_lt.mpr z.2)
      refine x_iconst (0) (q := 17) dX12_isDigit_16 rfl (by decide) ?_
      refine q_zret dX12_isDigit_17 rfl (Or.inl rfl) ?_
      rw [show dI x = 0 from if_neg (fun z => cq z)]
      exact ⟨rfl, rfl, rfl, rfl⟩
    · refine x_iconst (1) (q := 13) dX12_isDigit_12 rfl (by decide) ?_
      refine x_goto (t := 17) dX12_isDigit_13 (by decide) ?_
      refine q_zret dX12_isDigit_17 rfl (Or.inr rfl) ?_
      rw [show dI x = 1 from if_pos ⟨Int32.not_lt.mp c3, Int32.not_lt.mp c9⟩]
      exact ⟨rfl, rfl, rfl, rfl⟩
set_option maxRecDepth 100000 in
theorem c_wl (a : Int64) (x : Int32) (X : MI) (r : MR) (J : MJ) : Cq yX6_withLetter MX6_withLetter [.long a, .int x] X r J (Rt (some (.long ((a <<< ((5 : Int32).toInt64 &&& 63)) ||| (x - 97 + 1).toInt64))) X r J) := by
  refine cq_of [some (.long a), none, some (.int x)] 0 (by decide +kernel) rfl rfl (Nat.le_of_ble_eq_true rfl) rfl ?_
  refine x_lload_n (q := 1) dX6_withLetter_0 rfl rfl ?_
  refine x_iconst (5) (q := 2) dX6_withLetter_1 rfl (by decide) ?_
  refine x_lshl (q := 3) dX6_withLetter_2 rfl ?_
  refine x_iload_n (q := 4) dX6_withLetter_3 rfl rfl ?_
  refine x_bipush (97) (q := 6) dX6_withLetter_4 rfl (by decide) ?_
  refine x_isub (q := 7) dX6_withLetter_6 rfl ?_
  refine x_iconst (1) (q := 8) dX6_withLetter_7 rfl (by decide) ?_
  refine x_iadd (q := 9) dX6_withLetter_8 rfl ?_
  refine x_i2l (q := 10) dX6_withLetter_9 rfl ?_
  refine x_lor (q := 11) dX6_withLetter_10 rfl ?_
  refine q_lret dX6_withLetter_11 rfl ?_
  exact ⟨rfl, rfl, rfl, rfl⟩
theorem lcmp_z (x y : Int64) : lg_cmp x y = 0 ↔ x = y := by
  unfold lg_cmp
  by_cases h1 : x > y
  · rw [if_pos h1]
    exact ⟨fun h => absurd h (by decide), fun h => absurd h1 (by rw [h]; exact Int64.lt_irrefl)⟩
  · rw [if_neg h1]
    by_cases h2 : x = y
    · rw [if_pos h2]; exact ⟨fun _ => h2, fun _ => rfl⟩
    · rw [if_neg h2]; exact ⟨fun h => absurd h (by decide), fun h => absurd h h2⟩
theorem lN_inj63 {a b : Nat} (ha : a < 2 ^ 63) (hb : b < 2 ^ 63) : lN a = lN b ↔ a = b := by
  constructor
  · intro h
    have e : (BitVec.ofNat 64 a).toNat = (BitVec.ofNat 64 b).toNat := congrArg (fun x : Int64 => x.toBitVec.toNat) h
    rw [BitVec.toNat_ofNat, BitVec.toNat_ofNat, Nat.mod_eq_of_lt (by omega), Nat.mod_eq_of_lt (by omega)] at e
    exact e
  · intro h; rw [h]
theorem K5_lt : ∀ k, k < 20 → K5 k < 2 ^ 40 := by decide +kernel
set_option maxRecDepth 100000 in
theorem l_kww {w : Nat} (hw : w < 2 ^ 63) (X : MI) (r : MR) {J : MJ} (hJ : RelJ J) : ∀ (f : Nat) (i : Nat) (_ : i + f = 20) (_ : kg w f i = kg w 20 0), Wq MX6_keywordWith 2 [some (.ref 55), some (.long (lN w)), none, some (.int (nI i))] [] X r J (Rt (some (.int (kwI (kg w 20 0)))) X r J) := by
  intro f
  induction f with
  | zero =>
    intro i hik hk
    refine x_iload_n (q := 3) dX6_keywordWith_2 rfl rfl ?_
    refine x_bipush (20) (q := 5) dX6_keywordWith_3 rfl (by decide) ?_
    refine x_icmp_ge (t := 27) (q := 8) dX6_keywordWith_5 (by decide) rfl (fun c5 => ?_) (fun c5 => absurd c5 (fun q => q (nI_le (a := 20) (by omega) (by omega))))
    refine x_iconst (-1) (q := 28) dX6_keywordWith_27 rfl (by decide) ?_
    refine q_iret dX6_keywordWith_28 rfl ?_
    rw [← hk, show kwI (kg w 0 i) = -1 from rfl]
    exact ⟨rfl, rfl, rfl, rfl⟩
  | succ f ih =>
    intro i hik hk
    have eJ : J 56 (nI i).toNatClampNeg = lN (K5 i) := by rw [nI_clamp (by omega), hJ i (by omega)]; exact K5_l i (by omega)
    have hki := K5_lt i (by omega)
    refine x_iload_n (q := 3) dX6_keywordWith_2 rfl rfl ?_
    refine x_bipush (20) (q := 5) dX6_keywordWith_3 rfl (by decide) ?_
    refine x_icmp_ge (t := 27) (q := 8) dX6_keywordWith_5 (by decide) rfl (fun c5 => absurd c5 (nI_ge (b := 20) (by omega) (by decide))) (fun c5 => ?_)
    refine x_aload_n (q := 9) dX6_keywordWith_8 rfl rfl ?_
    refine q_gr (K := 0) (b := 56) (q := 12) dX6_keywordWith_9 rfl cl_6 (by decide) tw_331 rfl rfl rfl ?_
    refine x_iload_n (q := 13) dX6_keywordWith_12 rfl rfl ?_
    refine q_lald (q := 14) dX6_keywordWith_13 rfl rfl (vp_in_nI (by omega) (by decide)) ?_
    refine x_lload_n (q := 15) dX6_keywordWith_14 rfl rfl ?_
    refine x_lcmp (q := 16) dX6_keywordWith_15 rfl ?_
    refine x_if_ne (t := 21) (q := 19) dX6_keywordWith_16 (by decide) rfl (fun c16 => ?_) (fun c16 => ?_)
    · obtain ⟨v1, ev1⟩ : ∃ y_ : Int32, y_ = (nI i) + 1 := ⟨_, rfl⟩
      refine x_iinc (v := v1) (L2 := [some (.ref 55), some (.long (lN w)), none, some (.int v1)]) (q := 24) dX6_keywordWith_21 rfl (by decide) rfl rfl (by rw [ev1]; rfl) rfl ?_
      refine x_goto (t := 2) dX6_keywordWith_24 (by decide) ?_
      rw [eJ, lcmp_z, lN_inj63 (by omega) hw] at c16
      rw [show v1 = nI (i + 1) by rw [ev1, nI_p1]]
      refine ih (i + 1) (by omega) ?_
      rw [← hk]
      conv => rhs; unfold kg
      rw [if_neg c16]
    · refine x_iload_n (q := 20) dX6_keywordWith_19 rfl rfl ?_
      refine q_iret dX6_keywordWith_20 rfl ?_
      rw [eJ, lcmp_z, lN_inj63 (by omega) hw] at c16
      have e : kg w (f + 1) i = i := if_pos c16
      rw [← hk, e, show kwI i = nI i from if_neg (by omega)]
      exact ⟨rfl, rfl, rfl, rfl⟩
set_option maxRecDepth 100000 in
theorem c_kww {w : Nat} (hw : w < 2 ^ 63) (X : MI) (r : MR) {J : MJ} (hJ : RelJ J) : Cq yX6_keywordWith MX6_keywordWith [.ref 55, .long (lN w)] X r J (Rt (some (.int (kwI (kg w 20 0)))) X r J) := by
  refine cq_of [some (.ref 55), some (.long (lN w)), none, none] 1 (by decide +kernel) rfl rfl (Nat.le_of_ble_eq_true rfl) rfl ?_
  refine x_iconst (0) (q := 1) dX6_keywordWith_0 rfl (by decide) ?_
  refine x_istore_n (L2 := [some (.ref 55), some (.long (lN w)), none, some (.int 0)]) (q := 2) dX6_keywordWith_1 rfl (by decide) rfl rfl ?_
  exact l_kww hw X r hJ 20 0 rfl rfl
