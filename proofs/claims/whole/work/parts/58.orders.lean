def cnt (N : Nat) : Nat → Nat
  | 0 => 0
  | k + 1 => cnt N k + (if N.testBit k then 1 else 0)
def bcF (x : Int32) : Int32 :=
  (fun v1 : Int32 => (fun v2 : Int32 => (fun v3 : Int32 => (fun v4 : Int32 => (fun v5 : Int32 => v5 &&& 63) (v4 + (v4.toUInt32 >>> (Int32.toUInt32 16 &&& Int32.toUInt32 31)).toInt32)) (v3 + (v3.toUInt32 >>> (Int32.toUInt32 8 &&& Int32.toUInt32 31)).toInt32)) ((v2 + (v2.toUInt32 >>> (Int32.toUInt32 4 &&& Int32.toUInt32 31)).toInt32) &&& 252645135)) ((v1 &&& 858993459) + ((v1.toUInt32 >>> (Int32.toUInt32 2 &&& Int32.toUInt32 31)).toInt32 &&& 858993459))) (x - ((x.toUInt32 >>> (Int32.toUInt32 1 &&& Int32.toUInt32 31)).toInt32 &&& 1431655765))
theorem bc_all : ∀ N, N < 256 → bcF (nI N) = nI (cnt N 8) := by decide +kernel
set_option maxRecDepth 100000 in
theorem c_bc {N : Nat} (hN : N < 256) (X : MI) (r : MR) (J : MJ) : Cq yJ6_bitCount_0f7a4 MJ6_bitCount_0f7a4 [.int (nI N)] X r J (Rt (some (.int (nI (cnt N 8)))) X r J) := by
  refine cq_of [some (.int (nI N))] 0 (by decide +kernel) rfl rfl (Nat.le_of_ble_eq_true rfl) rfl ?_
  refine x_iload_n (q := 1) dJ6_bitCount_0f7a4_0 rfl rfl ?_
  refine x_iload_n (q := 2) dJ6_bitCount_0f7a4_1 rfl rfl ?_
  refine x_iconst (1) (q := 3) dJ6_bitCount_0f7a4_2 rfl (by decide) ?_
  refine x_iushr (q := 4) dJ6_bitCount_0f7a4_3 rfl ?_
  refine x_ldcw (v := 1431655765) (q := 7) dJ6_bitCount_0f7a4_4 rfl tw_927 ?_
  refine x_iand (q := 8) dJ6_bitCount_0f7a4_7 rfl ?_
  refine x_isub (q := 9) dJ6_bitCount_0f7a4_8 rfl ?_
  refine x_nmi (fun v1 ev1 => ?_)
  refine x_istore_n (L2 := [some (.int v1)]) (q := 10) dJ6_bitCount_0f7a4_9 rfl (by decide) rfl rfl ?_
  refine x_iload_n (q := 11) dJ6_bitCount_0f7a4_10 rfl rfl ?_
  refine x_ldcw (v := 858993459) (q := 14) dJ6_bitCount_0f7a4_11 rfl tw_928 ?_
  refine x_iand (q := 15) dJ6_bitCount_0f7a4_14 rfl ?_
  refine x_iload_n (q := 16) dJ6_bitCount_0f7a4_15 rfl rfl ?_
  refine x_iconst (2) (q := 17) dJ6_bitCount_0f7a4_16 rfl (by decide) ?_
  refine x_iushr (q := 18) dJ6_bitCount_0f7a4_17 rfl ?_
  refine x_ldcw (v := 858993459) (q := 21) dJ6_bitCount_0f7a4_18 rfl tw_928 ?_
  refine x_iand (q := 22) dJ6_bitCount_0f7a4_21 rfl ?_
  refine x_iadd (q := 23) dJ6_bitCount_0f7a4_22 rfl ?_
  refine x_nmi (fun v2 ev2 => ?_)
  refine x_istore_n (L2 := [some (.int v2)]) (q := 24) dJ6_bitCount_0f7a4_23 rfl (by decide) rfl rfl ?_
  refine x_iload_n (q := 25) dJ6_bitCount_0f7a4_24 rfl rfl ?_
  refine x_iload_n (q := 26) dJ6_bitCount_0f7a4_25 rfl rfl ?_
  refine x_iconst (4) (q := 27) dJ6_bitCount_0f7a4_26 rfl (by decide) ?_
  refine x_iushr (q := 28) dJ6_bitCount_0f7a4_27 rfl ?_
  refine x_iadd (q := 29) dJ6_bitCount_0f7a4_28 rfl ?_
  refine x_ldcw (v := 252645135) (q := 32) dJ6_bitCount_0f7a4_29 rfl tw_929 ?_
  refine x_iand (q := 33) dJ6_bitCount_0f7a4_32 rfl ?_
  refine x_nmi (fun v3 ev3 => ?_)
  refine x_istore_n (L2 := [some (.int v3)]) (q := 34) dJ6_bitCount_0f7a4_33 rfl (by decide) rfl rfl ?_
  refine x_iload_n (q := 35) dJ6_bitCount_0f7a4_34 rfl rfl ?_
  refine x_iload_n (q := 36) dJ6_bitCount_0f7a4_35 rfl rfl ?_
  refine x_bipush (8) (q := 38) dJ6_bitCount_0f7a4_36 rfl (by decide) ?_
  refine x_iushr (q := 39) dJ6_bitCount_0f7a4_38 rfl ?_
  refine x_iadd (q := 40) dJ6_bitCount_0f7a4_39 rfl ?_
  refine x_nmi (fun v4 ev4 => ?_)
  refine x_istore_n (L2 := [some (.int v4)]) (q := 41) dJ6_bitCount_0f7a4_40 rfl (by decide) rfl rfl ?_
  refine x_iload_n (q := 42) dJ6_bitCount_0f7a4_41 rfl rfl ?_
  refine x_iload_n (q := 43) dJ6_bitCount_0f7a4_42 rfl rfl ?_
  refine x_bipush (16) (q := 45) dJ6_bitCount_0f7a4_43 rfl (by decide) ?_
  refine x_iushr (q := 46) dJ6_bitCount_0f7a4_45 rfl ?_
  refine x_iadd (q := 47) dJ6_bitCount_0f7a4_46 rfl ?_
  refine x_nmi (fun v5 ev5 => ?_)
  refine x_istore_n (L2 := [some (.int v5)]) (q := 48) dJ6_bitCount_0f7a4_47 rfl (by decide) rfl rfl ?_
  refine x_iload_n (q := 49) dJ6_bitCount_0f7a4_48 rfl rfl ?_
  refine x_bipush (63) (q := 51) dJ6_bitCount_0f7a4_49 rfl (by decide) ?_
  refine x_iand (q := 52) dJ6_bitCount_0f7a4_51 rfl ?_
  refine q_iret dJ6_bitCount_0f7a4_52 rfl ?_
  refine ⟨?_, rfl, rfl, rfl⟩
  rw [← bc_all N hN]
  rw [ev5, ev4, ev3, ev2, ev1]
  rfl
theorem cnt_le (N : Nat) : ∀ k, cnt N k ≤ k := by
  intro k
  induction k with
  | zero => exact Nat.le_refl _
  | succ k ih =>
    unfold cnt
    by_cases q : N.testBit k = true
    · rw [if_pos q]; omega
    · rw [if_neg q]; omega
theorem cnt_m (N : Nat) {k : Nat} : ∀ d, cnt N k ≤ cnt N (k + d) := by
  intro d
  induction d with
  | zero => exact Nat.le_refl _
  | succ d ih =>
    show _ ≤ cnt N (k + d) + _
    omega
theorem cnt_z {N n : Nat} (hN : N < 2 ^ n) : ∀ d, cnt N (n + d) = cnt N n := by
  intro d
  induction d with
  | zero => rfl
  | succ d ih =>
    show cnt N (n + d) + (if N.testBit (n + d) then 1 else 0) = _
    rw [Nat.testBit_lt_two_pow (Nat.lt_of_lt_of_le hN (Nat.pow_le_pow_right (by decide) (by omega))), ih]
    rfl
def OF (N : Nat) : Nat → Nat → Nat
  | 0, i => i
  | k + 1, i => if N.testBit k = true ∨ i < cnt N k then OF N k i else OF N k i + 1
theorem OF_hi (N : Nat) : ∀ k i, cnt N k ≤ i → OF N k i = k + (i - cnt N k) := by
  intro k
  induction k with
  | zero => intro i _; show i = 0 + (i - 0); omega
  | succ k ih =>
    intro i h
    have e : cnt N (k + 1) = cnt N k + (if N.testBit k then 1 else 0) := rfl
    show (if N.testBit k = true ∨ i < cnt N k then OF N k i else OF N k i + 1) = _
    by_cases q : N.testBit k = true
    · rw [if_pos (Or.inl q)]
      rw [e, if_pos q] at h ⊢
      rw [ih i (by omega)]
      omega
    · rw [e, if_neg q] at h ⊢
      rw [if_neg (fun z => z.elim q (fun w => by omega)), ih i (by omega)]
      omega
theorem OF_lo (N : Nat) : ∀ k i, i < cnt N k → OF N k i < k := by
  intro k
  induction k with
  | zero => intro i h; exact absurd h (by unfold cnt; omega)
  | succ k ih =>
    intro i h
    have e : cnt N (k + 1) = cnt N k + (if N.testBit k then 1 else 0) := rfl
    show (if N.testBit k = true ∨ i < cnt N k then OF N k i else OF N k i + 1) < _
    by_cases q : N.testBit k = true
    · rw [if_pos (Or.inl q)]
      rw [e, if_pos q] at h
      by_cases g : i < cnt N k
      · have := ih i g; omega
      · rw [OF_hi N k i (by omega)]; omega
    · rw [e, if_neg q] at h
      rw [if_pos (Or.inr (by omega))]
      have := ih i (by omega)
      omega
theorem OF_mono (N : Nat) : ∀ k i j, i < j → OF N k i < OF N k j := by
  intro k
  induction k with
  | zero => intro i j h; exact h
  | succ k ih =>
    intro i j h
    have q := ih i j h
    show (if N.testBit k = true ∨ i < cnt N k then OF N k i else OF N k i + 1) < (if N.testBit k = true ∨ j < cnt N k then OF N k j else OF N k j + 1)
    by_cases g : N.testBit k = true ∨ j < cnt N k
    · rw [if_pos g, if_pos (g.imp id (fun z => by omega))]; exact q
    · rw [if_neg g]
      by_cases g2 : N.testBit k = true ∨ i < cnt N k
      · rw [if_pos g2]; omega
      · rw [if_neg g2]; omega
theorem OF_st {N y i : Nat} (h : i < cnt N y) : ∀ d, OF N (y + d) i = OF N y i := by
  intro d
  induction d with
  | zero => rfl
  | succ d ih =>
    show (if N.testBit (y + d) = true ∨ i < cnt N (y + d) then OF N (y + d) i else OF N (y + d) i + 1) = _
    rw [if_pos (Or.inr (Nat.lt_of_lt_of_le h (cnt_m N d))), ih]
theorem OF_bit {N : Nat} : ∀ k i, i < cnt N k → N.testBit (OF N k i) = true := by
  intro k
  induction k with
  | zero => intro i h; exact absurd h (by unfold cnt; omega)
  | succ k ih =>
    intro i h
    have e : cnt N (k + 1) = cnt N k + (if N.testBit k then 1 else 0) := rfl
    show N.testBit (if N.testBit k = true ∨ i < cnt N k then OF N k i else OF N k i + 1) = true
    by_cases q : N.testBit k = true
    · rw [if_pos (Or.inl q)]
      rw [e, if_pos q] at h
      by_cases g : i < cnt N k
      · exact ih i g
      · rw [OF_hi N k i (by omega), show k + (i - cnt N k) = k by omega]; exact q
    · rw [e, if_neg q] at h
      rw [if_pos (Or.inr (by omega))]
      exact ih i (by omega)
/-- ranks: the run of orders by a code of digits -/
def dgt (c k : Nat) : Nat := c / 8 ^ k % 8
def enc (o : Nat → Nat) : Nat := o 0 + 8 * (o 1 + 8 * (o 2 + 8 * (o 3 + 8 * (o 4 + 8 * (o 5 + 8 * o 6)))))
def runs (n : Nat) : Nat → Nat → Bool
  | 0, _ => false
  | f + 1, c => match nx n (dgt c) with
    | none => true
    | some o => runs n f (enc o)
theorem r_0 : runs 0 1 (enc (fun k => k)) = true := by decide +kernel
theorem r_1 : runs 1 1 (enc (fun k => k)) = true := by decide +kernel
theorem r_2 : runs 2 2 (enc (fun k => k)) = true := by decide +kernel
theorem r_3 : runs 3 6 (enc (fun k => k)) = true := by decide +kernel
theorem r_4 : runs 4 24 (enc (fun k => k)) = true := by decide +kernel
theorem r_5 : runs 5 120 (enc (fun k => k)) = true := by decide +kernel
theorem r_6 : runs 6 720 (enc (fun k => k)) = true := by decide +kernel
theorem r_7 : runs 7 5040 (enc (fun k => k)) = true := by decide +kernel
theorem runs_m {n : Nat} : ∀ f c d, runs n f c = true → runs n (f + d) c = true := by
  intro f
  induction f with
  | zero => intro c d h; exact absurd h (by unfold runs; decide)
  | succ f ih =>
    intro c d h
    rw [show f + 1 + d = (f + d) + 1 by omega]
    unfold runs at h ⊢
    cases q : nx n (dgt c) with
    | none => rfl
    | some o => rw [q] at h; exact ih _ d h
theorem runs_all {n : Nat} (h : n ≤ 7) : runs n 5040 (enc (fun k => k)) = true := by
  have : n = 0 ∨ n = 1 ∨ n = 2 ∨ n = 3 ∨ n = 4 ∨ n = 5 ∨ n = 6 ∨ n = 7 := by omega
  rcases this with rfl | rfl | rfl | rfl | rfl | rfl | rfl | rfl
  · exact runs_m 1 _ 5039 r_0
  · exact runs_m 1 _ 5039 r_1
  · exact runs_m 2 _ 5038 r_2
  · exact runs_m 6 _ 5034 r_3
  · exact runs_m 24 _ 5016 r_4
  · exact runs_m 120 _ 4920 r_5
  · exact runs_m 720 _ 4320 r_6
  · exact r_7
def rs (n : Nat) : Nat → (Nat → Nat) → Prop
  | 0, _ => False
  | f + 1, o => nxV n o = 0 ∨ rs n f (nxO n o)
/-- only what lies below n is looked at -/
theorem fi_c {o p : Nat → Nat} : ∀ k, (∀ a b, a ≤ k → b ≤ k → (o a < o b ↔ p a < p b)) → fi o k = fi p k := by
  intro k
  induction k with
  | zero => intro _; rfl
  | succ k ih =>
    intro h
    unfold fi
    rw [ih (fun a b ha hb => h a b (by omega) (by omega))]
    by_cases q : o (k + 1) < o k
    · rw [if_pos q, if_pos ((h (k + 1) k (by omega) (by omega)).mp q)]
    · rw [if_neg q, if_neg (fun z => q ((h (k + 1) k (by omega) (by omega)).mpr z))]
theorem fj_c {o p : Nat → Nat} {i n : Nat} (h : ∀ a b, a ≤ n → b ≤ n → (o a < o b ↔ p a < p b)) (hi : i ≤ n) : ∀ k, k ≤ n → fj o (o i) k = fj p (p i) k := by
  intro k
  induction k with
  | zero => intro _; rfl
  | succ k ih =>
    intro hk
    unfold fj
    rw [ih (by omega)]
    by_cases q : o (k + 1) < o i
    · rw [if_pos q, if_pos ((h (k + 1) i hk hi).mp q)]
    · rw [if_neg q, if_neg (fun z => q ((h (k + 1) i hk hi).mpr z))]
theorem fj_le (o : Nat → Nat) (x : Nat) : ∀ k, fj o x k ≤ k := by
  intro k
  induction k with
  | zero => exact Nat.le_refl _
  | succ k ih =>
    unfold fj
    by_cases q : o (k + 1) < x
    · rw [if_pos q]; omega
    · rw [if_neg q]; omega
theorem sw_c {o p O : Nat → Nat} {i j n : Nat} (h : ∀ k, k < n → o k = O (p k)) (hi : i < n) (hj : j < n) : ∀ k, k < n → sw o i j k = O (sw p i j k) := by
  intro k hk
  unfold sw
  by_cases e : k = j
  · rw [if_pos e, if_pos e]; exact h i hi
  · rw [if_neg e, if_neg e]
    by_cases e2 : k = i
    · rw [if_pos e2, if_pos e2]; exact h j hj
    · rw [if_neg e2, if_neg e2]; exact h k hk
theorem sw_b {p : Nat → Nat} {i j n N : Nat} (h : ∀ k, k < n → p k < N) (hi : i < n) (hj : j < n) : ∀ k, k < n → sw p i j k < N := by
  intro k hk
  unfold sw
  by_cases e : k = j
  · rw [if_pos e]; exact h i hi
  · rw [if_neg e]
    by_cases e2 : k = i
    · rw [if_pos e2]; exact h j hj
    · rw [if_neg e2]; exact h k hk
theorem rv_c {O : Nat → Nat} {n N : Nat} : ∀ f o p lo hi, hi < n → (∀ k, k < n → o k = O (p k)) → (∀ k, k < n → p k < N) → ∀ k, k < n → rvv f o lo hi k = O (rvv f p lo hi k) ∧ rvv f p lo hi k < N := by
  intro f
  induction f with
  | zero => intro o p lo hi _ h hb k hk; exact ⟨h k hk, hb k hk⟩
  | succ f ih =>
    intro o p lo hi hh h hb k hk
    unfold rvv
    by_cases q : lo < hi
    · rw [if_pos q, if_pos q]
      exact ih _ _ _ _ (by omega) (sw_c h (by omega) hh) (sw_b hb (by omega) hh) k hk
    · rw [if_neg q, if_neg q]
      exact ⟨h k hk, hb k hk⟩
theorem nx_c {O o p : Nat → Nat} {n : Nat} (hO : ∀ i j, i < j → O i < O j) (h : ∀ k, k < n → o k = O (p k)) (hb : ∀ k, k < n → p k < n) : (nx n p = none → nx n o = none) ∧ ∀ p', nx n p = some p' → ∃ o', nx n o = some o' ∧ (∀ k, k < n → o' k = O (p' k) ∧ p' k < n) := by
  rcases Nat.eq_zero_or_pos n with z | z
  · subst z
    exact ⟨fun _ => rfl, fun p' q => absurd (show (none : Option (Nat → Nat)) = some p' from q) (by simp)⟩
  · have hc : ∀ a b, a ≤ n - 1 → b ≤ n - 1 → (o a < o b ↔ p a < p b) := fun a b ha hb' => by
      rw [h a (by omega), h b (by omega)]
      rcases Nat.lt_trichotomy (p a) (p b) with q | q | q
      · exact ⟨fun _ => q, fun _ => hO _ _ q⟩
      · rw [q]; exact ⟨fun w => absurd w (by omega), fun w => absurd w (by omega)⟩
      · have := hO _ _ q
        exact ⟨fun w => absurd w (by omega), fun w => absurd w (by omega)⟩
    have e1 := fi_c (n - 1) hc
    have e3 := fi_le p (n - 1)
    rcases Nat.eq_zero_or_pos (fi p (n - 1)) with q | q
    · refine ⟨fun _ => nx_0 (by rw [e1]; exact q), fun p' w => ?_⟩
      rw [nx_0 q] at w
      exact absurd w (by simp)
    · obtain ⟨i, hi⟩ : ∃ i, fi p (n - 1) = i + 1 := ⟨fi p (n - 1) - 1, by omega⟩
      refine ⟨fun w => absurd w (by rw [nx_1 hi]; simp), fun p' w => ?_⟩
      rw [nx_1 hi] at w
      have e2 := fj_c (i := i) hc (by omega) (n - 1) (Nat.le_refl _)
      have e4 := fj_le p (p i) (n - 1)
      refine ⟨_, nx_1 (by rw [e1]; exact hi), fun k hk => ?_⟩
      rw [← Option.some.inj w, e2]
      exact rv_c 8 _ _ _ _ (by omega) (sw_c h (by omega) (by omega)) (sw_b hb (by omega) (by omega)) k hk
theorem dg7 (a b c d e f g : Nat) (ha : a < 8) (hb : b < 8) (hc : c < 8) (hd : d < 8) (he : e < 8) (hf : f < 8) (hg : g < 8) : (a + 8 * (b + 8 * (c + 8 * (d + 8 * (e + 8 * (f + 8 * g)))))) / 1 % 8 = a ∧ (a + 8 * (b + 8 * (c + 8 * (d + 8 * (e + 8 * (f + 8 * g)))))) / 8 % 8 = b ∧ (a + 8 * (b + 8 * (c + 8 * (d + 8 * (e + 8 * (f + 8 * g)))))) / 64 % 8 = c ∧ (a + 8 * (b + 8 * (c + 8 * (d + 8 * (e + 8 * (f + 8 * g)))))) / 512 % 8 = d ∧ (a + 8 * (b + 8 * (c + 8 * (d + 8 * (e + 8 * (f + 8 * g)))))) / 4096 % 8 = e ∧ (a + 8 * (b + 8 * (c + 8 * (d + 8 * (e + 8 * (f + 8 * g)))))) / 32768 % 8 = f ∧ (a + 8 * (b + 8 * (c + 8 * (d + 8 * (e + 8 * (f + 8 * g)))))) / 262144 % 8 = g := by
  refine ⟨?_, ?_, ?_, ?_, ?_, ?_, ?_⟩ <;> omega
theorem dgt_enc {o : Nat → Nat} (h : ∀ k, o k < 8) : ∀ k, k < 7 → dgt (enc o) k = o k := by
  intro k hk
  have q := dg7 (o 0) (o 1) (o 2) (o 3) (o 4) (o 5) (o 6) (h 0) (h 1) (h 2) (h 3) (h 4) (h 5) (h 6)
  unfold dgt enc
  have : k = 0 ∨ k = 1 ∨ k = 2 ∨ k = 3 ∨ k = 4 ∨ k = 5 ∨ k = 6 := by omega
  rcases this with rfl | rfl | rfl | rfl | rfl | rfl | rfl
  · exact q.1
  · exact q.2.1
  · exact q.2.2.1
  · exact q.2.2.2.1
  · exact q.2.2.2.2.1
  · exact q.2.2.2.2.2.1
  · exact q.2.2.2.2.2.2
theorem sw_8 {p : Nat → Nat} {i j : Nat} (h : ∀ k, p k < 8) : ∀ k, sw p i j k < 8 := by
  intro k
  unfold sw
  by_cases e : k = j
  · rw [if_pos e]; exact h i
  · rw [if_neg e]
    by_cases e2 : k = i
    · rw [if_pos e2]; exact h j
    · rw [if_neg e2]; exact h k
theorem rv_8 : ∀ f p lo hi, (∀ k, p k < 8) → ∀ k, rvv f p lo hi k < 8 := by
  intro f
  induction f with
  | zero => intro p lo hi h; exact h
  | succ f ih =>
    intro p lo hi h
    unfold rvv
    by_cases q : lo < hi
    · rw [if_pos q]; exact ih _ _ _ (sw_8 h)
    · rw [if_neg q]; exact h
theorem nx_8 {n : Nat} {p p' : Nat → Nat} (h : ∀ k, p k < 8) (e : nx n p = some p') : ∀ k, p' k < 8 := by
  rcases Nat.eq_zero_or_pos (fi p (n - 1)) with q | q
  · rw [nx_0 q] at e; exact absurd e (by simp)
  · obtain ⟨i, hi⟩ : ∃ i, fi p (n - 1) = i + 1 := ⟨fi p (n - 1) - 1, by omega⟩
    rw [nx_1 hi] at e
    rw [← Option.some.inj e]
    exact rv_8 _ _ _ _ (sw_8 h)
theorem rs_of {O : Nat → Nat} {n : Nat} (hn : n ≤ 7) (hO : ∀ i j, i < j → O i < O j) : ∀ f c o, runs n f c = true → (∀ k, k < n → o k = O (dgt c k) ∧ dgt c k < n) → rs n f o := by
  intro f
  induction f with
  | zero => intro c o h; exact absurd h (by unfold runs; decide)
  | succ f ih =>
    intro c o h hc
    have k8 : ∀ k, dgt c k < 8 := fun k => Nat.mod_lt _ (by decide)
    have q := nx_c hO (fun k hk => (hc k hk).1) (fun k hk => (hc k hk).2)
    unfold runs at h
    cases e : nx n (dgt c) with
    | none =>
      left
      unfold nxV
      rw [q.1 e]
      rfl
    | some p' =>
      right
      rw [e] at h
      obtain ⟨o', e1, e2⟩ := q.2 p' e
      have e3 : nxO n o = o' := by unfold nxO; rw [e1]; rfl
      rw [e3]
      have k8' := nx_8 k8 e
      refine ih (enc p') o' h (fun k hk => ?_)
      rw [dgt_enc k8' k (by omega)]
      exact e2 k hk
theorem rs_OF {N yn : Nat} (hn : cnt N yn ≤ 7) : rs (cnt N yn) 5040 (OF N yn) := by
  refine rs_of hn (OF_mono N yn) 5040 _ _ (runs_all hn) (fun k hk => ?_)
  have e : dgt (enc (fun k => k)) k = k := by
    have : k = 0 ∨ k = 1 ∨ k = 2 ∨ k = 3 ∨ k = 4 ∨ k = 5 ∨ k = 6 := by omega
    rcases this with rfl | rfl | rfl | rfl | rfl | rfl | rfl <;> decide
  rw [e]
  exact ⟨rfl, hk⟩
/-- what an order is made of -/
theorem nxO_b {n M : Nat} {o : Nat → Nat} (h : ∀ k, k < n → o k < M) : ∀ k, k < n → nxO n o k < M := by
  intro k hk
  unfold nxO
  rcases Nat.eq_zero_or_pos (fi o (n - 1)) with q | q
  · rw [nx_0 q]; exact h k hk
  · obtain ⟨i, hi⟩ : ∃ i, fi o (n - 1) = i + 1 := ⟨fi o (n - 1) - 1, by omega⟩
    have e3 := fi_le o (n - 1)
    have e4 := fj_le o (o i) (n - 1)
    rw [nx_1 hi]
    exact (rv_c (O := fun x => x) 8 _ _ _ _ (by omega) (fun _ _ => rfl) (sw_b h (by omega) (by omega)) k hk).2
theorem nxO_p {n : Nat} {o : Nat → Nat} {p : Nat → Prop} (h : ∀ k, k < n → p (o k)) : ∀ k, k < n → p (nxO n o k) := by
  have hs : ∀ (o : Nat → Nat) i j, i < n → j < n → (∀ k, k < n → p (o k)) → ∀ k, k < n → p (sw o i j k) := by
    intro o i j hi hj h k hk
    unfold sw
    by_cases e : k = j
    · rw [if_pos e]; exact h i hi
    · rw [if_neg e]
      by_cases e2 : k = i
      · rw [if_pos e2]; exact h j hj
      · rw [if_neg e2]; exact h k hk
  have hr : ∀ f (o : Nat → Nat) lo hi, hi < n → (∀ k, k < n → p (o k)) → ∀ k, k < n → p (rvv f o lo hi k) := by
    intro f
    induction f with
    | zero => intro o lo hi _ h; exact h
    | succ f ih =>
      intro o lo hi hh h
      unfold rvv
      by_cases q : lo < hi
      · rw [if_pos q]; exact ih _ _ _ (by omega) (hs _ _ _ (by omega) hh h)
      · rw [if_neg q]; exact h
  intro k hk
  unfold nxO
  rcases Nat.eq_zero_or_pos (fi o (n - 1)) with q | q
  · rw [nx_0 q]; exact h k hk
  · obtain ⟨i, hi⟩ : ∃ i, fi o (n - 1) = i + 1 := ⟨fi o (n - 1) - 1, by omega⟩
    have e3 := fi_le o (n - 1)
    have e4 := fj_le o (o i) (n - 1)
    rw [nx_1 hi]
    exact hr 8 _ _ _ (by omega) (hs _ _ _ (by omega) (by omega) h) k hk
