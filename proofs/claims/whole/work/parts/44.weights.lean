theorem gcd_st {a b : Nat} : Nat.gcd a b = Nat.gcd b (a % b) := by
  rw [Nat.gcd_comm a b, Nat.gcd_rec b a, Nat.gcd_comm]
def lowF (u l : Nat) (pt : Int32) : Int32 := if pt = 0 then nI (u / Nat.gcd u l) else nI (l / Nat.gcd u l)
theorem half_mod {b r : Nat} (h0 : 0 < r) (h : r < b) : 2 * (b % r) < b := by
  have h1 := Nat.mod_lt b h0
  have h2 := Nat.div_add_mod b r
  have h3 : 0 < b / r := Nat.div_pos (by omega) h0
  have h4 : r ≤ r * (b / r) := Nat.le_mul_of_pos_right r h3
  omega
set_option maxRecDepth 100000 in
theorem t_low {u w : Nat} (hu : u < 1000000000) (hw : w < 1000000000) (h1 : 1 ≤ w) (pt : Int32) (I : MI) (r : MR) (J : MJ) (y4 : Int32) (x5 x6 : Option Value) : Wq MX11_lowest 39 [some (.int (nI u)), some (.int (nI w)), some (.int pt), some (.int (nI (Nat.gcd u w))), some (.int y4), x5, x6] [] I r J (Rt (some (.int (lowF u w pt))) I r J) := by
  have hp : 0 < Nat.gcd u w := Nat.gcd_pos_of_pos_right u h1
  have hle : Nat.gcd u w ≤ w := Nat.gcd_le_right u h1
  refine x_iload_n (q := 40) dX11_lowest_39 rfl rfl ?_
  refine x_iconst (1) (q := 41) dX11_lowest_40 rfl (by decide) ?_
  refine x_icmp_ge (t := 48) (q := 44) dX11_lowest_41 (by decide) rfl (fun c41 => ?_) (fun c41 => absurd c41 (fun q => q (nI_le (a := 1) (by omega) (by omega))))
  refine x_iload_n (q := 49) dX11_lowest_48 rfl rfl ?_
  refine x_istore (L2 := [some (.int (nI u)), some (.int (nI w)), some (.int pt), some (.int (nI (Nat.gcd u w))), some (.int y4), some (.int (nI (Nat.gcd u w))), x6]) (q := 51) dX11_lowest_49 rfl (by decide) rfl rfl ?_
  refine x_iload_n (q := 52) dX11_lowest_51 rfl rfl ?_
  refine x_if_ne (t := 59) (q := 55) dX11_lowest_52 (by decide) rfl (fun c52 => ?_) (fun c52 => ?_)
  · refine x_iload_n (q := 60) dX11_lowest_59 rfl rfl ?_
    refine x_iload (q := 62) dX11_lowest_60 rfl rfl ?_
    refine x_idiv (q := 63) dX11_lowest_62 rfl (nI_ne0 hp (by omega)) ?_
    refine q_iret dX11_lowest_63 rfl ?_
    try rw [pk_div (by omega) hp (by omega)]
    unfold lowF
    first | rw [if_pos c52] | rw [if_neg c52]
    exact ⟨rfl, rfl, rfl, rfl⟩
  · refine x_iload_n (q := 56) dX11_lowest_55 rfl rfl ?_
    refine x_goto (t := 60) dX11_lowest_56 (by decide) ?_
    refine x_iload (q := 62) dX11_lowest_60 rfl rfl ?_
    refine x_idiv (q := 63) dX11_lowest_62 rfl (nI_ne0 hp (by omega)) ?_
    refine q_iret dX11_lowest_63 rfl ?_
    try rw [pk_div (by omega) hp (by omega)]
    unfold lowF
    first | rw [if_pos c52] | rw [if_neg c52]
    exact ⟨rfl, rfl, rfl, rfl⟩
set_option maxRecDepth 100000 in
theorem l_low {u w : Nat} (hu : u < 1000000000) (hw : w < 1000000000) (h1 : 1 ≤ w) (pt : Int32) (I : MI) (r : MR) (J : MJ) : ∀ (f a b i : Nat) (x6 : Option Value), a < 1000000000 → b < 1000000000 → b < 2 ^ f → i + 2 * f ≤ 98 → Nat.gcd a b = Nat.gcd u w → Wq MX11_lowest 8 [some (.int (nI u)), some (.int (nI w)), some (.int pt), some (.int (nI a)), some (.int (nI b)), some (.int (nI i)), x6] [] I r J (Rt (some (.int (lowF u w pt))) I r J) := by
  intro f
  induction f with
  | zero =>
    intro a b i x6 ha hb hf hi hg
    have hb0 : b = 0 := by omega
    refine x_iload (q := 10) dX11_lowest_8 rfl rfl ?_
    refine x_bipush (100) (q := 12) dX11_lowest_10 rfl (by decide) ?_
    refine x_icmp_ge (t := 39) (q := 15) dX11_lowest_12 (by decide) rfl (fun c12 => absurd c12 (fun q => absurd ((nI_leI (a := 100) (b := i) (by omega) (by omega)).mp q) (by omega))) (fun c12 => ?_)
    refine x_iload (q := 17) dX11_lowest_15 rfl rfl ?_
    refine x_if_eq (t := 39) (q := 20) dX11_lowest_17 (by decide) rfl (fun c17 => ?_) (fun c17 => absurd c17 (fun q => q (by rw [hb0]; rfl)))
    rw [show a = Nat.gcd u w by rw [← hg, hb0, Nat.gcd_zero_right]]
    exact t_low hu hw h1 pt I r J _ _ _
  | succ f ih =>
    intro a b i x6 ha hb hf hi hg
    by_cases hb0 : b = 0
    · refine x_iload (q := 10) dX11_lowest_8 rfl rfl ?_
      refine x_bipush (100) (q := 12) dX11_lowest_10 rfl (by decide) ?_
      refine x_icmp_ge (t := 39) (q := 15) dX11_lowest_12 (by decide) rfl (fun c12 => absurd c12 (fun q => absurd ((nI_leI (a := 100) (b := i) (by omega) (by omega)).mp q) (by omega))) (fun c12 => ?_)
      refine x_iload (q := 17) dX11_lowest_15 rfl rfl ?_
      refine x_if_eq (t := 39) (q := 20) dX11_lowest_17 (by decide) rfl (fun c17 => ?_) (fun c17 => absurd c17 (fun q => q (by rw [hb0]; rfl)))
      rw [show a = Nat.gcd u w by rw [← hg, hb0, Nat.gcd_zero_right]]
      exact t_low hu hw h1 pt I r J _ _ _
    · refine x_iload (q := 10) dX11_lowest_8 rfl rfl ?_
      refine x_bipush (100) (q := 12) dX11_lowest_10 rfl (by decide) ?_
      refine x_icmp_ge (t := 39) (q := 15) dX11_lowest_12 (by decide) rfl (fun c12 => absurd c12 (fun q => absurd ((nI_leI (a := 100) (b := i) (by omega) (by omega)).mp q) (by omega))) (fun c12 => ?_)
      refine x_iload (q := 17) dX11_lowest_15 rfl rfl ?_
      refine x_if_eq (t := 39) (q := 20) dX11_lowest_17 (by decide) rfl (fun c17 => absurd c17 (nI_ne0 (by omega) (by omega))) (fun c17 => ?_)
      refine x_iload_n (q := 21) dX11_lowest_20 rfl rfl ?_
      refine x_iload (q := 23) dX11_lowest_21 rfl rfl ?_
      refine x_irem (q := 24) dX11_lowest_23 rfl (nI_ne0 (by omega) (by omega)) ?_
      refine x_nmi (fun v1 ev1 => ?_)
      refine x_istore (L2 := [some (.int (nI u)), some (.int (nI w)), some (.int pt), some (.int (nI a)), some (.int (nI b)), some (.int (nI i)), some (.int v1)]) (q := 26) dX11_lowest_24 rfl (by decide) rfl rfl ?_
      refine x_iload (q := 28) dX11_lowest_26 rfl rfl ?_
      refine x_istore_n (L2 := [some (.int (nI u)), some (.int (nI w)), some (.int pt), some (.int (nI b)), some (.int (nI b)), some (.int (nI i)), some (.int v1)]) (q := 29) dX11_lowest_28 rfl (by decide) rfl rfl ?_
      refine x_iload (q := 31) dX11_lowest_29 rfl rfl ?_
      refine x_istore (L2 := [some (.int (nI u)), some (.int (nI w)), some (.int pt), some (.int (nI b)), some (.int v1), some (.int (nI i)), some (.int v1)]) (q := 33) dX11_lowest_31 rfl (by decide) rfl rfl ?_
      obtain ⟨v2, ev2⟩ : ∃ y : Int32, y = (nI i) + 1 := ⟨_, rfl⟩
      refine x_iinc (v := v2) (L2 := [some (.int (nI u)), some (.int (nI w)), some (.int pt), some (.int (nI b)), some (.int v1), some (.int v2), some (.int v1)]) (q := 36) dX11_lowest_33 rfl (by decide) rfl rfl (by rw [ev2]; rfl) rfl ?_
      refine x_goto (t := 8) dX11_lowest_36 (by decide) ?_
      have er : v1 = nI (a % b) := by rw [ev1, pk_rem (by omega) (by omega) (by omega)]
      rw [er, show v2 = nI (i + 1) by rw [ev2, nI_p1]]
      have hmb : a % b < b := Nat.mod_lt a (by omega)
      by_cases hr0 : a % b = 0
      · refine x_iload (q := 10) dX11_lowest_8 rfl rfl ?_
        refine x_bipush (100) (q := 12) dX11_lowest_10 rfl (by decide) ?_
        refine x_icmp_ge (t := 39) (q := 15) dX11_lowest_12 (by decide) rfl (fun c12 => absurd c12 (fun q => absurd ((nI_leI (a := 100) (b := (i + 1)) (by omega) (by omega)).mp q) (by omega))) (fun c12 => ?_)
        refine x_iload (q := 17) dX11_lowest_15 rfl rfl ?_
        refine x_if_eq (t := 39) (q := 20) dX11_lowest_17 (by decide) rfl (fun c17 => ?_) (fun c17 => absurd c17 (fun q => q (by rw [hr0]; rfl)))
        rw [show b = Nat.gcd u w by rw [← hg, gcd_st, hr0, Nat.gcd_zero_right]]
        exact t_low hu hw h1 pt I r J _ _ _
      · refine x_iload (q := 10) dX11_lowest_8 rfl rfl ?_
        refine x_bipush (100) (q := 12) dX11_lowest_10 rfl (by decide) ?_
        refine x_icmp_ge (t := 39) (q := 15) dX11_lowest_12 (by decide) rfl (fun c12 => absurd c12 (fun q => absurd ((nI_leI (a := 100) (b := (i + 1)) (by omega) (by omega)).mp q) (by omega))) (fun c12 => ?_)
        refine x_iload (q := 17) dX11_lowest_15 rfl rfl ?_
        refine x_if_eq (t := 39) (q := 20) dX11_lowest_17 (by decide) rfl (fun c17 => absurd c17 (nI_ne0 (by omega) (by omega))) (fun c17 => ?_)
        refine x_iload_n (q := 21) dX11_lowest_20 rfl rfl ?_
        refine x_iload (q := 23) dX11_lowest_21 rfl rfl ?_
        refine x_irem (q := 24) dX11_lowest_23 rfl (nI_ne0 (by omega) (by omega)) ?_
        refine x_nmi (fun v51 ev51 => ?_)
        refine x_istore (L2 := [some (.int (nI u)), some (.int (nI w)), some (.int pt), some (.int (nI b)), some (.int (nI (a % b))), some (.int (nI (i + 1))), some (.int v51)]) (q := 26) dX11_lowest_24 rfl (by decide) rfl rfl ?_
        refine x_iload (q := 28) dX11_lowest_26 rfl rfl ?_
        refine x_istore_n (L2 := [some (.int (nI u)), some (.int (nI w)), some (.int pt), some (.int (nI (a % b))), some (.int (nI (a % b))), some (.int (nI (i + 1))), some (.int v51)]) (q := 29) dX11_lowest_28 rfl (by decide) rfl rfl ?_
        refine x_iload (q := 31) dX11_lowest_29 rfl rfl ?_
        refine x_istore (L2 := [some (.int (nI u)), some (.int (nI w)), some (.int pt), some (.int (nI (a % b))), some (.int v51), some (.int (nI (i + 1))), some (.int v51)]) (q := 33) dX11_lowest_31 rfl (by decide) rfl rfl ?_
        obtain ⟨v52, ev52⟩ : ∃ y : Int32, y = (nI (i + 1)) + 1 := ⟨_, rfl⟩
        refine x_iinc (v := v52) (L2 := [some (.int (nI u)), some (.int (nI w)), some (.int pt), some (.int (nI (a % b))), some (.int v51), some (.int v52), some (.int v51)]) (q := 36) dX11_lowest_33 rfl (by decide) rfl rfl (by rw [ev52]; rfl) rfl ?_
        refine x_goto (t := 8) dX11_lowest_36 (by decide) ?_
        have er3 : v51 = nI (b % (a % b)) := by rw [ev51, pk_rem (by omega) (by omega) (by omega)]
        rw [er3, show v52 = nI (i + 2) by rw [ev52, nI_p1]]
        have hh := half_mod (show 0 < a % b by omega) hmb
        have h2f : 2 ^ (f + 1) = 2 ^ f + 2 ^ f := by rw [Nat.pow_succ]; omega
        exact ih (a % b) (b % (a % b)) (i + 2) _ (by omega) (by omega) (by omega) (by omega) (by rw [← hg, gcd_st (a := a) (b := b), gcd_st (a := b) (b := a % b)])
set_option maxRecDepth 100000 in
theorem c_lowest {u w : Nat} (hu : u < 1000000000) (hw : w < 1000000000) (h1 : 1 ≤ w) (pt : Int32) (I : MI) (r : MR) (J : MJ) : Cq yX11_lowest MX11_lowest [.int (nI u), .int (nI w), .int pt] I r J (Rt (some (.int (lowF u w pt))) I r J) := by
  refine cq_of [some (.int (nI u)), some (.int (nI w)), some (.int pt), none, none, none, none] 4 (by decide +kernel) rfl rfl (Nat.le_of_ble_eq_true rfl) rfl ?_
  refine x_iload_n (q := 1) dX11_lowest_0 rfl rfl ?_
  refine x_istore_n (L2 := [some (.int (nI u)), some (.int (nI w)), some (.int pt), some (.int (nI u)), none, none, none]) (q := 2) dX11_lowest_1 rfl (by decide) rfl rfl ?_
  refine x_iload_n (q := 3) dX11_lowest_2 rfl rfl ?_
  refine x_istore (L2 := [some (.int (nI u)), some (.int (nI w)), some (.int pt), some (.int (nI u)), some (.int (nI w)), none, none]) (q := 5) dX11_lowest_3 rfl (by decide) rfl rfl ?_
  refine x_iconst (0) (q := 6) dX11_lowest_5 rfl (by decide) ?_
  refine x_istore (L2 := [some (.int (nI u)), some (.int (nI w)), some (.int pt), some (.int (nI u)), some (.int (nI w)), some (.int 0), none]) (q := 8) dX11_lowest_6 rfl (by decide) rfl rfl ?_
  exact l_low hu hw h1 pt I r J 30 u w 0 _ hu hw (by omega) (by decide) rfl
set_option maxRecDepth 100000 in
theorem l_com (x0 x1 : Int32) (I : MI) (r : MR) (J : MJ) : ∀ (f a b : Nat) (x4 : Option Value), b ≤ f → a < 1000000000 → b < 1000000000 → Wq MX12_common 4 [some (.int x0), some (.int x1), some (.int (nI a)), some (.int (nI b)), x4] [] I r J (Rt (some (.int (nI (Nat.gcd a b)))) I r J) := by
  intro f
  induction f with
  | zero =>
    intro a b x4 hf ha hb
    have hb0 : b = 0 := by omega
    refine x_iload_n (q := 5) dX12_common_4 rfl rfl ?_
    refine x_if_le (t := 21) (q := 8) dX12_common_5 (by decide) rfl (fun c5 => ?_) (fun c5 => absurd c5 (fun q => q (by rw [hb0]; decide)))
    refine x_iload_n (q := 22) dX12_common_21 rfl rfl ?_
    refine q_iret dX12_common_22 rfl ?_
    rw [hb0, Nat.gcd_zero_right]
    exact ⟨rfl, rfl, rfl, rfl⟩
  | succ f ih =>
    intro a b x4 hf ha hb
    by_cases hb0 : b = 0
    · refine x_iload_n (q := 5) dX12_common_4 rfl rfl ?_
      refine x_if_le (t := 21) (q := 8) dX12_common_5 (by decide) rfl (fun c5 => ?_) (fun c5 => absurd c5 (fun q => q (by rw [hb0]; decide)))
      refine x_iload_n (q := 22) dX12_common_21 rfl rfl ?_
      refine q_iret dX12_common_22 rfl ?_
      rw [hb0, Nat.gcd_zero_right]
      exact ⟨rfl, rfl, rfl, rfl⟩
    · refine x_iload_n (q := 5) dX12_common_4 rfl rfl ?_
      refine x_if_le (t := 21) (q := 8) dX12_common_5 (by decide) rfl (fun c5 => absurd c5 (nI_nle (by omega) (by omega))) (fun c5 => ?_)
      refine x_iload_n (q := 9) dX12_common_8 rfl rfl ?_
      refine x_iload_n (q := 10) dX12_common_9 rfl rfl ?_
      refine x_irem (q := 11) dX12_common_10 rfl (nI_ne0 (by omega) (by omega)) ?_
      refine x_nmi (fun v1 ev1 => ?_)
      refine x_istore (L2 := [some (.int x0), some (.int x1), some (.int (nI a)), some (.int (nI b)), some (.int v1)]) (q := 13) dX12_common_11 rfl (by decide) rfl rfl ?_
      refine x_iload_n (q := 14) dX12_common_13 rfl rfl ?_
      refine x_istore_n (L2 := [some (.int x0), some (.int x1), some (.int (nI b)), some (.int (nI b)), some (.int v1)]) (q := 15) dX12_common_14 rfl (by decide) rfl rfl ?_
      refine x_iload (q := 17) dX12_common_15 rfl rfl ?_
      refine x_istore_n (L2 := [some (.int x0), some (.int x1), some (.int (nI b)), some (.int v1), some (.int v1)]) (q := 18) dX12_common_17 rfl (by decide) rfl rfl ?_
      refine x_goto (t := 4) dX12_common_18 (by decide) ?_
      have er : v1 = nI (a % b) := by rw [ev1, pk_rem (by omega) (by omega) (by omega)]
      have hmb : a % b < b := Nat.mod_lt a (by omega)
      rw [er, gcd_st]
      exact ih b (a % b) _ (by omega) hb (by omega)
set_option maxRecDepth 100000 in
theorem c_common {a b : Nat} (ha : a < 1000000000) (hb : b < 1000000000) (I : MI) (r : MR) (J : MJ) : Cq yX12_common MX12_common [.int (nI a), .int (nI b)] I r J (Rt (some (.int (nI (Nat.gcd a b)))) I r J) := by
  refine cq_of [some (.int (nI a)), some (.int (nI b)), none, none, none] 3 (by decide +kernel) rfl rfl (Nat.le_of_ble_eq_true rfl) rfl ?_
  refine x_iload_n (q := 1) dX12_common_0 rfl rfl ?_
  refine x_istore_n (L2 := [some (.int (nI a)), some (.int (nI b)), some (.int (nI a)), none, none]) (q := 2) dX12_common_1 rfl (by decide) rfl rfl ?_
  refine x_iload_n (q := 3) dX12_common_2 rfl rfl ?_
  refine x_istore_n (L2 := [some (.int (nI a)), some (.int (nI b)), some (.int (nI a)), some (.int (nI b)), none]) (q := 4) dX12_common_3 rfl (by decide) rfl rfl ?_
  exact l_com _ _ I r J b a b _ (Nat.le_refl _) ha hb
def wgN (I : MI) (b i : Nat) : Nat := (I (b + 9) i).toNatClampNeg
def sumW (I : MI) (b : Nat) (p : Nat → Bool) : Nat → Nat
  | 0 => 0
  | n + 1 => sumW I b p n + (if p n then wgN I b n else 0)
theorem ib_n {x : Int32} {a c : Int} (h : Ib x a c) (ha : 0 ≤ a) : x = nI x.toNatClampNeg ∧ (x.toNatClampNeg : Int) = x.toInt := by
  obtain ⟨j, hj, rfl⟩ := nI_of (x := x) (by rw [Int32.lt_iff_toInt_lt, Int32.toInt_zero]; have := h.1; omega)
  rw [nI_clamp hj, nI_toInt hj]
  exact ⟨rfl, rfl⟩
theorem wg_ok {I : MI} {b yn wn sn i : Nat} (h : LOk2 I b yn wn sn) (hi : i < sn) : I (b + 9) i = nI (wgN I b i) ∧ 1 ≤ wgN I b i ∧ wgN I b i ≤ 99 := by
  have q := (h.2.2.2.2.1 i hi).2
  obtain ⟨e1, e2⟩ := ib_n q (by decide)
  refine ⟨e1, ?_, ?_⟩
  · have := q.1
    unfold wgN
    omega
  · have := q.2
    unfold wgN
    omega
theorem sumW_le {I : MI} {b yn wn sn : Nat} (h : LOk2 I b yn wn sn) (p : Nat → Bool) : ∀ n, n ≤ sn → sumW I b p n ≤ 99 * n := by
  intro n
  induction n with
  | zero => intro _; exact Nat.le_refl _
  | succ n ih =>
    intro hn
    have := ih (by omega)
    have := (wg_ok h (show n < sn by omega)).2.2
    unfold sumW
    by_cases q : p n = true
    · rw [if_pos q]; omega
    · rw [if_neg q]; omega
theorem sumW_k {I X : MI} {b : Nat} (hk : Kp I X) (hb : b ≤ 28) (p : Nat → Bool) : ∀ n, sumW X b p n = sumW I b p n := by
  intro n
  induction n with
  | zero => rfl
  | succ n ih =>
    unfold sumW wgN
    rw [ih, hk.L hb (b + 9) ⟨by omega, by omega⟩]
theorem sumW_c {I : MI} {b : Nat} {p q : Nat → Bool} (h : ∀ k, p k = q k) (n : Nat) : sumW I b p n = sumW I b q n := by
  have : p = q := funext h
  rw [this]
theorem sumW_pos {I : MI} {b yn wn sn : Nat} (h : LOk2 I b yn wn sn) {p : Nat → Bool} {k : Nat} (hk : p k = true) : ∀ n, n ≤ sn → k < n → 1 ≤ sumW I b p n := by
  intro n
  induction n with
  | zero => intro _ q; omega
  | succ n ih =>
    intro hn hkn
    unfold sumW
    by_cases e : k = n
    · subst e
      rw [if_pos hk]
      have := (wg_ok h (show k < sn by omega)).2.1
      omega
    · have := ih (by omega) (by omega)
      omega
theorem bits_ne {p : Nat → Bool} {n : Nat} (h : ¬ bitsN p n = 0) : ∃ k, k < n ∧ p k = true := by
  induction n with
  | zero => exact absurd rfl h
  | succ n ih =>
    by_cases q : p n = true
    · exact ⟨n, by omega, q⟩
    · have e : bitsN p (n + 1) = bitsN p n := by rw [bitsN_s, if_neg q, Nat.add_zero]
      rw [e] at h
      obtain ⟨k, k1, k2⟩ := ih h
      exact ⟨k, by omega, k2⟩
theorem W_pos {I : MI} {b yn wn hn sn gn : Nat} {k : Int32} (h : LOk2 I b yn wn sn) (h0 : ¬ lftN I b hn sn gn k = 0) : 1 ≤ sumW I b (lftN I b hn sn gn k).testBit sn := by
  obtain ⟨i, i1, i2⟩ := bits_ne h0
  refine sumW_pos h (k := i) ?_ sn (Nat.le_refl _) i1
  unfold lftN
  rw [bitsN_tb]
  simp [i1, i2]
set_option maxRecDepth 100000 in
theorem l_wof {I : MI} {b yn wn sn : Nat} (hb : SH b = (15, 18)) (h2 : LOk2 I b yn wn sn) {N : Nat} (hN : N < 1000) (r : MR) (J : MJ) : ∀ (f : Nat) (i : Nat) (_ : i + f = sn), Wq MX5_weightOf 4 [some (.ref b), some (.int (nI N)), some (.int (nI (sumW I b N.testBit i))), some (.int (nI i))] [] I r J (Rt (some (.int (nI (sumW I b N.testBit sn)))) I r J) := by
  have hs7 : sn ≤ 7 := h2.2.2.2.1
  have es : I b 12 = nI sn := h2.2.2.1
  intro f
  induction f with
  | zero =>
    intro i hik
    refine x_iload_n (q := 5) dX5_weightOf_4 rfl rfl ?_
    refine x_aload_n (q := 6) dX5_weightOf_5 rfl rfl ?_
    refine q_gi (K := 12) (q := 9) dX5_weightOf_6 rfl cl_5 (by decide) tw_210 hb rfl ?_
    refine x_icmp_ge (t := 35) (q := 12) dX5_weightOf_9 (by decide) rfl (fun c9 => ?_) (fun c9 => absurd c9 (fun q => q (by rw [es]; exact nI_le (by omega) (by omega))))
    refine x_iload_n (q := 36) dX5_weightOf_35 rfl rfl ?_
    refine q_iret dX5_weightOf_36 rfl ?_
    rw [show i = sn by omega]
    exact ⟨rfl, rfl, rfl, rfl⟩
  | succ f ih =>
    intro i hik
    refine x_iload_n (q := 5) dX5_weightOf_4 rfl rfl ?_
    refine x_aload_n (q := 6) dX5_weightOf_5 rfl rfl ?_
    refine q_gi (K := 12) (q := 9) dX5_weightOf_6 rfl cl_5 (by decide) tw_210 hb rfl ?_
    refine x_icmp_ge (t := 35) (q := 12) dX5_weightOf_9 (by decide) rfl (fun c9 => absurd c9 (by rw [es]; exact nI_ge (by omega) (by omega))) (fun c9 => ?_)
    refine x_iload_n (q := 13) dX5_weightOf_12 rfl rfl ?_
    refine x_iload_n (q := 14) dX5_weightOf_13 rfl rfl ?_
    refine x_ishr (q := 15) dX5_weightOf_14 rfl ?_
    refine x_iconst (1) (q := 16) dX5_weightOf_15 rfl (by decide) ?_
    refine x_iand (q := 17) dX5_weightOf_16 rfl ?_
    refine x_if_eq (t := 29) (q := 20) dX5_weightOf_17 (by decide) rfl (fun c17 => ?_) (fun c17 => ?_)
    · obtain ⟨v1, ev1⟩ : ∃ y : Int32, y = (nI i) + 1 := ⟨_, rfl⟩
      refine x_iinc (v := v1) (L2 := [some (.ref b), some (.int (nI N)), some (.int (nI (sumW I b N.testBit i))), some (.int v1)]) (q := 32) dX5_weightOf_29 rfl (by decide) rfl rfl (by rw [ev1]; rfl) rfl ?_
      refine x_goto (t := 4) dX5_weightOf_32 (by decide) ?_
      rw [show v1 = nI (i + 1) by rw [ev1, nI_p1]]
      have e9 : sumW I b N.testBit (i + 1) = sumW I b N.testBit i := by
        show sumW I b N.testBit i + _ = _
        rw [if_neg (by rw [(bit_0 (by omega) (by omega)).mp c17]; decide)]
        rfl
      rw [← e9]
      exact ih (i + 1) (by omega)
    · refine x_iload_n (q := 21) dX5_weightOf_20 rfl rfl ?_
      refine x_aload_n (q := 22) dX5_weightOf_21 rfl rfl ?_
      refine q_gr (K := 11) (b := (b + 9)) (q := 25) dX5_weightOf_22 rfl cl_5 (by decide) tw_206 hb rfl (lr_w hb _).2.2.2.2.2.2.2.2 ?_
      refine x_iload_n (q := 26) dX5_weightOf_25 rfl rfl ?_
      refine q_iald (q := 27) dX5_weightOf_26 rfl (ls_w hb).2.2.2.2.2.2.2.2 (vp_in_nI (by omega) (by decide)) ?_
      refine x_iadd (q := 28) dX5_weightOf_27 rfl ?_
      refine x_nmi (fun v2 ev2 => ?_)
      refine x_istore_n (L2 := [some (.ref b), some (.int (nI N)), some (.int v2), some (.int (nI i))]) (q := 29) dX5_weightOf_28 rfl (by decide) rfl rfl ?_
      obtain ⟨v3, ev3⟩ : ∃ y : Int32, y = (nI i) + 1 := ⟨_, rfl⟩
      refine x_iinc (v := v3) (L2 := [some (.ref b), some (.int (nI N)), some (.int v2), some (.int v3)]) (q := 32) dX5_weightOf_29 rfl (by decide) rfl rfl (by rw [ev3]; rfl) rfl ?_
      refine x_goto (t := 4) dX5_weightOf_32 (by decide) ?_
      rw [show v3 = nI (i + 1) by rw [ev3, nI_p1]]
      have e9 : v2 = nI (sumW I b N.testBit (i + 1)) := by
        have eb : N.testBit i = true := by
          cases q : N.testBit i
          · exact absurd ((bit_0 (by omega) (by omega)).mpr q) c17
          · rfl
        rw [ev2, nI_clamp (by omega), (wg_ok h2 (by omega)).1, nI_add]
        show _ = nI (sumW I b N.testBit i + _)
        rw [if_pos eb]
      rw [e9]
      exact ih (i + 1) (by omega)
set_option maxRecDepth 100000 in
theorem c_wof {I : MI} {b yn wn sn : Nat} (hb : SH b = (15, 18)) (h2 : LOk2 I b yn wn sn) {N : Nat} (hN : N < 1000) (r : MR) (J : MJ) : Cq yX5_weightOf MX5_weightOf [.ref b, .int (nI N)] I r J (Rt (some (.int (nI (sumW I b N.testBit sn)))) I r J) := by
  refine cq_of [some (.ref b), some (.int (nI N)), none, none] 2 (by decide +kernel) rfl rfl (Nat.le_of_ble_eq_true rfl) rfl ?_
  refine x_iconst (0) (q := 1) dX5_weightOf_0 rfl (by decide) ?_
  refine x_istore_n (L2 := [some (.ref b), some (.int (nI N)), some (.int 0), none]) (q := 2) dX5_weightOf_1 rfl (by decide) rfl rfl ?_
  refine x_iconst (0) (q := 3) dX5_weightOf_2 rfl (by decide) ?_
  refine x_istore_n (L2 := [some (.ref b), some (.int (nI N)), some (.int 0), some (.int 0)]) (q := 4) dX5_weightOf_3 rfl (by decide) rfl rfl ?_
  exact l_wof hb h2 hN r J sn 0 (by omega)
set_option maxRecDepth 100000 in
theorem l_mwof {I : MI} {b yn wn sn : Nat} (h2 : LOk2 I b yn wn sn) (he : RLe I b yn wn sn) {N : Nat} (hN : N < 1000) (r : MR) (J : MJ) : ∀ (f : Nat) (i : Nat) (_ : i + f = sn), Wq MX12_weightOf 4 [some (.ref 100), some (.int (nI N)), some (.int (nI (sumW I b N.testBit i))), some (.int (nI i))] [] I r J (Rt (some (.int (nI (sumW I b N.testBit sn)))) I r J) := by
  have hs7 : sn ≤ 7 := h2.2.2.2.1
  have es : I 100 44 = nI sn := he.2.1
  intro f
  induction f with
  | zero =>
    intro i hik
    refine x_iload_n (q := 5) dX12_weightOf_4 rfl rfl ?_
    refine x_aload_n (q := 6) dX12_weightOf_5 rfl rfl ?_
    refine q_gi (K := 44) (q := 9) dX12_weightOf_6 rfl cl_12 (by decide) tw_1126 rfl rfl ?_
    refine x_icmp_ge (t := 40) (q := 12) dX12_weightOf_9 (by decide) rfl (fun c9 => ?_) (fun c9 => absurd c9 (fun q => q (by rw [es]; exact nI_le (by omega) (by omega))))
    refine x_iload_n (q := 41) dX12_weightOf_40 rfl rfl ?_
    refine q_iret dX12_weightOf_41 rfl ?_
    rw [show i = sn by omega]
    exact ⟨rfl, rfl, rfl, rfl⟩
  | succ f ih =>
    intro i hik
    refine x_iload_n (q := 5) dX12_weightOf_4 rfl rfl ?_
    refine x_aload_n (q := 6) dX12_weightOf_5 rfl rfl ?_
    refine q_gi (K := 44) (q := 9) dX12_weightOf_6 rfl cl_12 (by decide) tw_1126 rfl rfl ?_
    refine x_icmp_ge (t := 40) (q := 12) dX12_weightOf_9 (by decide) rfl (fun c9 => absurd c9 (by rw [es]; exact nI_ge (by omega) (by omega))) (fun c9 => ?_)
    refine x_iload_n (q := 13) dX12_weightOf_12 rfl rfl ?_
    refine x_iload_n (q := 14) dX12_weightOf_13 rfl rfl ?_
    refine x_iload_n (q := 15) dX12_weightOf_14 rfl rfl ?_
    refine x_ishr (q := 16) dX12_weightOf_15 rfl ?_
    refine x_iconst (1) (q := 17) dX12_weightOf_16 rfl (by decide) ?_
    refine x_iand (q := 18) dX12_weightOf_17 rfl ?_
    refine x_iconst (1) (q := 19) dX12_weightOf_18 rfl (by decide) ?_
    refine x_icmp_ne (t := 31) (q := 22) dX12_weightOf_19 (by decide) rfl (fun c19 => ?_) (fun c19 => ?_)
    · refine x_iconst (0) (q := 32) dX12_weightOf_31 rfl (by decide) ?_
      refine x_iadd (q := 33) dX12_weightOf_32 rfl ?_
      refine x_nmi (fun v1 ev1 => ?_)
      refine x_istore_n (L2 := [some (.ref 100), some (.int (nI N)), some (.int v1), some (.int (nI i))]) (q := 34) dX12_weightOf_33 rfl (by decide) rfl rfl ?_
      obtain ⟨v2, ev2⟩ : ∃ y : Int32, y = (nI i) + 1 := ⟨_, rfl⟩
      refine x_iinc (v := v2) (L2 := [some (.ref 100), some (.int (nI N)), some (.int v1), some (.int v2)]) (q := 37) dX12_weightOf_34 rfl (by decide) rfl rfl (by rw [ev2]; rfl) rfl ?_
      refine x_goto (t := 4) dX12_weightOf_37 (by decide) ?_
      rw [show v2 = nI (i + 1) by rw [ev2, nI_p1]]
      have e9 : v1 = nI (sumW I b N.testBit (i + 1)) := by
        show _ = nI (sumW I b N.testBit i + _)
        cases q : N.testBit i
        · first | (exact absurd ((bit_1 (by omega) (by omega)).mp (Classical.not_not.mp c19)) (by rw [q]; decide)) | (exact absurd ((bit_1 (by omega) (by omega)).mp c19) (by rw [q]; decide)) | (rw [ev1, if_neg (by decide)]; exact nI_add _ 0)
        · first | (exact absurd ((bit_1 (by omega) (by omega)).mpr q) c19) | (rw [ev1, nI_clamp (by omega), (he.2.2.2.2.2.1 i (by omega)).2, (wg_ok h2 (by omega)).1, nI_add, if_pos rfl])
      rw [e9]
      exact ih (i + 1) (by omega)
    · refine x_aload_n (q := 23) dX12_weightOf_22 rfl rfl ?_
      refine q_gr (K := 32) (b := 124) (q := 26) dX12_weightOf_23 rfl cl_12 (by decide) tw_1114 rfl rfl rfl ?_
      refine x_iload_n (q := 27) dX12_weightOf_26 rfl rfl ?_
      refine q_iald (q := 28) dX12_weightOf_27 rfl rfl (vp_in_nI (by omega) (by decide)) ?_
      refine x_goto (t := 32) dX12_weightOf_28 (by decide) ?_
      refine x_iadd (q := 33) dX12_weightOf_32 rfl ?_
      refine x_nmi (fun v3 ev3 => ?_)
      refine x_istore_n (L2 := [some (.ref 100), some (.int (nI N)), some (.int v3), some (.int (nI i))]) (q := 34) dX12_weightOf_33 rfl (by decide) rfl rfl ?_
      obtain ⟨v4, ev4⟩ : ∃ y : Int32, y = (nI i) + 1 := ⟨_, rfl⟩
      refine x_iinc (v := v4) (L2 := [some (.ref 100), some (.int (nI N)), some (.int v3), some (.int v4)]) (q := 37) dX12_weightOf_34 rfl (by decide) rfl rfl (by rw [ev4]; rfl) rfl ?_
      refine x_goto (t := 4) dX12_weightOf_37 (by decide) ?_
      rw [show v4 = nI (i + 1) by rw [ev4, nI_p1]]
      have e9 : v3 = nI (sumW I b N.testBit (i + 1)) := by
        show _ = nI (sumW I b N.testBit i + _)
        cases q : N.testBit i
        · first | (exact absurd ((bit_1 (by omega) (by omega)).mp (Classical.not_not.mp c19)) (by rw [q]; decide)) | (exact absurd ((bit_1 (by omega) (by omega)).mp c19) (by rw [q]; decide)) | (rw [ev3, if_neg (by decide)]; exact nI_add _ 0)
        · first | (exact absurd ((bit_1 (by omega) (by omega)).mpr q) c19) | (rw [ev3, nI_clamp (by omega), (he.2.2.2.2.2.1 i (by omega)).2, (wg_ok h2 (by omega)).1, nI_add, if_pos rfl])
      rw [e9]
      exact ih (i + 1) (by omega)
set_option maxRecDepth 100000 in
theorem c_mwof {I : MI} {b yn wn sn : Nat} (h2 : LOk2 I b yn wn sn) (he : RLe I b yn wn sn) {N : Nat} (hN : N < 1000) (r : MR) (J : MJ) : Cq yX12_weightOf MX12_weightOf [.ref 100, .int (nI N)] I r J (Rt (some (.int (nI (sumW I b N.testBit sn)))) I r J) := by
  refine cq_of [some (.ref 100), some (.int (nI N)), none, none] 2 (by decide +kernel) rfl rfl (Nat.le_of_ble_eq_true rfl) rfl ?_
  refine x_iconst (0) (q := 1) dX12_weightOf_0 rfl (by decide) ?_
  refine x_istore_n (L2 := [some (.ref 100), some (.int (nI N)), some (.int 0), none]) (q := 2) dX12_weightOf_1 rfl (by decide) rfl rfl ?_
  refine x_iconst (0) (q := 3) dX12_weightOf_2 rfl (by decide) ?_
  refine x_istore_n (L2 := [some (.ref 100), some (.int (nI N)), some (.int 0), some (.int 0)]) (q := 4) dX12_weightOf_3 rfl (by decide) rfl rfl ?_
  exact l_mwof h2 he hN r J sn 0 (by omega)
