def fi (o : Nat → Nat) : Nat → Nat
  | 0 => 0
  | k + 1 => if o (k + 1) < o k then fi o k else k + 1
def fj (o : Nat → Nat) (x : Nat) : Nat → Nat
  | 0 => 0
  | j + 1 => if o (j + 1) < x then fj o x j else j + 1
def sw (o : Nat → Nat) (i j : Nat) : Nat → Nat := fun k => if k = j then o i else if k = i then o j else o k
def rvv : Nat → (Nat → Nat) → Nat → Nat → Nat → Nat
  | 0, o, _, _ => o
  | f + 1, o, lo, hi => if lo < hi then rvv f (sw o lo hi) (lo + 1) (hi - 1) else o
def nx (n : Nat) (o : Nat → Nat) : Option (Nat → Nat) :=
  match fi o (n - 1) with
  | 0 => none
  | i + 1 => some (rvv 8 (sw o i (fj o (o i) (n - 1))) (i + 1) (n - 1))
def nxV (n : Nat) (o : Nat → Nat) : Int32 := if (nx n o).isSome then 1 else 0
def nxO (n : Nat) (o : Nat → Nat) : Nat → Nat := (nx n o).getD o
theorem i_m1 (x : Int32) : x + (-1) = x - 1 := (Int32.sub_eq_add_neg x 1).symm
theorem fi_le (o : Nat → Nat) : ∀ k, fi o k ≤ k := by
  intro k
  induction k with
  | zero => exact Nat.le_refl _
  | succ k ih =>
    unfold fi
    by_cases q : o (k + 1) < o k
    · rw [if_pos q]; omega
    · rw [if_neg q]; omega
theorem fi_up (o : Nat → Nat) : ∀ k i, fi o k = i + 1 → ¬ o (i + 1) < o i := by
  intro k
  induction k with
  | zero => intro i h; exact absurd h (by unfold fi; omega)
  | succ k ih =>
    intro i h
    unfold fi at h
    by_cases q : o (k + 1) < o k
    · rw [if_pos q] at h; exact ih i h
    · rw [if_neg q] at h
      rw [← h, show i = k by omega]
      exact q
theorem nx_0 {n : Nat} {o : Nat → Nat} (h : fi o (n - 1) = 0) : nx n o = none := by unfold nx; rw [h]
theorem nx_1 {n i : Nat} {o : Nat → Nat} (h : fi o (n - 1) = i + 1) : nx n o = some (rvv 8 (sw o i (fj o (o i) (n - 1))) (i + 1) (n - 1)) := by unfold nx; rw [h]
def oc (c n : Nat) (o : Nat → Nat) (X : MI) : Prop := ∀ k, k < n → o k < 8 ∧ X c k = nI (o k)
def nxP (c n : Nat) (o : Nat → Nat) (X : MI) (Y : MI) : Prop := (∀ c', c' ≠ c → Y c' = X c') ∧ oc c n (nxO n o) Y
theorem oc_sw {c n i j : Nat} {o : Nat → Nat} {X : MI} (h : oc c n o X) (hi : i < n) (hj : j < n) : oc c n (sw o i j) (upI (upI X c i (X c j)) c j (X c i)) := by
  intro k hk
  unfold sw
  by_cases e : k = j
  · rw [if_pos e, e, upq]; exact h i hi
  · rw [if_neg e, ups e]
    by_cases e2 : k = i
    · rw [if_pos e2, e2, upq]; exact h j hj
    · rw [if_neg e2, ups e2]; exact h k hk
set_option maxRecDepth 100000 in
theorem c_xsw {i j : Nat} (hi : i < 7) (hj : j < 7) (X : MI) (r : MR) (J : MJ) : Cq yX3_swap MX3_swap [.ref 80, .int (nI i), .int (nI j)] X r J (Rt none (upI (upI X 83 i (X 83 j)) 83 j (X 83 i)) r J) := by
  refine cq_of [some (.ref 80), some (.int (nI i)), some (.int (nI j)), none] 1 (by decide +kernel) rfl rfl (Nat.le_of_ble_eq_true rfl) rfl ?_
  refine x_aload_n (q := 1) dX3_swap_0 rfl rfl ?_
  refine q_gr (K := 2) (b := 83) (q := 4) dX3_swap_1 rfl cl_3 (by decide) tw_488 rfl rfl rfl ?_
  refine x_iload_n (q := 5) dX3_swap_4 rfl rfl ?_
  refine q_iald (q := 6) dX3_swap_5 rfl rfl (vp_in_nI (by omega) (by decide)) ?_
  refine x_nmi (fun v1 ev1 => ?_)
  refine x_istore_n (L2 := [some (.ref 80), some (.int (nI i)), some (.int (nI j)), some (.int v1)]) (q := 7) dX3_swap_6 rfl (by decide) rfl rfl ?_
  refine x_aload_n (q := 8) dX3_swap_7 rfl rfl ?_
  refine q_gr (K := 2) (b := 83) (q := 11) dX3_swap_8 rfl cl_3 (by decide) tw_488 rfl rfl rfl ?_
  refine x_iload_n (q := 12) dX3_swap_11 rfl rfl ?_
  refine x_aload_n (q := 13) dX3_swap_12 rfl rfl ?_
  refine q_gr (K := 2) (b := 83) (q := 16) dX3_swap_13 rfl cl_3 (by decide) tw_488 rfl rfl rfl ?_
  refine x_iload_n (q := 17) dX3_swap_16 rfl rfl ?_
  refine q_iald (q := 18) dX3_swap_17 rfl rfl (vp_in_nI (by omega) (by decide)) ?_
  refine q_iast (q := 19) dX3_swap_18 rfl rfl (vp_in_nI (by omega) (by decide)) (fun I2 eI2 => ?_)
  refine x_aload_n (q := 20) dX3_swap_19 rfl rfl ?_
  refine q_gr (K := 2) (b := 83) (q := 23) dX3_swap_20 rfl cl_3 (by decide) tw_488 rfl rfl rfl ?_
  refine x_iload_n (q := 24) dX3_swap_23 rfl rfl ?_
  refine x_iload_n (q := 25) dX3_swap_24 rfl rfl ?_
  refine q_iast (q := 26) dX3_swap_25 rfl rfl (vp_in_nI (by omega) (by decide)) (fun I3 eI3 => ?_)
  refine q_vret dX3_swap_26 rfl ?_
  rw [nI_clamp (by omega), nI_clamp (by omega)] at eI2
  rw [nI_clamp (by omega)] at eI3 ev1
  rw [eI3, eI2, ev1]
  exact ⟨rfl, rfl, rfl, rfl⟩
set_option maxRecDepth 100000 in
theorem c_msw {i j : Nat} (hi : i < 7) (hj : j < 7) (X : MI) (r : MR) (J : MJ) : Cq yX12_swap MX12_swap [.ref 100, .int (nI i), .int (nI j)] X r J (Rt none (upI (upI X 129 i (X 129 j)) 129 j (X 129 i)) r J) := by
  refine cq_of [some (.ref 100), some (.int (nI i)), some (.int (nI j)), none] 1 (by decide +kernel) rfl rfl (Nat.le_of_ble_eq_true rfl) rfl ?_
  refine x_aload_n (q := 1) dX12_swap_0 rfl rfl ?_
  refine q_gr (K := 59) (b := 129) (q := 4) dX12_swap_1 rfl cl_12 (by decide) tw_1141 rfl rfl rfl ?_
  refine x_iload_n (q := 5) dX12_swap_4 rfl rfl ?_
  refine q_iald (q := 6) dX12_swap_5 rfl rfl (vp_in_nI (by omega) (by decide)) ?_
  refine x_nmi (fun v1 ev1 => ?_)
  refine x_istore_n (L2 := [some (.ref 100), some (.int (nI i)), some (.int (nI j)), some (.int v1)]) (q := 7) dX12_swap_6 rfl (by decide) rfl rfl ?_
  refine x_aload_n (q := 8) dX12_swap_7 rfl rfl ?_
  refine q_gr (K := 59) (b := 129) (q := 11) dX12_swap_8 rfl cl_12 (by decide) tw_1141 rfl rfl rfl ?_
  refine x_iload_n (q := 12) dX12_swap_11 rfl rfl ?_
  refine x_aload_n (q := 13) dX12_swap_12 rfl rfl ?_
  refine q_gr (K := 59) (b := 129) (q := 16) dX12_swap_13 rfl cl_12 (by decide) tw_1141 rfl rfl rfl ?_
  refine x_iload_n (q := 17) dX12_swap_16 rfl rfl ?_
  refine q_iald (q := 18) dX12_swap_17 rfl rfl (vp_in_nI (by omega) (by decide)) ?_
  refine q_iast (q := 19) dX12_swap_18 rfl rfl (vp_in_nI (by omega) (by decide)) (fun I2 eI2 => ?_)
  refine x_aload_n (q := 20) dX12_swap_19 rfl rfl ?_
  refine q_gr (K := 59) (b := 129) (q := 23) dX12_swap_20 rfl cl_12 (by decide) tw_1141 rfl rfl rfl ?_
  refine x_iload_n (q := 24) dX12_swap_23 rfl rfl ?_
  refine x_iload_n (q := 25) dX12_swap_24 rfl rfl ?_
  refine q_iast (q := 26) dX12_swap_25 rfl rfl (vp_in_nI (by omega) (by decide)) (fun I3 eI3 => ?_)
  refine q_vret dX12_swap_26 rfl ?_
  rw [nI_clamp (by omega), nI_clamp (by omega)] at eI2
  rw [nI_clamp (by omega)] at eI3 ev1
  rw [eI3, eI2, ev1]
  exact ⟨rfl, rfl, rfl, rfl⟩
set_option maxRecDepth 100000 in
theorem l_xnx1 {n : Nat} (hn : n ≤ 7) {o : Nat → Nat} {X : MI} (ho : oc 83 n o X) (r : MR) (J : MJ) (post : Option Value → MI → MR → MJ → Prop) (kx : ∀ (x3 x4 x5 : Option Value), Wq MX3_nextOrder 31 [some (.ref 80), some (.int (nI n)), some (.int (nI (fi o (n - 1)) - 1)), x3, x4, x5] [] X r J post) : ∀ (f : Nat) (k : Nat) (x3 x4 x5 : Option Value) (_ : k = f) (_ : k < n ∨ k = 0) (_ : fi o k = fi o (n - 1)), Wq MX3_nextOrder 4 [some (.ref 80), some (.int (nI n)), some (.int (nI k - 1)), x3, x4, x5] [] X r J post := by
  intro f
  induction f with
  | zero =>
    intro k x3 x4 x5 hkf hkn hfi
    subst hkf
    have e0 : nI 0 - 1 = -1 := by decide
    refine x_iload_n (q := 5) dX3_nextOrder_4 rfl rfl ?_
    refine x_if_lt (t := 31) (q := 8) dX3_nextOrder_5 (by decide) rfl (fun c5 => ?_) (fun c5 => absurd c5 (fun q => q (by rw [e0]; decide)))
    rw [show fi o (n - 1) = 0 from hfi.symm] at kx
    exact kx _ _ _
  | succ f ih =>
    intro k x3 x4 x5 hkf hkn hfi
    subst hkf
    rw [nI_n1]
    refine x_iload_n (q := 5) dX3_nextOrder_4 rfl rfl ?_
    refine x_if_lt (t := 31) (q := 8) dX3_nextOrder_5 (by decide) rfl (fun c5 => absurd c5 (nI_pos (by omega))) (fun c5 => ?_)
    refine x_aload_n (q := 9) dX3_nextOrder_8 rfl rfl ?_
    refine q_gr (K := 2) (b := 83) (q := 12) dX3_nextOrder_9 rfl cl_3 (by decide) tw_488 rfl rfl rfl ?_
    refine x_iload_n (q := 13) dX3_nextOrder_12 rfl rfl ?_
    refine q_iald (q := 14) dX3_nextOrder_13 rfl rfl (by first | exact vp_in_nI (by omega) (by decide) | (rw [nI_p1]; exact vp_in_nI (by omega) (by decide))) ?_
    refine x_aload_n (q := 15) dX3_nextOrder_14 rfl rfl ?_
    refine q_gr (K := 2) (b := 83) (q := 18) dX3_nextOrder_15 rfl cl_3 (by decide) tw_488 rfl rfl rfl ?_
    refine x_iload_n (q := 19) dX3_nextOrder_18 rfl rfl ?_
    refine x_iconst (1) (q := 20) dX3_nextOrder_19 rfl (by decide) ?_
    refine x_iadd (q := 21) dX3_nextOrder_20 rfl ?_
    refine q_iald (q := 22) dX3_nextOrder_21 rfl rfl (by first | exact vp_in_nI (by omega) (by decide) | (rw [nI_p1]; exact vp_in_nI (by omega) (by decide))) ?_
    refine x_icmp_le (t := 31) (q := 25) dX3_nextOrder_22 (by decide) rfl (fun c22 => ?_) (fun c22 => ?_)
    · have e1 : fi o (f + 1) = f + 1 := by
        unfold fi
        rw [if_neg]
        intro q
        exact absurd c22 (by rw [nI_p1, nI_clamp (by omega), nI_clamp (by omega), (ho _ (show f < n by omega)).2, (ho _ (show f + 1 < n by omega)).2]; exact nI_ge q (by have := (ho f (by omega)).1; omega))
      rw [← hfi, e1, nI_n1] at kx
      exact kx _ _ _
    · obtain ⟨v1, ev1⟩ : ∃ y_ : Int32, y_ = (nI f) + (-1) := ⟨_, rfl⟩
      refine x_iinc (v := v1) (L2 := [some (.ref 80), some (.int (nI n)), some (.int v1), x3, x4, x5]) (q := 28) dX3_nextOrder_25 rfl (by decide) rfl rfl (by rw [ev1]; rfl) rfl ?_
      refine x_goto (t := 4) dX3_nextOrder_28 (by decide) ?_
      have e1 : fi o (f + 1) = fi o f := by
        unfold fi
        rw [if_pos]
        · cases f <;> rfl
        · rw [nI_p1, nI_clamp (by omega), nI_clamp (by omega), (ho _ (show f < n by omega)).2, (ho _ (show f + 1 < n by omega)).2, nI_leI (by have := (ho f (by omega)).1; omega) (by have := (ho (f + 1) (by omega)).1; omega)] at c22
          omega
      rw [show v1 = nI f - 1 by rw [ev1, i_m1]]
      exact ih f _ _ _ rfl (by omega) (by rw [← hfi, e1])
set_option maxRecDepth 100000 in
theorem l_xnx2 {n : Nat} (hn : n ≤ 7) {o : Nat → Nat} {X : MI} (ho : oc 83 n o X) (r : MR) (J : MJ) (post : Option Value → MI → MR → MJ → Prop) {i : Nat} (hi : i + 1 < n) (hup : ¬ o (i + 1) < o i) (kx : ∀ (x4 x5 : Option Value) (j : Nat), j < n → fj o (o i) (n - 1) = j → Wq MX3_nextOrder 67 [some (.ref 80), some (.int (nI n)), some (.int (nI i)), some (.int (nI j)), x4, x5] [] X r J post) : ∀ (f : Nat) (j : Nat) (x4 x5 : Option Value) (_ : j = i + 1 + f) (_ : j < n) (_ : fj o (o i) j = fj o (o i) (n - 1)), Wq MX3_nextOrder 41 [some (.ref 80), some (.int (nI n)), some (.int (nI i)), some (.int (nI j)), x4, x5] [] X r J (post) := by
  intro f
  induction f with
  | zero =>
    intro j x4 x5 hjf hjn hfj
    have hoi := (ho i (by omega)).1
    have hoj := (ho j (by omega)).1
    refine x_iload_n (q := 42) dX3_nextOrder_41 rfl rfl ?_
    refine x_iload_n (q := 43) dX3_nextOrder_42 rfl rfl ?_
    refine x_icmp_le (t := 67) (q := 46) dX3_nextOrder_43 (by decide) rfl (fun c43 => absurd c43 (fun q => absurd ((nI_leI (by omega) (by omega)).mp q) (by omega))) (fun c43 => ?_)
    refine x_aload_n (q := 47) dX3_nextOrder_46 rfl rfl ?_
    refine q_gr (K := 2) (b := 83) (q := 50) dX3_nextOrder_47 rfl cl_3 (by decide) tw_488 rfl rfl rfl ?_
    refine x_iload_n (q := 51) dX3_nextOrder_50 rfl rfl ?_
    refine q_iald (q := 52) dX3_nextOrder_51 rfl rfl (vp_in_nI (by omega) (by decide)) ?_
    refine x_aload_n (q := 53) dX3_nextOrder_52 rfl rfl ?_
    refine q_gr (K := 2) (b := 83) (q := 56) dX3_nextOrder_53 rfl cl_3 (by decide) tw_488 rfl rfl rfl ?_
    refine x_iload_n (q := 57) dX3_nextOrder_56 rfl rfl ?_
    refine q_iald (q := 58) dX3_nextOrder_57 rfl rfl (vp_in_nI (by omega) (by decide)) ?_
    refine x_icmp_ge (t := 67) (q := 61) dX3_nextOrder_58 (by decide) rfl (fun c58 => ?_) (fun c58 => absurd c58 (fun q => q (by rw [nI_clamp (by omega), nI_clamp (by omega), (ho _ (show i < n by omega)).2, (ho _ (show j < n by omega)).2, show j = i + 1 by omega]; exact nI_le (by omega) (by rw [show j = i + 1 by omega] at hoj; omega))))
    refine kx _ _ j (by omega) ?_
    rw [← hfj]
    obtain ⟨j, rfl⟩ : ∃ q, j = q + 1 := ⟨j - 1, by omega⟩
    unfold fj
    rw [if_neg]
    intro q
    exact absurd c58 (by rw [nI_clamp (by omega), nI_clamp (by omega), (ho _ (show i < n by omega)).2, (ho _ (show j + 1 < n by omega)).2]; exact nI_ge q (by omega))
  | succ f ih =>
    intro j x4 x5 hjf hjn hfj
    have hoi := (ho i (by omega)).1
    have hoj := (ho j (by omega)).1
    refine x_iload_n (q := 42) dX3_nextOrder_41 rfl rfl ?_
    refine x_iload_n (q := 43) dX3_nextOrder_42 rfl rfl ?_
    refine x_icmp_le (t := 67) (q := 46) dX3_nextOrder_43 (by decide) rfl (fun c43 => absurd c43 (fun q => absurd ((nI_leI (by omega) (by omega)).mp q) (by omega))) (fun c43 => ?_)
    refine x_aload_n (q := 47) dX3_nextOrder_46 rfl rfl ?_
    refine q_gr (K := 2) (b := 83) (q := 50) dX3_nextOrder_47 rfl cl_3 (by decide) tw_488 rfl rfl rfl ?_
    refine x_iload_n (q := 51) dX3_nextOrder_50 rfl rfl ?_
    refine q_iald (q := 52) dX3_nextOrder_51 rfl rfl (vp_in_nI (by omega) (by decide)) ?_
    refine x_aload_n (q := 53) dX3_nextOrder_52 rfl rfl ?_
    refine q_gr (K := 2) (b := 83) (q := 56) dX3_nextOrder_53 rfl cl_3 (by decide) tw_488 rfl rfl rfl ?_
    refine x_iload_n (q := 57) dX3_nextOrder_56 rfl rfl ?_
    refine q_iald (q := 58) dX3_nextOrder_57 rfl rfl (vp_in_nI (by omega) (by decide)) ?_
    refine x_icmp_ge (t := 67) (q := 61) dX3_nextOrder_58 (by decide) rfl (fun c58 => ?_) (fun c58 => ?_)
    · refine kx _ _ j (by omega) ?_
      rw [← hfj]
      obtain ⟨j, rfl⟩ : ∃ q, j = q + 1 := ⟨j - 1, by omega⟩
      unfold fj
      rw [if_neg]
      intro q
      exact absurd c58 (by rw [nI_clamp (by omega), nI_clamp (by omega), (ho _ (show i < n by omega)).2, (ho _ (show j + 1 < n by omega)).2]; exact nI_ge q (by omega))
    · obtain ⟨v1, ev1⟩ : ∃ y_ : Int32, y_ = (nI j) + (-1) := ⟨_, rfl⟩
      refine x_iinc (v := v1) (L2 := [some (.ref 80), some (.int (nI n)), some (.int (nI i)), some (.int v1), x4, x5]) (q := 64) dX3_nextOrder_61 rfl (by decide) rfl rfl (by rw [ev1]; rfl) rfl ?_
      refine x_goto (t := 41) dX3_nextOrder_64 (by decide) ?_
      obtain ⟨j, rfl⟩ : ∃ q, j = q + 1 := ⟨j - 1, by omega⟩
      rw [show v1 = nI j by rw [ev1, i_m1]; exact nI_n1 j]
      refine ih j _ _ (by omega) (by omega) ?_
      rw [← hfj]
      conv => rhs; unfold fj
      rw [if_pos]
      rw [nI_clamp (by omega), nI_clamp (by omega), (ho _ (show i < n by omega)).2, (ho _ (show j + 1 < n by omega)).2, nI_leI (by omega) (by omega)] at c58
      omega
set_option maxRecDepth 100000 in
theorem l_xnx3 {n : Nat} (hn : n ≤ 7) {g : Nat → Nat} {I : MI} (r : MR) (J : MJ) : ∀ (f : Nat) (X : MI) (o : Nat → Nat) (w2 w3 : Int32) (lo hi : Nat) (_ : lo ≤ n) (_ : hi ≤ lo + 2 * f) (_ : hi < n) (_ : oc 83 n o X) (_ : ∀ c', c' ≠ 83 → X c' = I c') (_ : rvv f o lo hi = g), Wq MX3_nextOrder 83 [some (.ref 80), some (.int (nI n)), some (.int w2), some (.int w3), some (.int (nI lo)), some (.int (nI hi))] [] X r J (Rp (some (.int 1)) (fun Y => (∀ c', c' ≠ 83 → Y c' = I c') ∧ oc 83 n g Y) r J) := by
  intro f
  induction f with
  | zero =>
    intro X o w2 w3 lo hi hln hlh hhn hX hK hg
    refine x_iload (q := 85) dX3_nextOrder_83 rfl rfl ?_
    refine x_iload (q := 87) dX3_nextOrder_85 rfl rfl ?_
    refine x_icmp_ge (t := 107) (q := 90) dX3_nextOrder_87 (by decide) rfl (fun c87 => ?_) (fun c87 => absurd c87 (fun q => q (nI_le (by omega) (by omega))))
    refine x_iconst (1) (q := 108) dX3_nextOrder_107 rfl (by decide) ?_
    refine q_zret dX3_nextOrder_108 rfl (Or.inr rfl) ?_
    refine ⟨rfl, ⟨hK, ?_⟩, rfl, rfl⟩
    rw [← hg]
    exact hX
  | succ f ih =>
    intro X o w2 w3 lo hi hln hlh hhn hX hK hg
    refine x_iload (q := 85) dX3_nextOrder_83 rfl rfl ?_
    refine x_iload (q := 87) dX3_nextOrder_85 rfl rfl ?_
    refine x_icmp_ge (t := 107) (q := 90) dX3_nextOrder_87 (by decide) rfl (fun c87 => ?_) (fun c87 => ?_)
    · refine x_iconst (1) (q := 108) dX3_nextOrder_107 rfl (by decide) ?_
      refine q_zret dX3_nextOrder_108 rfl (Or.inr rfl) ?_
      rw [nI_leI (by omega) (by omega)] at c87
      refine ⟨rfl, ⟨hK, ?_⟩, rfl, rfl⟩
      rw [← hg]
      unfold rvv
      rw [if_neg (by omega)]
      exact hX
    · refine x_aload_n (q := 91) dX3_nextOrder_90 rfl rfl ?_
      refine x_iload (q := 93) dX3_nextOrder_91 rfl rfl ?_
      refine x_iload (q := 95) dX3_nextOrder_93 rfl rfl ?_
      refine q_callV (ci := 3) (N := 7) (T := TX3) (As := [.int (nI lo), .int (nI hi)]) (rest := []) (q := 98) dX3_nextOrder_95 rfl okX3_swap tw_964 rfl rfl (c_xsw (i := lo) (j := hi) (by rw [nI_leI (by omega) (by omega)] at c87; omega) (by omega) X r J) rfl rfl (Nat.le_of_ble_eq_true rfl) ⟨by decide, by decide⟩ ⟨rfl, rfl⟩ (fun rv_ I_ r_ J_ hv_ => ?_)
      obtain ⟨a1_, a2_, a3_, a4_⟩ := hv_
      rw [a1_, a2_, a3_, a4_]
      show Wq MX3_nextOrder 98 [some (.ref 80), some (.int (nI n)), some (.int w2), some (.int w3), some (.int (nI lo)), some (.int (nI hi))] [] (upI (upI X 83 lo (X 83 hi)) 83 hi (X 83 lo)) r J _
      obtain ⟨v1, ev1⟩ : ∃ y_ : Int32, y_ = (nI lo) + 1 := ⟨_, rfl⟩
      refine x_iinc (v := v1) (L2 := [some (.ref 80), some (.int (nI n)), some (.int w2), some (.int w3), some (.int v1), some (.int (nI hi))]) (q := 101) dX3_nextOrder_98 rfl (by decide) rfl rfl (by rw [ev1]; rfl) rfl ?_
      obtain ⟨v2, ev2⟩ : ∃ y_ : Int32, y_ = (nI hi) + (-1) := ⟨_, rfl⟩
      refine x_iinc (v := v2) (L2 := [some (.ref 80), some (.int (nI n)), some (.int w2), some (.int w3), some (.int v1), some (.int v2)]) (q := 104) dX3_nextOrder_101 rfl (by decide) rfl rfl (by rw [ev2]; rfl) rfl ?_
      refine x_goto (t := 83) dX3_nextOrder_104 (by decide) ?_
      rw [nI_leI (by omega) (by omega)] at c87
      rw [show v1 = nI (lo + 1) by rw [ev1, nI_p1]]
      rw [show v2 = nI (hi - 1) by rw [ev2, i_m1]; exact nI_m1 (by omega)]
      refine ih _ _ _ _ (lo + 1) (hi - 1) (by omega) (by omega) (by omega) (oc_sw hX (by omega) (by omega)) (fun c' q => by rw [upc q, upc q]; exact hK c' q) ?_
      rw [← hg]
      conv => rhs; unfold rvv
      rw [if_pos (by omega)]
set_option maxRecDepth 100000 in
theorem c_xnx {n : Nat} (hn : n ≤ 7) {o : Nat → Nat} {X : MI} (ho : oc 83 n o X) (r : MR) (J : MJ) : Cq yX3_nextOrder MX3_nextOrder [.ref 80, .int (nI n)] X r J (Rp (some (.int (nxV n o))) (nxP 83 n o X) r J) := by
  refine cq_of [some (.ref 80), some (.int (nI n)), none, none, none, none] 4 (by decide +kernel) rfl rfl (Nat.le_of_ble_eq_true rfl) rfl ?_
  refine x_iload_n (q := 1) dX3_nextOrder_0 rfl rfl ?_
  refine x_iconst (2) (q := 2) dX3_nextOrder_1 rfl (by decide) ?_
  refine x_isub (q := 3) dX3_nextOrder_2 rfl ?_
  refine x_nmi (fun v1 ev1 => ?_)
  refine x_istore_n (L2 := [some (.ref 80), some (.int (nI n)), some (.int v1), none, none, none]) (q := 4) dX3_nextOrder_3 rfl (by decide) rfl rfl ?_
  have key : ∀ (x3 x4 x5 : Option Value), Wq MX3_nextOrder 31 [some (.ref 80), some (.int (nI n)), some (.int (nI (fi o (n - 1)) - 1)), x3, x4, x5] [] X r J (Rp (some (.int (nxV n o))) (nxP 83 n o X) r J) := by
    intro x3 x4 x5
    rcases Nat.eq_zero_or_pos (fi o (n - 1)) with q0 | q0
    · have ev : nxV n o = 0 := by unfold nxV; rw [nx_0 q0]; rfl
      have eo : nxO n o = o := by unfold nxO; rw [nx_0 q0]; rfl
      rw [q0, show nI 0 - 1 = (-1 : Int32) from by decide]
      refine x_iload_n (q := 32) dX3_nextOrder_31 rfl rfl ?_
      refine x_if_ge (t := 37) (q := 35) dX3_nextOrder_32 (by decide) rfl (fun c32 => absurd c32 ((by decide))) (fun c32 => ?_)
      refine x_iconst (0) (q := 36) dX3_nextOrder_35 rfl (by decide) ?_
      refine q_zret dX3_nextOrder_36 rfl (Or.inl rfl) ?_
      rw [ev]
      exact ⟨rfl, ⟨fun _ _ => rfl, by rw [eo]; exact ho⟩, rfl, rfl⟩
    · obtain ⟨i, hi⟩ : ∃ i, fi o (n - 1) = i + 1 := ⟨fi o (n - 1) - 1, by omega⟩
      have hle := fi_le o (n - 1)
      have hup := fi_up o _ i hi
      have ev : nxV n o = 1 := by unfold nxV; rw [nx_1 hi]; rfl
      have eo : nxO n o = rvv 8 (sw o i (fj o (o i) (n - 1))) (i + 1) (n - 1) := by unfold nxO; rw [nx_1 hi]; rfl
      rw [hi, nI_n1]
      refine x_iload_n (q := 32) dX3_nextOrder_31 rfl rfl ?_
      refine x_if_ge (t := 37) (q := 35) dX3_nextOrder_32 (by decide) rfl (fun c32 => ?_) (fun c32 => absurd c32 (fun q => q (nI_pos' (by omega))))
      refine x_iload_n (q := 38) dX3_nextOrder_37 rfl rfl ?_
      refine x_iconst (1) (q := 39) dX3_nextOrder_38 rfl (by decide) ?_
      refine x_isub (q := 40) dX3_nextOrder_39 rfl ?_
      refine x_nmi (fun v21 ev21 => ?_)
      refine x_istore_n (L2 := [some (.ref 80), some (.int (nI n)), some (.int (nI i)), some (.int v21), x4, x5]) (q := 41) dX3_nextOrder_40 rfl (by decide) rfl rfl ?_
      rw [show v21 = nI (n - 1) by rw [ev21]; exact nI_m1 (by omega)]
      refine l_xnx2 hn ho r J _ (i := i) (by omega) hup (fun y4 y5 j hj hjv => ?_) (n - 1 - (i + 1)) (n - 1) _ _ (by omega) (by omega) rfl
      refine x_aload_n (q := 68) dX3_nextOrder_67 rfl rfl ?_
      refine x_iload_n (q := 69) dX3_nextOrder_68 rfl rfl ?_
      refine x_iload_n (q := 70) dX3_nextOrder_69 rfl rfl ?_
      refine q_callV (ci := 3) (N := 7) (T := TX3) (As := [.int (nI i), .int (nI j)]) (rest := []) (q := 73) dX3_nextOrder_70 rfl okX3_swap tw_964 rfl rfl (c_xsw (by omega) (by omega) X r J) rfl rfl (Nat.le_of_ble_eq_true rfl) ⟨by decide, by decide⟩ ⟨rfl, rfl⟩ (fun rv_ I_ r_ J_ hv_ => ?_)
      obtain ⟨a1_, a2_, a3_, a4_⟩ := hv_
      rw [a1_, a2_, a3_, a4_]
      show Wq MX3_nextOrder 73 [some (.ref 80), some (.int (nI n)), some (.int (nI i)), some (.int (nI j)), y4, y5] [] (upI (upI X 83 i (X 83 j)) 83 j (X 83 i)) r J _
      refine x_iload_n (q := 74) dX3_nextOrder_73 rfl rfl ?_
      refine x_iconst (1) (q := 75) dX3_nextOrder_74 rfl (by decide) ?_
      refine x_iadd (q := 76) dX3_nextOrder_75 rfl ?_
      refine x_nmi (fun v41 ev41 => ?_)
      refine x_istore (L2 := [some (.ref 80), some (.int (nI n)), some (.int (nI i)), some (.int (nI j)), some (.int v41), y5]) (q := 78) dX3_nextOrder_76 rfl (by decide) rfl rfl ?_
      refine x_iload_n (q := 79) dX3_nextOrder_78 rfl rfl ?_
      refine x_iconst (1) (q := 80) dX3_nextOrder_79 rfl (by decide) ?_
      refine x_isub (q := 81) dX3_nextOrder_80 rfl ?_
      refine x_nmi (fun v42 ev42 => ?_)
      refine x_istore (L2 := [some (.ref 80), some (.int (nI n)), some (.int (nI i)), some (.int (nI j)), some (.int v41), some (.int v42)]) (q := 83) dX3_nextOrder_81 rfl (by decide) rfl rfl ?_
      rw [show v41 = nI (i + 1) by rw [ev41, nI_p1]]
      rw [show v42 = nI (n - 1) by rw [ev42]; exact nI_m1 (by omega)]
      rw [ev]
      refine l_xnx3 (g := nxO n o) hn r J 8 _ (sw o i j) _ _ (i + 1) (n - 1) (by omega) (by omega) (by omega) (oc_sw ho (by omega) hj) (fun c' q => by rw [upc q, upc q]) ?_
      rw [eo, hjv]
  rcases Nat.eq_zero_or_pos n with z | z
  · rw [show v1 = -2 by rw [ev1, z]; decide]
    refine x_iload_n (q := 5) dX3_nextOrder_4 rfl rfl ?_
    refine x_if_lt (t := 31) (q := 8) dX3_nextOrder_5 (by decide) rfl (fun c5 => ?_) (fun c5 => absurd c5 ((by decide)))
    have ev : nxV n o = 0 := by unfold nxV; rw [z]; rfl
    have eo : nxO n o = o := by unfold nxO; rw [z]; rfl
    refine x_iload_n (q := 32) dX3_nextOrder_31 rfl rfl ?_
    refine x_if_ge (t := 37) (q := 35) dX3_nextOrder_32 (by decide) rfl (fun c32 => absurd c32 ((by decide))) (fun c32 => ?_)
    refine x_iconst (0) (q := 36) dX3_nextOrder_35 rfl (by decide) ?_
    refine q_zret dX3_nextOrder_36 rfl (Or.inl rfl) ?_
    rw [ev]
    exact ⟨rfl, ⟨fun _ _ => rfl, by rw [eo]; exact ho⟩, rfl, rfl⟩
  · rw [show v1 = nI (n - 1) - 1 by rw [ev1, ← nI_m1 (by omega), Int32.sub_sub]; rfl]
    exact l_xnx1 hn ho r J _ key (n - 1) (n - 1) none none none rfl (by omega) rfl
set_option maxRecDepth 100000 in
theorem l_mnx1 {n : Nat} (hn : n ≤ 7) {o : Nat → Nat} {X : MI} (ho : oc 129 n o X) (r : MR) (J : MJ) (post : Option Value → MI → MR → MJ → Prop) (kx : ∀ (x3 x4 x5 : Option Value), Wq MX12_nextOrder 31 [some (.ref 100), some (.int (nI n)), some (.int (nI (fi o (n - 1)) - 1)), x3, x4, x5] [] X r J post) : ∀ (f : Nat) (k : Nat) (x3 x4 x5 : Option Value) (_ : k = f) (_ : k < n ∨ k = 0) (_ : fi o k = fi o (n - 1)), Wq MX12_nextOrder 4 [some (.ref 100), some (.int (nI n)), some (.int (nI k - 1)), x3, x4, x5] [] X r J post := by
  intro f
  induction f with
  | zero =>
    intro k x3 x4 x5 hkf hkn hfi
    subst hkf
    have e0 : nI 0 - 1 = -1 := by decide
    refine x_iload_n (q := 5) dX12_nextOrder_4 rfl rfl ?_
    refine x_if_lt (t := 31) (q := 8) dX12_nextOrder_5 (by decide) rfl (fun c5 => ?_) (fun c5 => absurd c5 (fun q => q (by rw [e0]; decide)))
    rw [show fi o (n - 1) = 0 from hfi.symm] at kx
    exact kx _ _ _
  | succ f ih =>
    intro k x3 x4 x5 hkf hkn hfi
    subst hkf
    rw [nI_n1]
    refine x_iload_n (q := 5) dX12_nextOrder_4 rfl rfl ?_
    refine x_if_lt (t := 31) (q := 8) dX12_nextOrder_5 (by decide) rfl (fun c5 => absurd c5 (nI_pos (by omega))) (fun c5 => ?_)
    refine x_aload_n (q := 9) dX12_nextOrder_8 rfl rfl ?_
    refine q_gr (K := 59) (b := 129) (q := 12) dX12_nextOrder_9 rfl cl_12 (by decide) tw_1141 rfl rfl rfl ?_
    refine x_iload_n (q := 13) dX12_nextOrder_12 rfl rfl ?_
    refine q_iald (q := 14) dX12_nextOrder_13 rfl rfl (by first | exact vp_in_nI (by omega) (by decide) | (rw [nI_p1]; exact vp_in_nI (by omega) (by decide))) ?_
    refine x_aload_n (q := 15) dX12_nextOrder_14 rfl rfl ?_
    refine q_gr (K := 59) (b := 129) (q := 18) dX12_nextOrder_15 rfl cl_12 (by decide) tw_1141 rfl rfl rfl ?_
    refine x_iload_n (q := 19) dX12_nextOrder_18 rfl rfl ?_
    refine x_iconst (1) (q := 20) dX12_nextOrder_19 rfl (by decide) ?_
    refine x_iadd (q := 21) dX12_nextOrder_20 rfl ?_
    refine q_iald (q := 22) dX12_nextOrder_21 rfl rfl (by first | exact vp_in_nI (by omega) (by decide) | (rw [nI_p1]; exact vp_in_nI (by omega) (by decide))) ?_
    refine x_icmp_le (t := 31) (q := 25) dX12_nextOrder_22 (by decide) rfl (fun c22 => ?_) (fun c22 => ?_)
    · have e1 : fi o (f + 1) = f + 1 := by
        unfold fi
        rw [if_neg]
        intro q
        exact absurd c22 (by rw [nI_p1, nI_clamp (by omega), nI_clamp (by omega), (ho _ (show f < n by omega)).2, (ho _ (show f + 1 < n by omega)).2]; exact nI_ge q (by have := (ho f (by omega)).1; omega))
      rw [← hfi, e1, nI_n1] at kx
      exact kx _ _ _
    · obtain ⟨v1, ev1⟩ : ∃ y_ : Int32, y_ = (nI f) + (-1) := ⟨_, rfl⟩
      refine x_iinc (v := v1) (L2 := [some (.ref 100), some (.int (nI n)), some (.int v1), x3, x4, x5]) (q := 28) dX12_nextOrder_25 rfl (by decide) rfl rfl (by rw [ev1]; rfl) rfl ?_
      refine x_goto (t := 4) dX12_nextOrder_28 (by decide) ?_
      have e1 : fi o (f + 1) = fi o f := by
        unfold fi
        rw [if_pos]
        · cases f <;> rfl
        · rw [nI_p1, nI_clamp (by omega), nI_clamp (by omega), (ho _ (show f < n by omega)).2, (ho _ (show f + 1 < n by omega)).2, nI_leI (by have := (ho f (by omega)).1; omega) (by have := (ho (f + 1) (by omega)).1; omega)] at c22
          omega
      rw [show v1 = nI f - 1 by rw [ev1, i_m1]]
      exact ih f _ _ _ rfl (by omega) (by rw [← hfi, e1])
set_option maxRecDepth 100000 in
theorem l_mnx2 {n : Nat} (hn : n ≤ 7) {o : Nat → Nat} {X : MI} (ho : oc 129 n o X) (r : MR) (J : MJ) (post : Option Value → MI → MR → MJ → Prop) {i : Nat} (hi : i + 1 < n) (hup : ¬ o (i + 1) < o i) (kx : ∀ (x4 x5 : Option Value) (j : Nat), j < n → fj o (o i) (n - 1) = j → Wq MX12_nextOrder 62 [some (.ref 100), some (.int (nI n)), some (.int (nI i)), some (.int (nI j)), x4, x5] [] X r J post) : ∀ (f : Nat) (j : Nat) (x4 x5 : Option Value) (_ : j = i + 1 + f) (_ : j < n) (_ : fj o (o i) j = fj o (o i) (n - 1)), Wq MX12_nextOrder 41 [some (.ref 100), some (.int (nI n)), some (.int (nI i)), some (.int (nI j)), x4, x5] [] X r J (post) := by
  intro f
  induction f with
  | zero =>
    intro j x4 x5 hjf hjn hfj
    have hoi := (ho i (by omega)).1
    have hoj := (ho j (by omega)).1
    refine x_aload_n (q := 42) dX12_nextOrder_41 rfl rfl ?_
    refine q_gr (K := 59) (b := 129) (q := 45) dX12_nextOrder_42 rfl cl_12 (by decide) tw_1141 rfl rfl rfl ?_
    refine x_iload_n (q := 46) dX12_nextOrder_45 rfl rfl ?_
    refine q_iald (q := 47) dX12_nextOrder_46 rfl rfl (vp_in_nI (by omega) (by decide)) ?_
    refine x_aload_n (q := 48) dX12_nextOrder_47 rfl rfl ?_
    refine q_gr (K := 59) (b := 129) (q := 51) dX12_nextOrder_48 rfl cl_12 (by decide) tw_1141 rfl rfl rfl ?_
    refine x_iload_n (q := 52) dX12_nextOrder_51 rfl rfl ?_
    refine q_iald (q := 53) dX12_nextOrder_52 rfl rfl (vp_in_nI (by omega) (by decide)) ?_
    refine x_icmp_ge (t := 62) (q := 56) dX12_nextOrder_53 (by decide) rfl (fun c53 => ?_) (fun c53 => absurd c53 (fun q => q (by rw [nI_clamp (by omega), nI_clamp (by omega), (ho _ (show i < n by omega)).2, (ho _ (show j < n by omega)).2, show j = i + 1 by omega]; exact nI_le (by omega) (by rw [show j = i + 1 by omega] at hoj; omega))))
    refine kx _ _ j (by omega) ?_
    rw [← hfj]
    obtain ⟨j, rfl⟩ : ∃ q, j = q + 1 := ⟨j - 1, by omega⟩
    unfold fj
    rw [if_neg]
    intro q
    exact absurd c53 (by rw [nI_clamp (by omega), nI_clamp (by omega), (ho _ (show i < n by omega)).2, (ho _ (show j + 1 < n by omega)).2]; exact nI_ge q (by omega))
  | succ f ih =>
    intro j x4 x5 hjf hjn hfj
    have hoi := (ho i (by omega)).1
    have hoj := (ho j (by omega)).1
    refine x_aload_n (q := 42) dX12_nextOrder_41 rfl rfl ?_
    refine q_gr (K := 59) (b := 129) (q := 45) dX12_nextOrder_42 rfl cl_12 (by decide) tw_1141 rfl rfl rfl ?_
    refine x_iload_n (q := 46) dX12_nextOrder_45 rfl rfl ?_
    refine q_iald (q := 47) dX12_nextOrder_46 rfl rfl (vp_in_nI (by omega) (by decide)) ?_
    refine x_aload_n (q := 48) dX12_nextOrder_47 rfl rfl ?_
    refine q_gr (K := 59) (b := 129) (q := 51) dX12_nextOrder_48 rfl cl_12 (by decide) tw_1141 rfl rfl rfl ?_
    refine x_iload_n (q := 52) dX12_nextOrder_51 rfl rfl ?_
    refine q_iald (q := 53) dX12_nextOrder_52 rfl rfl (vp_in_nI (by omega) (by decide)) ?_
    refine x_icmp_ge (t := 62) (q := 56) dX12_nextOrder_53 (by decide) rfl (fun c53 => ?_) (fun c53 => ?_)
    · refine kx _ _ j (by omega) ?_
      rw [← hfj]
      obtain ⟨j, rfl⟩ : ∃ q, j = q + 1 := ⟨j - 1, by omega⟩
      unfold fj
      rw [if_neg]
      intro q
      exact absurd c53 (by rw [nI_clamp (by omega), nI_clamp (by omega), (ho _ (show i < n by omega)).2, (ho _ (show j + 1 < n by omega)).2]; exact nI_ge q (by omega))
    · obtain ⟨v1, ev1⟩ : ∃ y_ : Int32, y_ = (nI j) + (-1) := ⟨_, rfl⟩
      refine x_iinc (v := v1) (L2 := [some (.ref 100), some (.int (nI n)), some (.int (nI i)), some (.int v1), x4, x5]) (q := 59) dX12_nextOrder_56 rfl (by decide) rfl rfl (by rw [ev1]; rfl) rfl ?_
      refine x_goto (t := 41) dX12_nextOrder_59 (by decide) ?_
      obtain ⟨j, rfl⟩ : ∃ q, j = q + 1 := ⟨j - 1, by omega⟩
      rw [show v1 = nI j by rw [ev1, i_m1]; exact nI_n1 j]
      refine ih j _ _ (by omega) (by omega) ?_
      rw [← hfj]
      conv => rhs; unfold fj
      rw [if_pos]
      rw [nI_clamp (by omega), nI_clamp (by omega), (ho _ (show i < n by omega)).2, (ho _ (show j + 1 < n by omega)).2, nI_leI (by omega) (by omega)] at c53
      omega
set_option maxRecDepth 100000 in
theorem l_mnx3 {n : Nat} (hn : n ≤ 7) {g : Nat → Nat} {I : MI} (r : MR) (J : MJ) : ∀ (f : Nat) (X : MI) (o : Nat → Nat) (w2 w3 : Int32) (lo hi : Nat) (_ : lo ≤ n) (_ : hi ≤ lo + 2 * f) (_ : hi < n) (_ : oc 129 n o X) (_ : ∀ c', c' ≠ 129 → X c' = I c') (_ : rvv f o lo hi = g), Wq MX12_nextOrder 78 [some (.ref 100), some (.int (nI n)), some (.int w2), some (.int w3), some (.int (nI lo)), some (.int (nI hi))] [] X r J (Rp (some (.int 1)) (fun Y => (∀ c', c' ≠ 129 → Y c' = I c') ∧ oc 129 n g Y) r J) := by
  intro f
  induction f with
  | zero =>
    intro X o w2 w3 lo hi hln hlh hhn hX hK hg
    refine x_iload (q := 80) dX12_nextOrder_78 rfl rfl ?_
    refine x_iload (q := 82) dX12_nextOrder_80 rfl rfl ?_
    refine x_icmp_ge (t := 102) (q := 85) dX12_nextOrder_82 (by decide) rfl (fun c82 => ?_) (fun c82 => absurd c82 (fun q => q (nI_le (by omega) (by omega))))
    refine x_iconst (1) (q := 103) dX12_nextOrder_102 rfl (by decide) ?_
    refine q_zret dX12_nextOrder_103 rfl (Or.inr rfl) ?_
    refine ⟨rfl, ⟨hK, ?_⟩, rfl, rfl⟩
    rw [← hg]
    exact hX
  | succ f ih =>
    intro X o w2 w3 lo hi hln hlh hhn hX hK hg
    refine x_iload (q := 80) dX12_nextOrder_78 rfl rfl ?_
    refine x_iload (q := 82) dX12_nextOrder_80 rfl rfl ?_
    refine x_icmp_ge (t := 102) (q := 85) dX12_nextOrder_82 (by decide) rfl (fun c82 => ?_) (fun c82 => ?_)
    · refine x_iconst (1) (q := 103) dX12_nextOrder_102 rfl (by decide) ?_
      refine q_zret dX12_nextOrder_103 rfl (Or.inr rfl) ?_
      rw [nI_leI (by omega) (by omega)] at c82
      refine ⟨rfl, ⟨hK, ?_⟩, rfl, rfl⟩
      rw [← hg]
      unfold rvv
      rw [if_neg (by omega)]
      exact hX
    · refine x_aload_n (q := 86) dX12_nextOrder_85 rfl rfl ?_
      refine x_iload (q := 88) dX12_nextOrder_86 rfl rfl ?_
      refine x_iload (q := 90) dX12_nextOrder_88 rfl rfl ?_
      refine q_callV (ci := 12) (N := 79) (T := TX12) (As := [.int (nI lo), .int (nI hi)]) (rest := []) (q := 93) dX12_nextOrder_90 rfl okX12_swap tw_1596 rfl rfl (c_msw (i := lo) (j := hi) (by rw [nI_leI (by omega) (by omega)] at c82; omega) (by omega) X r J) rfl rfl (Nat.le_of_ble_eq_true rfl) ⟨by decide, by decide⟩ ⟨rfl, rfl⟩ (fun rv_ I_ r_ J_ hv_ => ?_)
      obtain ⟨a1_, a2_, a3_, a4_⟩ := hv_
      rw [a1_, a2_, a3_, a4_]
      show Wq MX12_nextOrder 93 [some (.ref 100), some (.int (nI n)), some (.int w2), some (.int w3), some (.int (nI lo)), some (.int (nI hi))] [] (upI (upI X 129 lo (X 129 hi)) 129 hi (X 129 lo)) r J _
      obtain ⟨v1, ev1⟩ : ∃ y_ : Int32, y_ = (nI lo) + 1 := ⟨_, rfl⟩
      refine x_iinc (v := v1) (L2 := [some (.ref 100), some (.int (nI n)), some (.int w2), some (.int w3), some (.int v1), some (.int (nI hi))]) (q := 96) dX12_nextOrder_93 rfl (by decide) rfl rfl (by rw [ev1]; rfl) rfl ?_
      obtain ⟨v2, ev2⟩ : ∃ y_ : Int32, y_ = (nI hi) + (-1) := ⟨_, rfl⟩
      refine x_iinc (v := v2) (L2 := [some (.ref 100), some (.int (nI n)), some (.int w2), some (.int w3), some (.int v1), some (.int v2)]) (q := 99) dX12_nextOrder_96 rfl (by decide) rfl rfl (by rw [ev2]; rfl) rfl ?_
      refine x_goto (t := 78) dX12_nextOrder_99 (by decide) ?_
      rw [nI_leI (by omega) (by omega)] at c82
      rw [show v1 = nI (lo + 1) by rw [ev1, nI_p1]]
      rw [show v2 = nI (hi - 1) by rw [ev2, i_m1]; exact nI_m1 (by omega)]
      refine ih _ _ _ _ (lo + 1) (hi - 1) (by omega) (by omega) (by omega) (oc_sw hX (by omega) (by omega)) (fun c' q => by rw [upc q, upc q]; exact hK c' q) ?_
      rw [← hg]
      conv => rhs; unfold rvv
      rw [if_pos (by omega)]
set_option maxRecDepth 100000 in
theorem c_mnx {n : Nat} (hn : n ≤ 7) {o : Nat → Nat} {X : MI} (ho : oc 129 n o X) (r : MR) (J : MJ) : Cq yX12_nextOrder MX12_nextOrder [.ref 100, .int (nI n)] X r J (Rp (some (.int (nxV n o))) (nxP 129 n o X) r J) := by
  refine cq_of [some (.ref 100), some (.int (nI n)), none, none, none, none] 4 (by decide +kernel) rfl rfl (Nat.le_of_ble_eq_true rfl) rfl ?_
  refine x_iload_n (q := 1) dX12_nextOrder_0 rfl rfl ?_
  refine x_iconst (2) (q := 2) dX12_nextOrder_1 rfl (by decide) ?_
  refine x_isub (q := 3) dX12_nextOrder_2 rfl ?_
  refine x_nmi (fun v1 ev1 => ?_)
  refine x_istore_n (L2 := [some (.ref 100), some (.int (nI n)), some (.int v1), none, none, none]) (q := 4) dX12_nextOrder_3 rfl (by decide) rfl rfl ?_
  have key : ∀ (x3 x4 x5 : Option Value), Wq MX12_nextOrder 31 [some (.ref 100), some (.int (nI n)), some (.int (nI (fi o (n - 1)) - 1)), x3, x4, x5] [] X r J (Rp (some (.int (nxV n o))) (nxP 129 n o X) r J) := by
    intro x3 x4 x5
    rcases Nat.eq_zero_or_pos (fi o (n - 1)) with q0 | q0
    · have ev : nxV n o = 0 := by unfold nxV; rw [nx_0 q0]; rfl
      have eo : nxO n o = o := by unfold nxO; rw [nx_0 q0]; rfl
      rw [q0, show nI 0 - 1 = (-1 : Int32) from by decide]
      refine x_iload_n (q := 32) dX12_nextOrder_31 rfl rfl ?_
      refine x_if_ge (t := 37) (q := 35) dX12_nextOrder_32 (by decide) rfl (fun c32 => absurd c32 ((by decide))) (fun c32 => ?_)
      refine x_iconst (0) (q := 36) dX12_nextOrder_35 rfl (by decide) ?_
      refine q_zret dX12_nextOrder_36 rfl (Or.inl rfl) ?_
      rw [ev]
      exact ⟨rfl, ⟨fun _ _ => rfl, by rw [eo]; exact ho⟩, rfl, rfl⟩
    · obtain ⟨i, hi⟩ : ∃ i, fi o (n - 1) = i + 1 := ⟨fi o (n - 1) - 1, by omega⟩
      have hle := fi_le o (n - 1)
      have hup := fi_up o _ i hi
      have ev : nxV n o = 1 := by unfold nxV; rw [nx_1 hi]; rfl
      have eo : nxO n o = rvv 8 (sw o i (fj o (o i) (n - 1))) (i + 1) (n - 1) := by unfold nxO; rw [nx_1 hi]; rfl
      rw [hi, nI_n1]
      refine x_iload_n (q := 32) dX12_nextOrder_31 rfl rfl ?_
      refine x_if_ge (t := 37) (q := 35) dX12_nextOrder_32 (by decide) rfl (fun c32 => ?_) (fun c32 => absurd c32 (fun q => q (nI_pos' (by omega))))
      refine x_iload_n (q := 38) dX12_nextOrder_37 rfl rfl ?_
      refine x_iconst (1) (q := 39) dX12_nextOrder_38 rfl (by decide) ?_
      refine x_isub (q := 40) dX12_nextOrder_39 rfl ?_
      refine x_nmi (fun v21 ev21 => ?_)
      refine x_istore_n (L2 := [some (.ref 100), some (.int (nI n)), some (.int (nI i)), some (.int v21), x4, x5]) (q := 41) dX12_nextOrder_40 rfl (by decide) rfl rfl ?_
      rw [show v21 = nI (n - 1) by rw [ev21]; exact nI_m1 (by omega)]
      refine l_mnx2 hn ho r J _ (i := i) (by omega) hup (fun y4 y5 j hj hjv => ?_) (n - 1 - (i + 1)) (n - 1) _ _ (by omega) (by omega) rfl
      refine x_aload_n (q := 63) dX12_nextOrder_62 rfl rfl ?_
      refine x_iload_n (q := 64) dX12_nextOrder_63 rfl rfl ?_
      refine x_iload_n (q := 65) dX12_nextOrder_64 rfl rfl ?_
      refine q_callV (ci := 12) (N := 79) (T := TX12) (As := [.int (nI i), .int (nI j)]) (rest := []) (q := 68) dX12_nextOrder_65 rfl okX12_swap tw_1596 rfl rfl (c_msw (by omega) (by omega) X r J) rfl rfl (Nat.le_of_ble_eq_true rfl) ⟨by decide, by decide⟩ ⟨rfl, rfl⟩ (fun rv_ I_ r_ J_ hv_ => ?_)
      obtain ⟨a1_, a2_, a3_, a4_⟩ := hv_
      rw [a1_, a2_, a3_, a4_]
      show Wq MX12_nextOrder 68 [some (.ref 100), some (.int (nI n)), some (.int (nI i)), some (.int (nI j)), y4, y5] [] (upI (upI X 129 i (X 129 j)) 129 j (X 129 i)) r J _
      refine x_iload_n (q := 69) dX12_nextOrder_68 rfl rfl ?_
      refine x_iconst (1) (q := 70) dX12_nextOrder_69 rfl (by decide) ?_
      refine x_iadd (q := 71) dX12_nextOrder_70 rfl ?_
      refine x_nmi (fun v41 ev41 => ?_)
      refine x_istore (L2 := [some (.ref 100), some (.int (nI n)), some (.int (nI i)), some (.int (nI j)), some (.int v41), y5]) (q := 73) dX12_nextOrder_71 rfl (by decide) rfl rfl ?_
      refine x_iload_n (q := 74) dX12_nextOrder_73 rfl rfl ?_
      refine x_iconst (1) (q := 75) dX12_nextOrder_74 rfl (by decide) ?_
      refine x_isub (q := 76) dX12_nextOrder_75 rfl ?_
      refine x_nmi (fun v42 ev42 => ?_)
      refine x_istore (L2 := [some (.ref 100), some (.int (nI n)), some (.int (nI i)), some (.int (nI j)), some (.int v41), some (.int v42)]) (q := 78) dX12_nextOrder_76 rfl (by decide) rfl rfl ?_
      rw [show v41 = nI (i + 1) by rw [ev41, nI_p1]]
      rw [show v42 = nI (n - 1) by rw [ev42]; exact nI_m1 (by omega)]
      rw [ev]
      refine l_mnx3 (g := nxO n o) hn r J 8 _ (sw o i j) _ _ (i + 1) (n - 1) (by omega) (by omega) (by omega) (oc_sw ho (by omega) hj) (fun c' q => by rw [upc q, upc q]) ?_
      rw [eo, hjv]
  rcases Nat.eq_zero_or_pos n with z | z
  · rw [show v1 = -2 by rw [ev1, z]; decide]
    refine x_iload_n (q := 5) dX12_nextOrder_4 rfl rfl ?_
    refine x_if_lt (t := 31) (q := 8) dX12_nextOrder_5 (by decide) rfl (fun c5 => ?_) (fun c5 => absurd c5 ((by decide)))
    have ev : nxV n o = 0 := by unfold nxV; rw [z]; rfl
    have eo : nxO n o = o := by unfold nxO; rw [z]; rfl
    refine x_iload_n (q := 32) dX12_nextOrder_31 rfl rfl ?_
    refine x_if_ge (t := 37) (q := 35) dX12_nextOrder_32 (by decide) rfl (fun c32 => absurd c32 ((by decide))) (fun c32 => ?_)
    refine x_iconst (0) (q := 36) dX12_nextOrder_35 rfl (by decide) ?_
    refine q_zret dX12_nextOrder_36 rfl (Or.inl rfl) ?_
    rw [ev]
    exact ⟨rfl, ⟨fun _ _ => rfl, by rw [eo]; exact ho⟩, rfl, rfl⟩
  · rw [show v1 = nI (n - 1) - 1 by rw [ev1, ← nI_m1 (by omega), Int32.sub_sub]; rfl]
    exact l_mnx1 hn ho r J _ key (n - 1) (n - 1) none none none rfl (by omega) rfl
