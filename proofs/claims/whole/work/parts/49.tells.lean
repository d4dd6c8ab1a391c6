def cA (v : Nat → Int32) (N i n : Nat) : Nat := cY (fun j => N.testBit j && decide (v j = v i)) n
def mA (v : Nat → Int32) (N sn : Nat) : Nat → Nat
  | 0 => 0
  | n + 1 => if N.testBit n then (if mA v N sn n < cA v N n sn then cA v N n sn else mA v N sn n) else mA v N sn n
theorem mA_s (v : Nat → Int32) (N sn n : Nat) : mA v N sn (n + 1) = if N.testBit n then (if mA v N sn n < cA v N n sn then cA v N n sn else mA v N sn n) else mA v N sn n := rfl
theorem cA_s (v : Nat → Int32) (N i n : Nat) : cA v N i (n + 1) = cA v N i n + (if N.testBit n && decide (v n = v i) then 1 else 0) := rfl
theorem cA_le (v : Nat → Int32) (N i n : Nat) : cA v N i n ≤ n := cY_le _ n
theorem mA_le (v : Nat → Int32) (N sn : Nat) : ∀ n, mA v N sn n ≤ sn := by
  intro n
  induction n with
  | zero => exact Nat.zero_le _
  | succ n ih =>
    rw [mA_s]
    have := cA_le v N n sn
    split
    · split <;> omega
    · exact ih
theorem mx {a c : Nat} (ha : a < 100) (hc : c < 100) : (if nI a < nI c then nI c else nI a) = nI (if a < c then c else a) := by
  by_cases q : a < c
  · rw [if_pos q, if_pos ((nI_ltI (by omega) (by omega)).mpr q)]
  · rw [if_neg q, if_neg (fun z => q ((nI_ltI (by omega) (by omega)).mp z))]
theorem mA_v {v v' : Nat → Int32} {N sn : Nat} (h : ∀ k, k < sn → N.testBit k = true → v k = v' k) : ∀ n, n ≤ sn → mA v N sn n = mA v' N sn n := by
  intro n
  induction n with
  | zero => intro _; rfl
  | succ n ih =>
    intro hn
    rw [mA_s, mA_s, ih (by omega)]
    by_cases q : N.testBit n = true
    · have e : cA v N n sn = cA v' N n sn := cY_c sn (fun k hk => by
        by_cases z : N.testBit k = true
        · rw [h k hk z, h n (by omega) q]
        · have z2 : N.testBit k = false := by revert z; cases N.testBit k <;> simp
          rw [z2]
          rfl)
      rw [e]
    · rw [if_neg q, if_neg q]
theorem nIx5 (y : Nat) : nI y * (5 : Int32) = nI (5 * y) := by
  rw [Nat.mul_comm]
  exact pk_mul y 5
set_option maxRecDepth 100000 in
theorem l_ma1 {I : MI} {l sn N : Nat} {v : Nat → Int32} (hl : l < 5) (hs7 : sn ≤ 7) (hN : N < 1000) (hv : ∀ k, k < sn → N.testBit k = true → I 94 (5 * k + l) = v k) (r : MR) (J : MJ) {i mo : Nat} (hi : i < sn) (hbi : N.testBit i = true) (post : Option Value → MI → MR → MJ → Prop) (kx : ∀ (x7 x8 : Option Value), Wq MX2_mostAlike 95 [some (.ref 88), some (.int (nI l)), some (.int (nI sn)), some (.int (nI N)), some (.int (nI mo)), some (.int (nI i)), some (.int (nI (cA v N i sn))), x7, x8] [] I r J post) : ∀ (f : Nat) (j : Nat) (x8 : Option Value) (_ : j + f = sn), Wq MX2_mostAlike 18 [some (.ref 88), some (.int (nI l)), some (.int (nI sn)), some (.int (nI N)), some (.int (nI mo)), some (.int (nI i)), some (.int (nI (cA v N i j))), some (.int (nI j)), x8] [] I r J (post) := by
  intro f
  induction f with
  | zero =>
    intro j x8 hjk
    refine x_iload (q := 20) dX2_mostAlike_18 rfl rfl ?_
    refine x_iload_n (q := 21) dX2_mostAlike_20 rfl rfl ?_
    refine x_icmp_ge (t := 95) (q := 24) dX2_mostAlike_21 (by decide) rfl (fun c21 => ?_) (fun c21 => absurd c21 (fun q => q (nI_le (by omega) (by omega))))
    have e9 : j = sn := by omega
    subst e9
    exact kx _ _
  | succ f ih =>
    intro j x8 hjk
    refine x_iload (q := 20) dX2_mostAlike_18 rfl rfl ?_
    refine x_iload_n (q := 21) dX2_mostAlike_20 rfl rfl ?_
    refine x_icmp_ge (t := 95) (q := 24) dX2_mostAlike_21 (by decide) rfl (fun c21 => absurd c21 (nI_ge (by omega) (by omega))) (fun c21 => ?_)
    refine x_iload_n (q := 25) dX2_mostAlike_24 rfl rfl ?_
    refine x_iload (q := 27) dX2_mostAlike_25 rfl rfl ?_
    refine x_ishr (q := 28) dX2_mostAlike_27 rfl ?_
    refine x_iconst (1) (q := 29) dX2_mostAlike_28 rfl (by decide) ?_
    refine x_iand (q := 30) dX2_mostAlike_29 rfl ?_
    refine x_if_eq (t := 95) (q := 33) dX2_mostAlike_30 (by decide) rfl (fun c30 => absurd c30 (fun z => absurd ((bit_0 (by omega) (by omega)).mp z) (by rw [hbi]; decide))) (fun c30 => ?_)
    refine x_aload_n (q := 34) dX2_mostAlike_33 rfl rfl ?_
    refine q_gr (K := 5) (b := 94) (q := 37) dX2_mostAlike_34 rfl cl_2 (by decide) tw_539 rfl rfl rfl ?_
    refine x_iload (q := 39) dX2_mostAlike_37 rfl rfl ?_
    refine x_iconst (5) (q := 40) dX2_mostAlike_39 rfl (by decide) ?_
    refine x_imul (q := 41) dX2_mostAlike_40 rfl ?_
    refine x_iload_n (q := 42) dX2_mostAlike_41 rfl rfl ?_
    refine x_iadd (q := 43) dX2_mostAlike_42 rfl ?_
    refine q_iald (q := 44) dX2_mostAlike_43 rfl rfl (by rw [nIx5, nI_add]; exact vp_in_nI (by omega) (by decide)) ?_
    refine x_aload_n (q := 45) dX2_mostAlike_44 rfl rfl ?_
    refine q_gr (K := 5) (b := 94) (q := 48) dX2_mostAlike_45 rfl cl_2 (by decide) tw_539 rfl rfl rfl ?_
    refine x_iload (q := 50) dX2_mostAlike_48 rfl rfl ?_
    refine x_iconst (5) (q := 51) dX2_mostAlike_50 rfl (by decide) ?_
    refine x_imul (q := 52) dX2_mostAlike_51 rfl ?_
    refine x_iload_n (q := 53) dX2_mostAlike_52 rfl rfl ?_
    refine x_iadd (q := 54) dX2_mostAlike_53 rfl ?_
    refine q_iald (q := 55) dX2_mostAlike_54 rfl rfl (by rw [nIx5, nI_add]; exact vp_in_nI (by omega) (by decide)) ?_
    refine x_icmp_ne (t := 62) (q := 58) dX2_mostAlike_55 (by decide) rfl (fun c55 => ?_) (fun c55 => ?_)
    · refine x_iconst (0) (q := 63) dX2_mostAlike_62 rfl (by decide) ?_
      refine x_istore (L2 := [some (.ref 88), some (.int (nI l)), some (.int (nI sn)), some (.int (nI N)), some (.int (nI mo)), some (.int (nI i)), some (.int (nI (cA v N i j))), some (.int (nI j)), some (.int 0)]) (q := 65) dX2_mostAlike_63 rfl (by decide) rfl rfl ?_
      refine x_iload (q := 67) dX2_mostAlike_65 rfl rfl ?_
      refine x_iload (q := 69) dX2_mostAlike_67 rfl rfl ?_
      refine x_if_eq (t := 85) (q := 72) dX2_mostAlike_69 (by decide) rfl (fun c69 => ?_) (fun c69 => absurd c69 ((by decide)))
      refine x_iconst (0) (q := 86) dX2_mostAlike_85 rfl (by decide) ?_
      refine x_iadd (q := 87) dX2_mostAlike_86 rfl ?_
      refine x_nmi (fun v1 ev1 => ?_)
      refine x_istore (L2 := [some (.ref 88), some (.int (nI l)), some (.int (nI sn)), some (.int (nI N)), some (.int (nI mo)), some (.int (nI i)), some (.int v1), some (.int (nI j)), some (.int 0)]) (q := 89) dX2_mostAlike_87 rfl (by decide) rfl rfl ?_
      obtain ⟨v2, ev2⟩ : ∃ y_ : Int32, y_ = (nI j) + 1 := ⟨_, rfl⟩
      refine x_iinc (v := v2) (L2 := [some (.ref 88), some (.int (nI l)), some (.int (nI sn)), some (.int (nI N)), some (.int (nI mo)), some (.int (nI i)), some (.int v1), some (.int v2), some (.int 0)]) (q := 92) dX2_mostAlike_89 rfl (by decide) rfl rfl (by rw [ev2]; rfl) rfl ?_
      refine x_goto (t := 18) dX2_mostAlike_92 (by decide) ?_
      rw [show v2 = nI (j + 1) by rw [ev2, nI_p1]]
      rw [nIx5, nI_add, nI_clamp (by omega), nIx5, nI_add, nI_clamp (by omega), hv i hi hbi] at c55
      have e9 : v1 = nI (cA v N i (j + 1)) := by
        rw [ev1, cA_s]
        cases q : N.testBit j
        · first | (exact absurd ((bit_0 (by omega) (by omega)).mpr q) c78) | (rw [Bool.false_and, if_neg (by decide)]; exact nI_add _ 0)
        · rw [hv j (by omega) q] at c55
          first | (exact absurd ((bit_0 (by omega) (by omega)).mp c78) (by rw [q]; decide)) | (rw [Bool.true_and, if_pos (decide_eq_true (Classical.not_not.mp c55).symm)]; exact nI_add _ 1) | (rw [Bool.true_and, if_pos (decide_eq_true c55.symm)]; exact nI_add _ 1) | (rw [Bool.true_and, if_neg (fun z => c55 (of_decide_eq_true z).symm)]; exact nI_add _ 0)
      rw [e9]
      exact ih (j + 1) _ (by omega)
    · refine x_iconst (1) (q := 59) dX2_mostAlike_58 rfl (by decide) ?_
      refine x_goto (t := 63) dX2_mostAlike_59 (by decide) ?_
      refine x_istore (L2 := [some (.ref 88), some (.int (nI l)), some (.int (nI sn)), some (.int (nI N)), some (.int (nI mo)), some (.int (nI i)), some (.int (nI (cA v N i j))), some (.int (nI j)), some (.int 1)]) (q := 65) dX2_mostAlike_63 rfl (by decide) rfl rfl ?_
      refine x_iload (q := 67) dX2_mostAlike_65 rfl rfl ?_
      refine x_iload (q := 69) dX2_mostAlike_67 rfl rfl ?_
      refine x_if_eq (t := 85) (q := 72) dX2_mostAlike_69 (by decide) rfl (fun c69 => absurd c69 ((by decide))) (fun c69 => ?_)
      refine x_iload_n (q := 73) dX2_mostAlike_72 rfl rfl ?_
      refine x_iload (q := 75) dX2_mostAlike_73 rfl rfl ?_
      refine x_ishr (q := 76) dX2_mostAlike_75 rfl ?_
      refine x_iconst (1) (q := 77) dX2_mostAlike_76 rfl (by decide) ?_
      refine x_iand (q := 78) dX2_mostAlike_77 rfl ?_
      refine x_if_eq (t := 85) (q := 81) dX2_mostAlike_78 (by decide) rfl (fun c78 => ?_) (fun c78 => ?_)
      · refine x_iconst (0) (q := 86) dX2_mostAlike_85 rfl (by decide) ?_
        refine x_iadd (q := 87) dX2_mostAlike_86 rfl ?_
        refine x_nmi (fun v3 ev3 => ?_)
        refine x_istore (L2 := [some (.ref 88), some (.int (nI l)), some (.int (nI sn)), some (.int (nI N)), some (.int (nI mo)), some (.int (nI i)), some (.int v3), some (.int (nI j)), some (.int 1)]) (q := 89) dX2_mostAlike_87 rfl (by decide) rfl rfl ?_
        obtain ⟨v4, ev4⟩ : ∃ y_ : Int32, y_ = (nI j) + 1 := ⟨_, rfl⟩
        refine x_iinc (v := v4) (L2 := [some (.ref 88), some (.int (nI l)), some (.int (nI sn)), some (.int (nI N)), some (.int (nI mo)), some (.int (nI i)), some (.int v3), some (.int v4), some (.int 1)]) (q := 92) dX2_mostAlike_89 rfl (by decide) rfl rfl (by rw [ev4]; rfl) rfl ?_
        refine x_goto (t := 18) dX2_mostAlike_92 (by decide) ?_
        rw [show v4 = nI (j + 1) by rw [ev4, nI_p1]]
        rw [nIx5, nI_add, nI_clamp (by omega), nIx5, nI_add, nI_clamp (by omega), hv i hi hbi] at c55
        have e9 : v3 = nI (cA v N i (j + 1)) := by
          rw [ev3, cA_s]
          cases q : N.testBit j
          · first | (exact absurd ((bit_0 (by omega) (by omega)).mpr q) c78) | (rw [Bool.false_and, if_neg (by decide)]; exact nI_add _ 0)
          · rw [hv j (by omega) q] at c55
            first | (exact absurd ((bit_0 (by omega) (by omega)).mp c78) (by rw [q]; decide)) | (rw [Bool.true_and, if_pos (decide_eq_true (Classical.not_not.mp c55).symm)]; exact nI_add _ 1) | (rw [Bool.true_and, if_pos (decide_eq_true c55.symm)]; exact nI_add _ 1) | (rw [Bool.true_and, if_neg (fun z => c55 (of_decide_eq_true z).symm)]; exact nI_add _ 0)
        rw [e9]
        exact ih (j + 1) _ (by omega)
      · refine x_iconst (1) (q := 82) dX2_mostAlike_81 rfl (by decide) ?_
        refine x_goto (t := 86) dX2_mostAlike_82 (by decide) ?_
        refine x_iadd (q := 87) dX2_mostAlike_86 rfl ?_
        refine x_nmi (fun v5 ev5 => ?_)
        refine x_istore (L2 := [some (.ref 88), some (.int (nI l)), some (.int (nI sn)), some (.int (nI N)), some (.int (nI mo)), some (.int (nI i)), some (.int v5), some (.int (nI j)), some (.int 1)]) (q := 89) dX2_mostAlike_87 rfl (by decide) rfl rfl ?_
        obtain ⟨v6, ev6⟩ : ∃ y_ : Int32, y_ = (nI j) + 1 := ⟨_, rfl⟩
        refine x_iinc (v := v6) (L2 := [some (.ref 88), some (.int (nI l)), some (.int (nI sn)), some (.int (nI N)), some (.int (nI mo)), some (.int (nI i)), some (.int v5), some (.int v6), some (.int 1)]) (q := 92) dX2_mostAlike_89 rfl (by decide) rfl rfl (by rw [ev6]; rfl) rfl ?_
        refine x_goto (t := 18) dX2_mostAlike_92 (by decide) ?_
        rw [show v6 = nI (j + 1) by rw [ev6, nI_p1]]
        rw [nIx5, nI_add, nI_clamp (by omega), nIx5, nI_add, nI_clamp (by omega), hv i hi hbi] at c55
        have e9 : v5 = nI (cA v N i (j + 1)) := by
          rw [ev5, cA_s]
          cases q : N.testBit j
          · first | (exact absurd ((bit_0 (by omega) (by omega)).mpr q) c78) | (rw [Bool.false_and, if_neg (by decide)]; exact nI_add _ 0)
          · rw [hv j (by omega) q] at c55
            first | (exact absurd ((bit_0 (by omega) (by omega)).mp c78) (by rw [q]; decide)) | (rw [Bool.true_and, if_pos (decide_eq_true (Classical.not_not.mp c55).symm)]; exact nI_add _ 1) | (rw [Bool.true_and, if_pos (decide_eq_true c55.symm)]; exact nI_add _ 1) | (rw [Bool.true_and, if_neg (fun z => c55 (of_decide_eq_true z).symm)]; exact nI_add _ 0)
        rw [e9]
        exact ih (j + 1) _ (by omega)
set_option maxRecDepth 100000 in
theorem l_ma {I : MI} {l sn N : Nat} {v : Nat → Int32} (hl : l < 5) (hs7 : sn ≤ 7) (hN : N < 1000) (hv : ∀ k, k < sn → N.testBit k = true → I 94 (5 * k + l) = v k) (r : MR) (J : MJ) : ∀ (f i : Nat) (x6 x7 x8 : Option Value) (_ : i + f = sn), Wq MX2_mostAlike 6 [some (.ref 88), some (.int (nI l)), some (.int (nI sn)), some (.int (nI N)), some (.int (nI (mA v N sn i))), some (.int (nI i)), x6, x7, x8] [] I r J (Rt (some (.int (nI (mA v N sn sn)))) I r J) := by
  intro f
  induction f with
  | zero =>
    intro i x6 x7 x8 hik
    refine x_iload (q := 8) dX2_mostAlike_6 rfl rfl ?_
    refine x_iload_n (q := 9) dX2_mostAlike_8 rfl rfl ?_
    refine x_icmp_ge (t := 110) (q := 12) dX2_mostAlike_9 (by decide) rfl (fun c9 => ?_) (fun c9 => absurd c9 (fun q => q (nI_le (by omega) (by omega))))
    refine x_iload (q := 112) dX2_mostAlike_110 rfl rfl ?_
    refine q_iret dX2_mostAlike_112 rfl ?_
    rw [show i = sn by omega]
    exact ⟨rfl, rfl, rfl, rfl⟩
  | succ f ih =>
    intro i x6 x7 x8 hik
    cases hbi : N.testBit i
    · refine x_iload (q := 8) dX2_mostAlike_6 rfl rfl ?_
      refine x_iload_n (q := 9) dX2_mostAlike_8 rfl rfl ?_
      refine x_icmp_ge (t := 110) (q := 12) dX2_mostAlike_9 (by decide) rfl (fun c9 => absurd c9 (nI_ge (by omega) (by omega))) (fun c9 => ?_)
      refine x_iconst (0) (q := 13) dX2_mostAlike_12 rfl (by decide) ?_
      refine x_istore (L2 := [some (.ref 88), some (.int (nI l)), some (.int (nI sn)), some (.int (nI N)), some (.int (nI (mA v N sn i))), some (.int (nI i)), some (.int 0), x7, x8]) (q := 15) dX2_mostAlike_13 rfl (by decide) rfl rfl ?_
      refine x_iconst (0) (q := 16) dX2_mostAlike_15 rfl (by decide) ?_
      refine x_istore (L2 := [some (.ref 88), some (.int (nI l)), some (.int (nI sn)), some (.int (nI N)), some (.int (nI (mA v N sn i))), some (.int (nI i)), some (.int 0), some (.int 0), x8]) (q := 18) dX2_mostAlike_16 rfl (by decide) rfl rfl ?_
      refine x_iload (q := 20) dX2_mostAlike_18 rfl rfl ?_
      refine x_iload_n (q := 21) dX2_mostAlike_20 rfl rfl ?_
      refine x_icmp_ge (t := 95) (q := 24) dX2_mostAlike_21 (by decide) rfl (fun c21 => absurd c21 (nI_ge (a := 0) (by omega) (by omega))) (fun c21 => ?_)
      refine x_iload_n (q := 25) dX2_mostAlike_24 rfl rfl ?_
      refine x_iload (q := 27) dX2_mostAlike_25 rfl rfl ?_
      refine x_ishr (q := 28) dX2_mostAlike_27 rfl ?_
      refine x_iconst (1) (q := 29) dX2_mostAlike_28 rfl (by decide) ?_
      refine x_iand (q := 30) dX2_mostAlike_29 rfl ?_
      refine x_if_eq (t := 95) (q := 33) dX2_mostAlike_30 (by decide) rfl (fun c30 => ?_) (fun c30 => absurd c30 (fun z => z ((bit_0 (by omega) (by omega)).mpr hbi)))
      refine x_iload (q := 97) dX2_mostAlike_95 rfl rfl ?_
      refine x_iload (q := 99) dX2_mostAlike_97 rfl rfl ?_
      refine x_max (q := 102) dX2_mostAlike_99 rfl tw_1047 mm_max_s mm_i mm_max_c (by decide) (Nat.le_of_ble_eq_true rfl) (by decide) (by decide) ?_
      refine x_nmi (fun v1 ev1 => ?_)
      refine x_istore (L2 := [some (.ref 88), some (.int (nI l)), some (.int (nI sn)), some (.int (nI N)), some (.int v1), some (.int (nI i)), some (.int 0), some (.int 0), x8]) (q := 104) dX2_mostAlike_102 rfl (by decide) rfl rfl ?_
      obtain ⟨v2, ev2⟩ : ∃ y_ : Int32, y_ = (nI i) + 1 := ⟨_, rfl⟩
      refine x_iinc (v := v2) (L2 := [some (.ref 88), some (.int (nI l)), some (.int (nI sn)), some (.int (nI N)), some (.int v1), some (.int v2), some (.int 0), some (.int 0), x8]) (q := 107) dX2_mostAlike_104 rfl (by decide) rfl rfl (by rw [ev2]; rfl) rfl ?_
      refine x_goto (t := 6) dX2_mostAlike_107 (by decide) ?_
      rw [show v2 = nI (i + 1) by rw [ev2, nI_p1]]
      have e9 : v1 = nI (mA v N sn (i + 1)) := by
        have b1 := mA_le v N sn i
        rw [ev1, mA_s, hbi]
        first | (rw [if_neg (nI_pos (by omega)), if_neg Bool.false_ne_true]) | (rw [if_pos rfl]; have b2 := cA_le v N i sn; exact mx (by omega) (by omega))
      rw [e9]
      exact ih (i + 1) _ _ _ (by omega)
    · refine x_iload (q := 8) dX2_mostAlike_6 rfl rfl ?_
      refine x_iload_n (q := 9) dX2_mostAlike_8 rfl rfl ?_
      refine x_icmp_ge (t := 110) (q := 12) dX2_mostAlike_9 (by decide) rfl (fun c9 => absurd c9 (nI_ge (by omega) (by omega))) (fun c9 => ?_)
      refine x_iconst (0) (q := 13) dX2_mostAlike_12 rfl (by decide) ?_
      refine x_istore (L2 := [some (.ref 88), some (.int (nI l)), some (.int (nI sn)), some (.int (nI N)), some (.int (nI (mA v N sn i))), some (.int (nI i)), some (.int 0), x7, x8]) (q := 15) dX2_mostAlike_13 rfl (by decide) rfl rfl ?_
      refine x_iconst (0) (q := 16) dX2_mostAlike_15 rfl (by decide) ?_
      refine x_istore (L2 := [some (.ref 88), some (.int (nI l)), some (.int (nI sn)), some (.int (nI N)), some (.int (nI (mA v N sn i))), some (.int (nI i)), some (.int 0), some (.int 0), x8]) (q := 18) dX2_mostAlike_16 rfl (by decide) rfl rfl ?_
      refine l_ma1 hl hs7 hN hv r J (i := i) (by omega) hbi _ (fun y7 y8 => ?_) sn 0 _ (by omega)
      refine x_iload (q := 97) dX2_mostAlike_95 rfl rfl ?_
      refine x_iload (q := 99) dX2_mostAlike_97 rfl rfl ?_
      refine x_max (q := 102) dX2_mostAlike_99 rfl tw_1047 mm_max_s mm_i mm_max_c (by decide) (Nat.le_of_ble_eq_true rfl) (by decide) (by decide) ?_
      refine x_nmi (fun v41 ev41 => ?_)
      refine x_istore (L2 := [some (.ref 88), some (.int (nI l)), some (.int (nI sn)), some (.int (nI N)), some (.int v41), some (.int (nI i)), some (.int (nI (cA v N i sn))), y7, y8]) (q := 104) dX2_mostAlike_102 rfl (by decide) rfl rfl ?_
      obtain ⟨v42, ev42⟩ : ∃ y_ : Int32, y_ = (nI i) + 1 := ⟨_, rfl⟩
      refine x_iinc (v := v42) (L2 := [some (.ref 88), some (.int (nI l)), some (.int (nI sn)), some (.int (nI N)), some (.int v41), some (.int v42), some (.int (nI (cA v N i sn))), y7, y8]) (q := 107) dX2_mostAlike_104 rfl (by decide) rfl rfl (by rw [ev42]; rfl) rfl ?_
      refine x_goto (t := 6) dX2_mostAlike_107 (by decide) ?_
      rw [show v42 = nI (i + 1) by rw [ev42, nI_p1]]
      have e9 : v41 = nI (mA v N sn (i + 1)) := by
        have b1 := mA_le v N sn i
        rw [ev41, mA_s, hbi]
        first | (rw [if_neg (nI_pos (by omega)), if_neg Bool.false_ne_true]) | (rw [if_pos rfl]; have b2 := cA_le v N i sn; exact mx (by omega) (by omega))
      rw [e9]
      exact ih (i + 1) _ _ _ (by omega)
set_option maxRecDepth 100000 in
theorem c_mostA {I : MI} {l sn N : Nat} {v : Nat → Int32} (hl : l < 5) (hs7 : sn ≤ 7) (hN : N < 1000) (hv : ∀ k, k < sn → N.testBit k = true → I 94 (5 * k + l) = v k) (r : MR) (J : MJ) : Cq yX2_mostAlike MX2_mostAlike [.ref 88, .int (nI l), .int (nI sn), .int (nI N)] I r J (Rt (some (.int (nI (mA v N sn sn)))) I r J) := by
  refine cq_of [some (.ref 88), some (.int (nI l)), some (.int (nI sn)), some (.int (nI N)), none, none, none, none, none] 5 (by decide +kernel) rfl rfl (Nat.le_of_ble_eq_true rfl) rfl ?_
  refine x_iconst (0) (q := 1) dX2_mostAlike_0 rfl (by decide) ?_
  refine x_istore (L2 := [some (.ref 88), some (.int (nI l)), some (.int (nI sn)), some (.int (nI N)), some (.int 0), none, none, none, none]) (q := 3) dX2_mostAlike_1 rfl (by decide) rfl rfl ?_
  refine x_iconst (0) (q := 4) dX2_mostAlike_3 rfl (by decide) ?_
  refine x_istore (L2 := [some (.ref 88), some (.int (nI l)), some (.int (nI sn)), some (.int (nI N)), some (.int 0), some (.int 0), none, none, none]) (q := 6) dX2_mostAlike_4 rfl (by decide) rfl rfl ?_
  exact l_ma hl hs7 hN hv r J sn 0 _ _ _ (by omega)
abbrev TS : Type := Option (Nat × Nat × Nat)
def updT (st : TS) (y l w : Nat) : TS := match st with
  | none => some (y, l, w)
  | some (a, c, w0) => if w < w0 then some (y, l, w) else some (a, c, w0)
def inT (V : Nat → Nat → Nat) (y : Nat) (st : TS) : Nat → TS
  | 0 => st
  | l + 1 => updT (inT V y st l) y l (V y l)
def ouT (V : Nat → Nat → Nat) (la : Nat → Nat) : Nat → TS
  | 0 => none
  | y + 1 => inT V y (ouT V la y) (la y)
theorem inT_some {V : Nat → Nat → Nat} {y : Nat} {st : TS} : ∀ l, 1 ≤ l → ¬ inT V y st l = none := by
  intro l hl
  obtain ⟨k, rfl⟩ : ∃ k, l = k + 1 := ⟨l - 1, by omega⟩
  show ¬ updT (inT V y st k) y k (V y k) = none
  unfold updT
  split
  · simp
  · split <;> simp
theorem ouT_some {V : Nat → Nat → Nat} {la : Nat → Nat} {n : Nat} (hn : 1 ≤ n) (h : ∀ y, y < n → 1 ≤ la y) : ¬ ouT V la n = none := by
  obtain ⟨k, rfl⟩ : ∃ k, n = k + 1 := ⟨n - 1, by omega⟩
  exact inT_some _ (h k (by omega))
def encX (X : MI) : TS → Prop
  | none => X 88 8 = 8
  | some (a, c, w) => X 88 6 = nI a ∧ X 88 7 = nI c ∧ X 88 8 = nI w ∧ w ≤ 7
theorem encX_c {X Y : MI} {st : TS} (h : ∀ j, j = 6 ∨ j = 7 ∨ j = 8 → Y 88 j = X 88 j) (hx : encX X st) : encX Y st := by
  cases st with
  | none => show Y 88 8 = 8; rw [h 8 (by omega)]; exact hx
  | some p =>
    obtain ⟨a, c, w⟩ := p
    show Y 88 6 = nI a ∧ Y 88 7 = nI c ∧ Y 88 8 = nI w ∧ w ≤ 7
    rw [h 6 (by omega), h 7 (by omega), h 8 (by omega)]
    exact hx
def tvV (I : MI) (b hn s y l k : Nat) : Int32 := warmAt I b y hn (I (b + 8) k) s l
def Vt (I : MI) (b hn s N sn y l : Nat) : Nat := mA (tvV I b hn s y l) N sn sn
def slP (I : MI) (b hn s N y k : Nat) (st : TS) (X : MI) : Prop := Kp I X ∧ encX X st ∧ ∀ q, q < k → N.testBit q = true → ∀ l, l < laN I b y → X 94 (5 * q + l) = tvV I b hn s y l q
theorem slP_s {I X Y : MI} {b hn s N y k : Nat} {st : TS} {G : GT} (h5 : laN I b y ≤ 5) (h : slP I b hn s N y k st X) (hG : ∀ l, l < laN I b y → G l = tvV I b hn s y l k) (eY : Y = cpI (gPut X 92 G) 93 0 94 (5 * k) 5) : slP I b hn s N y (k + 1) st Y := by
  refine ⟨?_, ?_, fun q hq hb l hl => ?_⟩
  · refine (h.1.tr (Kp_92 G)).tr (fun c j sc => ?_)
    rw [eY, cpI_o (fun e => sc (by unfold scr; omega))]
  · refine encX_c (fun j _ => ?_) h.2.1
    rw [eY, cpI_o (by decide), gPut_o _ _ _ _ _ (by decide) (by decide)]
  · by_cases e : q = k
    · subst e
      rw [eY, cpI_i (by omega) (by omega)]
      show gPut X 92 G (92 + 1) _ = _
      rw [gPut_w _ _ _ _ (by omega), show 0 + (5 * q + l - 5 * q) = l by omega]
      exact hG l hl
    · rw [eY, cpI_x (by omega), gPut_o _ _ _ _ _ (by decide) (by decide)]
      exact h.2.2 q (by omega) hb l hl
theorem slP_n {I X : MI} {b hn s N y k : Nat} {st : TS} (hk : N.testBit k = false) (h : slP I b hn s N y k st X) : slP I b hn s N y (k + 1) st X := by
  refine ⟨h.1, h.2.1, fun q hq hb l hl => ?_⟩
  by_cases e : q = k
  · subst e
    rw [hk] at hb
    exact absurd hb (by decide)
  · exact h.2.2 q (by omega) hb l hl
set_option maxRecDepth 100000 in
theorem l_ch1 {I : MI} {b yn wn hn sn st : Nat} (h : RelL I b yn wn hn sn st) {s N : Nat} (hs : s ≤ 72) (hN : N < 1000) (r : MR) (J : MJ) {y : Nat} (hy : y < yn) {ts : TS} (post : Option Value → MI → MR → MJ → Prop) (kx : ∀ (X : MI) (x5 x6 : Option Value), slP I b hn s N y sn ts X → Wq MX2_choose 75 [some (.ref 88), some (.ref b), some (.int (nI s)), some (.int (nI N)), some (.int (nI y)), x5, x6] [] X r J post) : ∀ (f : Nat) (k : Nat) (X : MI) (x6 : Option Value) (_ : k + f = sn) (_ : slP I b hn s N y k ts X), Wq MX2_choose 21 [some (.ref 88), some (.ref b), some (.int (nI s)), some (.int (nI N)), some (.int (nI y)), some (.int (nI k)), x6] [] X r J (post) := by
  have h8 : yn ≤ 8 := h.1.2.2.1
  have hs7 : sn ≤ 7 := h.2.1.2.2.2.1
  have hb28 := sh_L1 h.1.1
  intro f
  induction f with
  | zero =>
    intro k X x6 hkk hX
    have hRX := RelL_k hX.1 hb28 h
    have es : X b 12 = nI sn := hRX.2.1.2.2.1
    have hcX := hX.1.L hb28
    refine x_iload (q := 23) dX2_choose_21 rfl rfl ?_
    refine x_aload_n (q := 24) dX2_choose_23 rfl rfl ?_
    refine q_gi (K := 12) (q := 27) dX2_choose_24 rfl cl_5 (by decide) tw_212 h.1.1 rfl ?_
    refine x_icmp_ge (t := 75) (q := 30) dX2_choose_27 (by decide) rfl (fun c27 => ?_) (fun c27 => absurd c27 (fun q => q (by rw [es]; exact nI_le (by omega) (by omega))))
    have e9 : k = sn := by omega
    subst e9
    exact kx X _ _ hX
  | succ f ih =>
    intro k X x6 hkk hX
    have hRX := RelL_k hX.1 hb28 h
    have es : X b 12 = nI sn := hRX.2.1.2.2.1
    have hcX := hX.1.L hb28
    refine x_iload (q := 23) dX2_choose_21 rfl rfl ?_
    refine x_aload_n (q := 24) dX2_choose_23 rfl rfl ?_
    refine q_gi (K := 12) (q := 27) dX2_choose_24 rfl cl_5 (by decide) tw_212 h.1.1 rfl ?_
    refine x_icmp_ge (t := 75) (q := 30) dX2_choose_27 (by decide) rfl (fun c27 => absurd c27 (by rw [es]; exact nI_ge (by omega) (by omega))) (fun c27 => ?_)
    refine x_iload_n (q := 31) dX2_choose_30 rfl rfl ?_
    refine x_iload (q := 33) dX2_choose_31 rfl rfl ?_
    refine x_ishr (q := 34) dX2_choose_33 rfl ?_
    refine x_iconst (1) (q := 35) dX2_choose_34 rfl (by decide) ?_
    refine x_iand (q := 36) dX2_choose_35 rfl ?_
    refine x_if_eq (t := 69) (q := 39) dX2_choose_36 (by decide) rfl (fun c36 => ?_) (fun c36 => ?_)
    · obtain ⟨v1, ev1⟩ : ∃ y_ : Int32, y_ = (nI k) + 1 := ⟨_, rfl⟩
      refine x_iinc (v := v1) (L2 := [some (.ref 88), some (.ref b), some (.int (nI s)), some (.int (nI N)), some (.int (nI y)), some (.int v1), x6]) (q := 72) dX2_choose_69 rfl (by decide) rfl rfl (by rw [ev1]; rfl) rfl ?_
      refine x_goto (t := 21) dX2_choose_72 (by decide) ?_
      rw [show v1 = nI (k + 1) by rw [ev1, nI_p1]]
      exact ih (k + 1) X _ (by omega) (slP_n ((bit_0 (by omega) (by omega)).mp c36) hX)
    · refine x_aload_n (q := 40) dX2_choose_39 rfl rfl ?_
      refine x_aload_n (q := 41) dX2_choose_40 rfl rfl ?_
      refine x_iload (q := 43) dX2_choose_41 rfl rfl ?_
      refine x_iload (q := 45) dX2_choose_43 rfl rfl ?_
      refine x_iload_n (q := 46) dX2_choose_45 rfl rfl ?_
      refine q_callV (ci := 2) (N := 9) (T := TX2) (As := [.ref b, .int (nI y), .int (nI k), .int (nI s)]) (rest := []) (q := 49) dX2_choose_46 rfl okX2_lookBack tw_1041 rfl rfl (c_look (k := k) hRX.1 hy (by omega) ((hRX.2.1.2.2.2.2.1 k (by omega)).1) hs r J) rfl rfl (Nat.le_of_ble_eq_true rfl) ⟨by decide, by decide⟩ ⟨rfl, rfl⟩ (fun rv_ Y r_ J_ hv_ => ?_)
      obtain ⟨a1_, ⟨Gy, eY, hGy⟩, a3_, a4_⟩ := hv_
      rw [a1_, a3_, a4_]
      show Wq MX2_choose 49 [some (.ref 88), some (.ref b), some (.int (nI s)), some (.int (nI N)), some (.int (nI y)), some (.int (nI k)), x6] [] Y r J _
      refine x_aload_n (q := 50) dX2_choose_49 rfl rfl ?_
      refine q_gr (K := 4) (b := 92) (q := 53) dX2_choose_50 rfl cl_2 (by decide) tw_538 rfl rfl rfl ?_
      refine q_gr (K := 0) (b := 93) (q := 56) dX2_choose_53 rfl cl_4 (by decide) tw_397 rfl rfl rfl ?_
      refine x_iconst (0) (q := 57) dX2_choose_56 rfl (by decide) ?_
      refine x_aload_n (q := 58) dX2_choose_57 rfl rfl ?_
      refine q_gr (K := 5) (b := 94) (q := 61) dX2_choose_58 rfl cl_2 (by decide) tw_539 rfl rfl rfl ?_
      refine x_iload (q := 63) dX2_choose_61 rfl rfl ?_
      refine x_iconst (5) (q := 64) dX2_choose_63 rfl (by decide) ?_
      refine x_imul (q := 65) dX2_choose_64 rfl ?_
      refine x_iconst (5) (q := 66) dX2_choose_65 rfl (by decide) ?_
      refine q_copy (q := 69) dX2_choose_66 rfl tw_1042 tw_748 tw_747 tw_100 (by decide) (Nat.le_of_ble_eq_true rfl) rfl rfl (by decide) (by rw [nIx5]; exact nI_pos (by omega)) (by decide) (by decide) (by rw [nIx5, nI_clamp (by omega), cl_lit1]; omega) (fun I2 eI2 => ?_)
      obtain ⟨v3, ev3⟩ : ∃ y_ : Int32, y_ = (nI k) + 1 := ⟨_, rfl⟩
      refine x_iinc (v := v3) (L2 := [some (.ref 88), some (.ref b), some (.int (nI s)), some (.int (nI N)), some (.int (nI y)), some (.int v3), x6]) (q := 72) dX2_choose_69 rfl (by decide) rfl rfl (by rw [ev3]; rfl) rfl ?_
      refine x_goto (t := 21) dX2_choose_72 (by decide) ?_
      rw [show v3 = nI (k + 1) by rw [ev3, nI_p1]]
      rw [nIx5, nI_clamp (by omega), cl_lit0, cl_lit1, eY] at eI2
      refine ih (k + 1) I2 _ (by omega) (slP_s (la5 h.1 hy).2 hX (fun l hl => ?_) eI2)
      rw [hGy l (by rw [laN_c hcX (by omega)]; exact hl)]
      unfold tvV warmAt begG
      rw [hcX (b + 8) ⟨by omega, by omega⟩, hcX (b + 11 + 2 * y) ⟨by omega, by omega⟩, trajY_c hcX (by omega)]
set_option maxRecDepth 100000 in
theorem l_ch2 {I : MI} {b yn wn hn sn st : Nat} (h : RelL I b yn wn hn sn st) {s N : Nat} (hs : s ≤ 72) (hN : N < 1000) (r : MR) (J : MJ) {y : Nat} (hy : y < yn) {ts : TS} (post : Option Value → MI → MR → MJ → Prop) (kx : ∀ (X : MI) (x5 x6 : Option Value), Kp I X → encX X (inT (Vt I b hn s N sn) y ts (laN I b y)) → Wq MX2_choose 139 [some (.ref 88), some (.ref b), some (.int (nI s)), some (.int (nI N)), some (.int (nI y)), x5, x6] [] X r J post) : ∀ (f : Nat) (l : Nat) (X : MI) (x6 : Option Value) (_ : l + f = laN I b y) (_ : slP I b hn s N y sn (inT (Vt I b hn s N sn) y ts l) X), Wq MX2_choose 78 [some (.ref 88), some (.ref b), some (.int (nI s)), some (.int (nI N)), some (.int (nI y)), some (.int (nI l)), x6] [] X r J (post) := by
  have h8 : yn ≤ 8 := h.1.2.2.1
  have hs7 : sn ≤ 7 := h.2.1.2.2.2.1
  have hb28 := sh_L1 h.1.1
  intro f
  induction f with
  | zero =>
    intro l X x6 hlk hX
    have hRX := RelL_k hX.1 hb28 h
    have es : X b 12 = nI sn := hRX.2.1.2.2.1
    have hcX := hX.1.L hb28
    have h5 := (la5 h.1 hy).2
    have ela : X (b + 10 + 2 * y) 4 = nI (laN I b y) := by rw [hcX _ ⟨by omega, by omega⟩]; exact la_w h.1 hy
    refine x_iload (q := 80) dX2_choose_78 rfl rfl ?_
    refine x_aload_n (q := 81) dX2_choose_80 rfl rfl ?_
    refine q_gr (K := 0) (b := (b + 1)) (q := 84) dX2_choose_81 rfl cl_5 (by decide) tw_162 h.1.1 rfl (lr_w h.1.1 _).1 ?_
    refine x_iload (q := 86) dX2_choose_84 rfl rfl ?_
    refine q_aald4 (b := (b + 10 + 2 * y)) (q := 87) dX2_choose_86 rfl (ls_w h.1.1).1 (vp_in_nI (by omega) (by decide)) (by rw [nI_clamp (by omega)]; exact (ly_w h.1.1 (by omega) _).1) ?_
    refine q_gi (K := 4) (q := 90) dX2_choose_87 rfl cl_10 (by decide) tw_133 (ly_w h.1.1 (by omega) r).2 rfl ?_
    refine x_icmp_ge (t := 139) (q := 93) dX2_choose_90 (by decide) rfl (fun c90 => ?_) (fun c90 => absurd c90 (fun q => q (by rw [ela]; exact nI_le (by omega) (by omega))))
    have e9 : l = laN I b y := by omega
    rw [e9] at hX
    exact kx X _ _ hX.1 hX.2.1
  | succ f ih =>
    intro l X x6 hlk hX
    have hRX := RelL_k hX.1 hb28 h
    have es : X b 12 = nI sn := hRX.2.1.2.2.1
    have hcX := hX.1.L hb28
    have h5 := (la5 h.1 hy).2
    have ela : X (b + 10 + 2 * y) 4 = nI (laN I b y) := by rw [hcX _ ⟨by omega, by omega⟩]; exact la_w h.1 hy
    refine x_iload (q := 80) dX2_choose_78 rfl rfl ?_
    refine x_aload_n (q := 81) dX2_choose_80 rfl rfl ?_
    refine q_gr (K := 0) (b := (b + 1)) (q := 84) dX2_choose_81 rfl cl_5 (by decide) tw_162 h.1.1 rfl (lr_w h.1.1 _).1 ?_
    refine x_iload (q := 86) dX2_choose_84 rfl rfl ?_
    refine q_aald4 (b := (b + 10 + 2 * y)) (q := 87) dX2_choose_86 rfl (ls_w h.1.1).1 (vp_in_nI (by omega) (by decide)) (by rw [nI_clamp (by omega)]; exact (ly_w h.1.1 (by omega) _).1) ?_
    refine q_gi (K := 4) (q := 90) dX2_choose_87 rfl cl_10 (by decide) tw_133 (ly_w h.1.1 (by omega) r).2 rfl ?_
    refine x_icmp_ge (t := 139) (q := 93) dX2_choose_90 (by decide) rfl (fun c90 => absurd c90 (by rw [ela]; exact nI_ge (by omega) (by omega))) (fun c90 => ?_)
    refine x_aload_n (q := 94) dX2_choose_93 rfl rfl ?_
    refine x_iload (q := 96) dX2_choose_94 rfl rfl ?_
    refine x_aload_n (q := 97) dX2_choose_96 rfl rfl ?_
    refine q_gi (K := 12) (q := 100) dX2_choose_97 rfl cl_5 (by decide) tw_212 h.1.1 rfl ?_
    refine x_iload_n (q := 101) dX2_choose_100 rfl rfl ?_
    refine q_callV (ci := 2) (N := 9) (T := TX2) (As := [.int (nI l), .int (X b 12), .int (nI N)]) (rest := []) (q := 104) dX2_choose_101 rfl okX2_mostAlike tw_1043 rfl rfl (by rw [es]; exact c_mostA (v := tvV I b hn s y l) (by omega) hs7 hN (fun k hk hb => hX.2.2 k hk hb l (by omega)) r J) rfl rfl (Nat.le_of_ble_eq_true rfl) ⟨by decide, by decide⟩ ⟨rfl, rfl⟩ (fun rv_ I_ r_ J_ hv_ => ?_)
    obtain ⟨a1_, a2_, a3_, a4_⟩ := hv_
    rw [a1_, a2_, a3_, a4_]
    show Wq MX2_choose 104 [some (.ref 88), some (.ref b), some (.int (nI s)), some (.int (nI N)), some (.int (nI y)), some (.int (nI l)), x6] [.int (nI (Vt I b hn s N sn y l))] X r J _
    refine x_istore (L2 := [some (.ref 88), some (.ref b), some (.int (nI s)), some (.int (nI N)), some (.int (nI y)), some (.int (nI l)), some (.int (nI (Vt I b hn s N sn y l)))]) (q := 106) dX2_choose_104 rfl (by decide) rfl rfl ?_
    refine x_iload (q := 108) dX2_choose_106 rfl rfl ?_
    refine x_aload_n (q := 109) dX2_choose_108 rfl rfl ?_
    refine q_gi (K := 8) (q := 112) dX2_choose_109 rfl cl_2 (by decide) tw_544 rfl rfl ?_
    refine x_icmp_ge (t := 133) (q := 115) dX2_choose_112 (by decide) rfl (fun c112 => ?_) (fun c112 => ?_)
    · obtain ⟨v1, ev1⟩ : ∃ y_ : Int32, y_ = (nI l) + 1 := ⟨_, rfl⟩
      refine x_iinc (v := v1) (L2 := [some (.ref 88), some (.ref b), some (.int (nI s)), some (.int (nI N)), some (.int (nI y)), some (.int v1), some (.int (nI (Vt I b hn s N sn y l)))]) (q := 136) dX2_choose_133 rfl (by decide) rfl rfl (by rw [ev1]; rfl) rfl ?_
      refine x_goto (t := 78) dX2_choose_136 (by decide) ?_
      have hV : Vt I b hn s N sn y l ≤ 7 := Nat.le_trans (mA_le _ _ _ _) hs7
      rw [show v1 = nI (l + 1) by rw [ev1, nI_p1]]
      refine ih (l + 1) X _ (by omega) ⟨hX.1, ?_, hX.2.2⟩
      show encX X (updT (inT (Vt I b hn s N sn) y ts l) y l _)
      cases hst : inT (Vt I b hn s N sn) y ts l with
      | none =>
        have hx := hX.2.1
        rw [hst] at hx
        have hx8 : X 88 8 = nI 8 := hx
        rw [hx8] at c112
        exact absurd ((nI_leI (by omega) (by omega)).mp c112) (by omega)
      | some p =>
        obtain ⟨a, c, w⟩ := p
        have hx := hX.2.1
        rw [hst] at hx
        have hx8 : X 88 8 = nI w := hx.2.2.1
        have hw7 : w ≤ 7 := hx.2.2.2
        rw [hx8] at c112
        have z := (nI_leI (by omega) (by omega)).mp c112
        have e : updT (some (a, c, w)) y l (Vt I b hn s N sn y l) = some (a, c, w) := if_neg (by omega)
        rw [e]
        exact hx
    · refine x_aload_n (q := 116) dX2_choose_115 rfl rfl ?_
      refine x_iload (q := 118) dX2_choose_116 rfl rfl ?_
      refine q_pi (K := 6) (q := 121) dX2_choose_118 rfl cl_2 (by decide) tw_540 rfl rfl rfl rfl (fun I2 eI2 => ?_)
      refine x_aload_n (q := 122) dX2_choose_121 rfl rfl ?_
      refine x_iload (q := 124) dX2_choose_122 rfl rfl ?_
      refine q_pi (K := 7) (q := 127) dX2_choose_124 rfl cl_2 (by decide) tw_542 rfl rfl rfl rfl (fun I3 eI3 => ?_)
      refine x_aload_n (q := 128) dX2_choose_127 rfl rfl ?_
      refine x_iload (q := 130) dX2_choose_128 rfl rfl ?_
      refine q_pi (K := 8) (q := 133) dX2_choose_130 rfl cl_2 (by decide) tw_544 rfl rfl rfl rfl (fun I4 eI4 => ?_)
      obtain ⟨v5, ev5⟩ : ∃ y_ : Int32, y_ = (nI l) + 1 := ⟨_, rfl⟩
      refine x_iinc (v := v5) (L2 := [some (.ref 88), some (.ref b), some (.int (nI s)), some (.int (nI N)), some (.int (nI y)), some (.int v5), some (.int (nI (Vt I b hn s N sn y l)))]) (q := 136) dX2_choose_133 rfl (by decide) rfl rfl (by rw [ev5]; rfl) rfl ?_
      refine x_goto (t := 78) dX2_choose_136 (by decide) ?_
      have hV : Vt I b hn s N sn y l ≤ 7 := Nat.le_trans (mA_le _ _ _ _) hs7
      rw [show v5 = nI (l + 1) by rw [ev5, nI_p1]]
      have f88 : ∀ c j, ¬ (c = 88 ∧ (j = 6 ∨ j = 7 ∨ j = 8)) → I4 c j = X c j := fun c j q => by
        rw [eI4, eI3, eI2]
        unfold upI
        rw [if_neg (by omega), if_neg (by omega), if_neg (by omega)]
      refine ih (l + 1) I4 _ (by omega) ⟨fun c j sc => ?_, ?_, fun q hq hb l2 hl2 => ?_⟩
      · rw [f88 c j (fun e => sc (by unfold scr; omega))]
        exact hX.1 c j sc
      · have u6 : I4 88 6 = nI y := by rw [eI4, ups (by decide), eI3, ups (by decide), eI2, upq]
        have u7 : I4 88 7 = nI l := by rw [eI4, ups (by decide), eI3, upq]
        have u8 : I4 88 8 = nI (Vt I b hn s N sn y l) := by rw [eI4, upq]
        show encX I4 (updT (inT (Vt I b hn s N sn) y ts l) y l _)
        cases hst : inT (Vt I b hn s N sn) y ts l with
        | none => exact ⟨u6, u7, u8, hV⟩
        | some p =>
          obtain ⟨a, c, w⟩ := p
          have hx := hX.2.1
          rw [hst] at hx
          have hx8 : X 88 8 = nI w := hx.2.2.1
          have hw7 : w ≤ 7 := hx.2.2.2
          rw [hx8] at c112
          have z : Vt I b hn s N sn y l < w := by
            rcases Nat.lt_or_ge (Vt I b hn s N sn y l) w with q | q
            · exact q
            · exact absurd (nI_le q (by omega)) c112
          have e : updT (some (a, c, w)) y l (Vt I b hn s N sn y l) = some (y, l, Vt I b hn s N sn y l) := if_pos z
          rw [e]
          exact ⟨u6, u7, u8, hV⟩
      · rw [f88 94 _ (by omega)]
        exact hX.2.2 q hq hb l2 hl2
set_option maxRecDepth 100000 in
theorem l_ch {I : MI} {b yn wn hn sn st : Nat} (h : RelL I b yn wn hn sn st) {s N : Nat} (hs : s ≤ 72) (hN : N < 1000) (r : MR) (J : MJ) : ∀ (f : Nat) (y : Nat) (X : MI) (x5 x6 : Option Value) (_ : y + f = yn) (_ : Kp I X) (_ : encX X (ouT (Vt I b hn s N sn) (laN I b) y)), Wq MX2_choose 9 [some (.ref 88), some (.ref b), some (.int (nI s)), some (.int (nI N)), some (.int (nI y)), x5, x6] [] X r J (Rp none (fun Y => Kp I Y ∧ encX Y (ouT (Vt I b hn s N sn) (laN I b) yn)) r J) := by
  have h8 : yn ≤ 8 := h.1.2.2.1
  have hs7 : sn ≤ 7 := h.2.1.2.2.2.1
  have hb28 := sh_L1 h.1.1
  intro f
  induction f with
  | zero =>
    intro y X x5 x6 hyk hX hE
    have hRX := RelL_k hX hb28 h
    have ey : X b 1 = nI yn := hRX.1.2.1
    refine x_iload (q := 11) dX2_choose_9 rfl rfl ?_
    refine x_aload_n (q := 12) dX2_choose_11 rfl rfl ?_
    refine q_gi (K := 1) (q := 15) dX2_choose_12 rfl cl_5 (by decide) tw_171 h.1.1 rfl ?_
    refine x_icmp_ge (t := 145) (q := 18) dX2_choose_15 (by decide) rfl (fun c15 => ?_) (fun c15 => absurd c15 (fun q => q (by rw [ey]; exact nI_le (by omega) (by omega))))
    refine q_vret dX2_choose_145 rfl ?_
    rw [show y = yn by omega] at hE
    exact ⟨rfl, ⟨hX, hE⟩, rfl, rfl⟩
  | succ f ih =>
    intro y X x5 x6 hyk hX hE
    have hRX := RelL_k hX hb28 h
    have ey : X b 1 = nI yn := hRX.1.2.1
    refine x_iload (q := 11) dX2_choose_9 rfl rfl ?_
    refine x_aload_n (q := 12) dX2_choose_11 rfl rfl ?_
    refine q_gi (K := 1) (q := 15) dX2_choose_12 rfl cl_5 (by decide) tw_171 h.1.1 rfl ?_
    refine x_icmp_ge (t := 145) (q := 18) dX2_choose_15 (by decide) rfl (fun c15 => absurd c15 (by rw [ey]; exact nI_ge (by omega) (by omega))) (fun c15 => ?_)
    refine x_iconst (0) (q := 19) dX2_choose_18 rfl (by decide) ?_
    refine x_istore (L2 := [some (.ref 88), some (.ref b), some (.int (nI s)), some (.int (nI N)), some (.int (nI y)), some (.int 0), x6]) (q := 21) dX2_choose_19 rfl (by decide) rfl rfl ?_
    have hy : y < yn := by omega
    refine l_ch1 h hs hN r J hy (ts := (ouT (Vt I b hn s N sn) (laN I b) y)) _ (fun Z z5 z6 hZ => ?_) sn 0 X _ (by omega) ⟨hX, hE, fun q hq => absurd hq (by omega)⟩
    refine x_iconst (0) (q := 76) dX2_choose_75 rfl (by decide) ?_
    refine x_istore (L2 := [some (.ref 88), some (.ref b), some (.int (nI s)), some (.int (nI N)), some (.int (nI y)), some (.int 0), z6]) (q := 78) dX2_choose_76 rfl (by decide) rfl rfl ?_
    refine l_ch2 h hs hN r J hy _ (fun W w5 w6 hW eW => ?_) (laN I b y) 0 Z _ (by omega) hZ
    obtain ⟨v31, ev31⟩ : ∃ y_ : Int32, y_ = (nI y) + 1 := ⟨_, rfl⟩
    refine x_iinc (v := v31) (L2 := [some (.ref 88), some (.ref b), some (.int (nI s)), some (.int (nI N)), some (.int v31), w5, w6]) (q := 142) dX2_choose_139 rfl (by decide) rfl rfl (by rw [ev31]; rfl) rfl ?_
    refine x_goto (t := 9) dX2_choose_142 (by decide) ?_
    rw [show v31 = nI (y + 1) by rw [ev31, nI_p1]]
    exact ih (y + 1) W _ _ (by omega) hW eW
set_option maxRecDepth 100000 in
theorem c_choose {I : MI} {b yn wn hn sn st : Nat} (h : RelL I b yn wn hn sn st) {s N : Nat} (hs : s ≤ 72) (hN : N < 1000) (r : MR) (J : MJ) : Cq yX2_choose MX2_choose [.ref 88, .ref b, .int (nI s), .int (nI N)] I r J (Rp none (fun Y => Kp I Y ∧ encX Y (ouT (Vt I b hn s N sn) (laN I b) yn)) r J) := by
  have h8 : yn ≤ 8 := h.1.2.2.1
  have hs7 : sn ≤ 7 := h.2.1.2.2.2.1
  have hb28 := sh_L1 h.1.1
  refine cq_of [some (.ref 88), some (.ref b), some (.int (nI s)), some (.int (nI N)), none, none, none] 3 (by decide +kernel) rfl rfl (Nat.le_of_ble_eq_true rfl) rfl ?_
  refine x_aload_n (q := 1) dX2_choose_0 rfl rfl ?_
  refine x_bipush (8) (q := 3) dX2_choose_1 rfl (by decide) ?_
  refine q_pi (K := 8) (q := 6) dX2_choose_3 rfl cl_2 (by decide) tw_544 rfl rfl rfl rfl (fun I1 eI1 => ?_)
  refine x_iconst (0) (q := 7) dX2_choose_6 rfl (by decide) ?_
  refine x_istore (L2 := [some (.ref 88), some (.ref b), some (.int (nI s)), some (.int (nI N)), some (.int 0), none, none]) (q := 9) dX2_choose_7 rfl (by decide) rfl rfl ?_
  exact l_ch h hs hN r J yn 0 I1 _ _ (by omega) (by rw [eI1]; exact Kp_up (by unfold scr; omega)) (show I1 88 8 = 8 by rw [eI1, upq])
def tlV (st : TS) (w : Int32) : Int32 := match st with
  | none => -1
  | some (a, c, v) => if w = 0 then nI a else if w = 1 then nI c else nI v
def tlOk (sp w : Int32) (L : Nat) : Prop := (0 ≤ sp ∧ sp ≤ 72) ∧ (0 ≤ w ∧ w ≤ 2) ∧ ¬ L = 0
set_option maxRecDepth 100000 in
theorem c_Xtells_g {I : MI} {b yn wn hn sn st : Nat} {r : MR} (J : MJ) (hr : RefOk r b) (h : RelL I b yn wn hn sn st) {gn : Nat} (g1 : gn ≤ 30) (g2 : I 88 3 = nI gn) (g4 : GlA I b yn hn sn gn) {s : Nat} (hs : s ≤ 72) {w k : Int32} (hw : 0 ≤ w ∧ w ≤ 2) (h0 : ¬ lftN I b hn sn gn k = 0) (hy1 : 1 ≤ yn) : Cq yX11_tells MX11_tells [.ref 0, .int (nI s), .int w, .int k] I r J (Rk (tlV (ouT (Vt I b hn s (lftN I b hn sn gn k) sn) (laN I b) yn) w) I r J) := by
  have hb28 := (refs_L hr).2
  have h8 : yn ≤ 8 := h.1.2.2.1
  have hs7 : sn ≤ 7 := h.2.1.2.2.2.1
  have hlt := lftN_lt (I := I) (b := b) (hn := hn) (gn := gn) (k := k) hs7
  refine cq_of [some (.ref 0), some (.int (nI s)), some (.int w), some (.int k), none] 1 (by decide +kernel) rfl rfl (Nat.le_of_ble_eq_true rfl) rfl ?_
  refine x_aload_n (q := 1) dX11_tells_0 rfl rfl ?_
  refine q_gr (K := 10) (b := 88) (q := 4) dX11_tells_1 rfl cl_11 (by decide) tw_577 rfl rfl rfl ?_
  refine x_iload_n (q := 5) dX11_tells_4 rfl rfl ?_
  refine x_aload_n (q := 6) dX11_tells_5 rfl rfl ?_
  refine q_gr (K := 2) (b := b) (q := 9) dX11_tells_6 rfl cl_11 (by decide) tw_569 rfl rfl (by rw [← hr.1]; rfl) ?_
  refine q_callV (ci := 2) (N := 9) (T := TX2) (As := [.int k, .ref b]) (rest := []) (q := 12) dX11_tells_9 rfl okX2_leftAt tw_886 rfl rfl (k_left r J h g1 g2 g4 k) rfl rfl (Nat.le_of_ble_eq_true rfl) ⟨by decide, by decide⟩ ⟨rfl, rfl⟩ (fun rv_ I_ r_ J_ hv_ => ?_)
  obtain ⟨a1_, a2_, a3_, a4_⟩ := hv_
  rw [a1_, a2_, a3_, a4_]
  show Wq MX11_tells 12 [some (.ref 0), some (.int (nI s)), some (.int w), some (.int k), none] [.int (nI (lftN I b hn sn gn k))] I r J _
  refine x_istore (L2 := [some (.ref 0), some (.int (nI s)), some (.int w), some (.int k), some (.int (nI (lftN I b hn sn gn k)))]) (q := 14) dX11_tells_12 rfl (by decide) rfl rfl ?_
  refine x_iload_n (q := 15) dX11_tells_14 rfl rfl ?_
  refine x_if_lt (t := 48) (q := 18) dX11_tells_15 (by decide) rfl (fun c15 => absurd c15 (nI_pos (by omega))) (fun c15 => ?_)
  refine x_iload_n (q := 19) dX11_tells_18 rfl rfl ?_
  refine x_bipush (72) (q := 21) dX11_tells_19 rfl (by decide) ?_
  refine x_icmp_gt (t := 48) (q := 24) dX11_tells_21 (by decide) rfl (fun c21 => absurd c21 (fun q => absurd ((nI_ltI (a := 72) (by omega) (by omega)).mp q) (by omega))) (fun c21 => ?_)
  refine x_iload_n (q := 25) dX11_tells_24 rfl rfl ?_
  refine x_if_lt (t := 48) (q := 28) dX11_tells_25 (by decide) rfl (fun c25 => absurd c25 (Int32.not_lt.mpr hw.1)) (fun c25 => ?_)
  refine x_iload_n (q := 29) dX11_tells_28 rfl rfl ?_
  refine x_iconst (2) (q := 30) dX11_tells_29 rfl (by decide) ?_
  refine x_icmp_gt (t := 48) (q := 33) dX11_tells_30 (by decide) rfl (fun c30 => absurd c30 (Int32.not_lt.mpr hw.2)) (fun c30 => ?_)
  refine x_iload (q := 35) dX11_tells_33 rfl rfl ?_
  refine x_if_eq (t := 48) (q := 38) dX11_tells_35 (by decide) rfl (fun c35 => absurd c35 (nI_ne0 (by omega) (by omega))) (fun c35 => ?_)
  refine x_aload_n (q := 39) dX11_tells_38 rfl rfl ?_
  refine q_gr (K := 2) (b := b) (q := 42) dX11_tells_39 rfl cl_11 (by decide) tw_569 rfl rfl (by rw [← hr.1]; rfl) ?_
  refine q_gi (K := 1) (q := 45) dX11_tells_42 rfl cl_5 (by decide) tw_169 h.1.1 rfl ?_
  refine x_if_ne (t := 50) (q := 48) dX11_tells_45 (by decide) rfl (fun c45 => ?_) (fun c45 => absurd c45 (by rw [h.1.2.1]; exact nI_ne0 (by omega) (by omega)))
  refine x_aload_n (q := 51) dX11_tells_50 rfl rfl ?_
  refine q_gr (K := 10) (b := 88) (q := 54) dX11_tells_51 rfl cl_11 (by decide) tw_577 rfl rfl rfl ?_
  refine x_aload_n (q := 55) dX11_tells_54 rfl rfl ?_
  refine q_gr (K := 2) (b := b) (q := 58) dX11_tells_55 rfl cl_11 (by decide) tw_569 rfl rfl (by rw [← hr.1]; rfl) ?_
  refine x_iload_n (q := 59) dX11_tells_58 rfl rfl ?_
  refine x_iload (q := 61) dX11_tells_59 rfl rfl ?_
  refine q_callV (ci := 2) (N := 9) (T := TX2) (As := [.ref b, .int (nI s), .int (nI (lftN I b hn sn gn k))]) (rest := []) (q := 64) dX11_tells_61 rfl okX2_choose tw_1037 rfl rfl (c_choose h hs (N := (lftN I b hn sn gn k)) (by omega) r J) rfl rfl (Nat.le_of_ble_eq_true rfl) ⟨by decide, by decide⟩ ⟨rfl, rfl⟩ (fun rv_ Y r_ J_ hv_ => ?_)
  obtain ⟨a1_, ⟨hK, hE⟩, a3_, a4_⟩ := hv_
  rw [a1_, a3_, a4_]
  show Wq MX11_tells 64 [some (.ref 0), some (.int (nI s)), some (.int w), some (.int k), some (.int (nI (lftN I b hn sn gn k)))] [] Y r J _
  refine x_iload_n (q := 65) dX11_tells_64 rfl rfl ?_
  refine x_if_ne (t := 76) (q := 68) dX11_tells_65 (by decide) rfl (fun c65 => ?_) (fun c65 => ?_)
  · refine x_iload_n (q := 77) dX11_tells_76 rfl rfl ?_
    refine x_iconst (1) (q := 78) dX11_tells_77 rfl (by decide) ?_
    refine x_icmp_ne (t := 91) (q := 81) dX11_tells_78 (by decide) rfl (fun c78 => ?_) (fun c78 => ?_)
    · refine x_aload_n (q := 92) dX11_tells_91 rfl rfl ?_
      refine q_gr (K := 10) (b := 88) (q := 95) dX11_tells_92 rfl cl_11 (by decide) tw_577 rfl rfl rfl ?_
      refine q_gi (K := 8) (q := 98) dX11_tells_95 rfl cl_2 (by decide) tw_545 rfl rfl ?_
      refine q_iret dX11_tells_98 rfl ?_
      have hns : ¬ (ouT (Vt I b hn s (lftN I b hn sn gn k) sn) (laN I b) yn) = none := ouT_some (by omega) (fun y hy => (la5 h.1 hy).1)
      cases hst : (ouT (Vt I b hn s (lftN I b hn sn gn k) sn) (laN I b) yn) with
      | none => exact absurd hst hns
      | some p =>
        obtain ⟨a, c, u⟩ := p
        rw [hst] at hE
        refine ⟨?_, hK, rfl, rfl⟩
        show _ = some (Value.int (if w = 0 then nI a else if w = 1 then nI c else nI u))
        first | rw [hE.1, if_pos c65] | rw [hE.2.1, if_neg c65, if_pos c78] | rw [hE.2.2.1, if_neg c65, if_neg c78] | rw [hE.2.1, if_neg c65, if_pos (Classical.not_not.mp c78)]
    · refine x_aload_n (q := 82) dX11_tells_81 rfl rfl ?_
      refine q_gr (K := 10) (b := 88) (q := 85) dX11_tells_82 rfl cl_11 (by decide) tw_577 rfl rfl rfl ?_
      refine q_gi (K := 7) (q := 88) dX11_tells_85 rfl cl_2 (by decide) tw_543 rfl rfl ?_
      refine x_goto (t := 98) dX11_tells_88 (by decide) ?_
      refine q_iret dX11_tells_98 rfl ?_
      have hns : ¬ (ouT (Vt I b hn s (lftN I b hn sn gn k) sn) (laN I b) yn) = none := ouT_some (by omega) (fun y hy => (la5 h.1 hy).1)
      cases hst : (ouT (Vt I b hn s (lftN I b hn sn gn k) sn) (laN I b) yn) with
      | none => exact absurd hst hns
      | some p =>
        obtain ⟨a, c, u⟩ := p
        rw [hst] at hE
        refine ⟨?_, hK, rfl, rfl⟩
        show _ = some (Value.int (if w = 0 then nI a else if w = 1 then nI c else nI u))
        first | rw [hE.1, if_pos c65] | rw [hE.2.1, if_neg c65, if_pos c78] | rw [hE.2.2.1, if_neg c65, if_neg c78] | rw [hE.2.1, if_neg c65, if_pos (Classical.not_not.mp c78)]
  · refine x_aload_n (q := 69) dX11_tells_68 rfl rfl ?_
    refine q_gr (K := 10) (b := 88) (q := 72) dX11_tells_69 rfl cl_11 (by decide) tw_577 rfl rfl rfl ?_
    refine q_gi (K := 6) (q := 75) dX11_tells_72 rfl cl_2 (by decide) tw_541 rfl rfl ?_
    refine q_iret dX11_tells_75 rfl ?_
    have hns : ¬ (ouT (Vt I b hn s (lftN I b hn sn gn k) sn) (laN I b) yn) = none := ouT_some (by omega) (fun y hy => (la5 h.1 hy).1)
    cases hst : (ouT (Vt I b hn s (lftN I b hn sn gn k) sn) (laN I b) yn) with
    | none => exact absurd hst hns
    | some p =>
      obtain ⟨a, c, u⟩ := p
      rw [hst] at hE
      refine ⟨?_, hK, rfl, rfl⟩
      show _ = some (Value.int (if w = 0 then nI a else if w = 1 then nI c else nI u))
      first | rw [hE.1, if_pos c65] | rw [hE.2.1, if_neg c65, if_pos c78] | rw [hE.2.2.1, if_neg c65, if_neg c78] | rw [hE.2.1, if_neg c65, if_pos (Classical.not_not.mp c78)]
set_option maxRecDepth 100000 in
theorem c_Xtells_0 {I : MI} {b yn wn hn sn st : Nat} {r : MR} (J : MJ) (hr : RefOk r b) (h : RelL I b yn wn hn sn st) {gn : Nat} (g1 : gn ≤ 30) (g2 : I 88 3 = nI gn) (g4 : GlA I b yn hn sn gn) {s : Nat} (hs : s ≤ 72) {w k : Int32} (hw : 0 ≤ w ∧ w ≤ 2) (h0 : ¬ lftN I b hn sn gn k = 0) (hy0 : yn = 0) : Cq yX11_tells MX11_tells [.ref 0, .int (nI s), .int w, .int k] I r J (Rk (-1) I r J) := by
  have hb28 := (refs_L hr).2
  have h8 : yn ≤ 8 := h.1.2.2.1
  have hs7 : sn ≤ 7 := h.2.1.2.2.2.1
  have hlt := lftN_lt (I := I) (b := b) (hn := hn) (gn := gn) (k := k) hs7
  refine cq_of [some (.ref 0), some (.int (nI s)), some (.int w), some (.int k), none] 1 (by decide +kernel) rfl rfl (Nat.le_of_ble_eq_true rfl) rfl ?_
  refine x_aload_n (q := 1) dX11_tells_0 rfl rfl ?_
  refine q_gr (K := 10) (b := 88) (q := 4) dX11_tells_1 rfl cl_11 (by decide) tw_577 rfl rfl rfl ?_
  refine x_iload_n (q := 5) dX11_tells_4 rfl rfl ?_
  refine x_aload_n (q := 6) dX11_tells_5 rfl rfl ?_
  refine q_gr (K := 2) (b := b) (q := 9) dX11_tells_6 rfl cl_11 (by decide) tw_569 rfl rfl (by rw [← hr.1]; rfl) ?_
  refine q_callV (ci := 2) (N := 9) (T := TX2) (As := [.int k, .ref b]) (rest := []) (q := 12) dX11_tells_9 rfl okX2_leftAt tw_886 rfl rfl (k_left r J h g1 g2 g4 k) rfl rfl (Nat.le_of_ble_eq_true rfl) ⟨by decide, by decide⟩ ⟨rfl, rfl⟩ (fun rv_ I_ r_ J_ hv_ => ?_)
  obtain ⟨a1_, a2_, a3_, a4_⟩ := hv_
  rw [a1_, a2_, a3_, a4_]
  show Wq MX11_tells 12 [some (.ref 0), some (.int (nI s)), some (.int w), some (.int k), none] [.int (nI (lftN I b hn sn gn k))] I r J _
  refine x_istore (L2 := [some (.ref 0), some (.int (nI s)), some (.int w), some (.int k), some (.int (nI (lftN I b hn sn gn k)))]) (q := 14) dX11_tells_12 rfl (by decide) rfl rfl ?_
  refine x_iload_n (q := 15) dX11_tells_14 rfl rfl ?_
  refine x_if_lt (t := 48) (q := 18) dX11_tells_15 (by decide) rfl (fun c15 => absurd c15 (nI_pos (by omega))) (fun c15 => ?_)
  refine x_iload_n (q := 19) dX11_tells_18 rfl rfl ?_
  refine x_bipush (72) (q := 21) dX11_tells_19 rfl (by decide) ?_
  refine x_icmp_gt (t := 48) (q := 24) dX11_tells_21 (by decide) rfl (fun c21 => absurd c21 (fun q => absurd ((nI_ltI (a := 72) (by omega) (by omega)).mp q) (by omega))) (fun c21 => ?_)
  refine x_iload_n (q := 25) dX11_tells_24 rfl rfl ?_
  refine x_if_lt (t := 48) (q := 28) dX11_tells_25 (by decide) rfl (fun c25 => absurd c25 (Int32.not_lt.mpr hw.1)) (fun c25 => ?_)
  refine x_iload_n (q := 29) dX11_tells_28 rfl rfl ?_
  refine x_iconst (2) (q := 30) dX11_tells_29 rfl (by decide) ?_
  refine x_icmp_gt (t := 48) (q := 33) dX11_tells_30 (by decide) rfl (fun c30 => absurd c30 (Int32.not_lt.mpr hw.2)) (fun c30 => ?_)
  refine x_iload (q := 35) dX11_tells_33 rfl rfl ?_
  refine x_if_eq (t := 48) (q := 38) dX11_tells_35 (by decide) rfl (fun c35 => absurd c35 (nI_ne0 (by omega) (by omega))) (fun c35 => ?_)
  refine x_aload_n (q := 39) dX11_tells_38 rfl rfl ?_
  refine q_gr (K := 2) (b := b) (q := 42) dX11_tells_39 rfl cl_11 (by decide) tw_569 rfl rfl (by rw [← hr.1]; rfl) ?_
  refine q_gi (K := 1) (q := 45) dX11_tells_42 rfl cl_5 (by decide) tw_169 h.1.1 rfl ?_
  refine x_if_ne (t := 50) (q := 48) dX11_tells_45 (by decide) rfl (fun c45 => absurd c45 (fun q => q (by rw [h.1.2.1, hy0]; rfl))) (fun c45 => ?_)
  refine x_iconst (-1) (q := 49) dX11_tells_48 rfl (by decide) ?_
  refine q_iret dX11_tells_49 rfl ?_
  exact Rk_same
set_option maxRecDepth 100000 in
theorem c_Xtells_1 {I : MI} {b yn wn hn sn st : Nat} {r : MR} (J : MJ) (hr : RefOk r b) (h : RelL I b yn wn hn sn st) {gn : Nat} (g1 : gn ≤ 30) (g2 : I 88 3 = nI gn) (g4 : GlA I b yn hn sn gn) {sp w k : Int32} (hno : ¬ tlOk sp w (lftN I b hn sn gn k)) : Cq yX11_tells MX11_tells [.ref 0, .int sp, .int w, .int k] I r J (Rk (-1) I r J) := by
  have hb28 := (refs_L hr).2
  have h8 : yn ≤ 8 := h.1.2.2.1
  have hs7 : sn ≤ 7 := h.2.1.2.2.2.1
  have hlt := lftN_lt (I := I) (b := b) (hn := hn) (gn := gn) (k := k) hs7
  refine cq_of [some (.ref 0), some (.int sp), some (.int w), some (.int k), none] 1 (by decide +kernel) rfl rfl (Nat.le_of_ble_eq_true rfl) rfl ?_
  refine x_aload_n (q := 1) dX11_tells_0 rfl rfl ?_
  refine q_gr (K := 10) (b := 88) (q := 4) dX11_tells_1 rfl cl_11 (by decide) tw_577 rfl rfl rfl ?_
  refine x_iload_n (q := 5) dX11_tells_4 rfl rfl ?_
  refine x_aload_n (q := 6) dX11_tells_5 rfl rfl ?_
  refine q_gr (K := 2) (b := b) (q := 9) dX11_tells_6 rfl cl_11 (by decide) tw_569 rfl rfl (by rw [← hr.1]; rfl) ?_
  refine q_callV (ci := 2) (N := 9) (T := TX2) (As := [.int k, .ref b]) (rest := []) (q := 12) dX11_tells_9 rfl okX2_leftAt tw_886 rfl rfl (k_left r J h g1 g2 g4 k) rfl rfl (Nat.le_of_ble_eq_true rfl) ⟨by decide, by decide⟩ ⟨rfl, rfl⟩ (fun rv_ I_ r_ J_ hv_ => ?_)
  obtain ⟨a1_, a2_, a3_, a4_⟩ := hv_
  rw [a1_, a2_, a3_, a4_]
  show Wq MX11_tells 12 [some (.ref 0), some (.int sp), some (.int w), some (.int k), none] [.int (nI (lftN I b hn sn gn k))] I r J _
  refine x_istore (L2 := [some (.ref 0), some (.int sp), some (.int w), some (.int k), some (.int (nI (lftN I b hn sn gn k)))]) (q := 14) dX11_tells_12 rfl (by decide) rfl rfl ?_
  refine x_iload_n (q := 15) dX11_tells_14 rfl rfl ?_
  refine x_if_lt (t := 48) (q := 18) dX11_tells_15 (by decide) rfl (fun c15 => ?_) (fun c15 => ?_)
  · refine x_iconst (-1) (q := 49) dX11_tells_48 rfl (by decide) ?_
    refine q_iret dX11_tells_49 rfl ?_
    exact Rk_same
  · refine x_iload_n (q := 19) dX11_tells_18 rfl rfl ?_
    refine x_bipush (72) (q := 21) dX11_tells_19 rfl (by decide) ?_
    refine x_icmp_gt (t := 48) (q := 24) dX11_tells_21 (by decide) rfl (fun c21 => ?_) (fun c21 => ?_)
    · refine x_iconst (-1) (q := 49) dX11_tells_48 rfl (by decide) ?_
      refine q_iret dX11_tells_49 rfl ?_
      exact Rk_same
    · refine x_iload_n (q := 25) dX11_tells_24 rfl rfl ?_
      refine x_if_lt (t := 48) (q := 28) dX11_tells_25 (by decide) rfl (fun c25 => ?_) (fun c25 => ?_)
      · refine x_iconst (-1) (q := 49) dX11_tells_48 rfl (by decide) ?_
        refine q_iret dX11_tells_49 rfl ?_
        exact Rk_same
      · refine x_iload_n (q := 29) dX11_tells_28 rfl rfl ?_
        refine x_iconst (2) (q := 30) dX11_tells_29 rfl (by decide) ?_
        refine x_icmp_gt (t := 48) (q := 33) dX11_tells_30 (by decide) rfl (fun c30 => ?_) (fun c30 => ?_)
        · refine x_iconst (-1) (q := 49) dX11_tells_48 rfl (by decide) ?_
          refine q_iret dX11_tells_49 rfl ?_
          exact Rk_same
        · refine x_iload (q := 35) dX11_tells_33 rfl rfl ?_
          refine x_if_eq (t := 48) (q := 38) dX11_tells_35 (by decide) rfl (fun c35 => ?_) (fun c35 => ?_)
          · refine x_iconst (-1) (q := 49) dX11_tells_48 rfl (by decide) ?_
            refine q_iret dX11_tells_49 rfl ?_
            exact Rk_same
          · exact absurd ⟨⟨Int32.not_lt.mp c15, Int32.not_lt.mp c21⟩, ⟨Int32.not_lt.mp c25, Int32.not_lt.mp c30⟩, fun z => c35 (by rw [z]; rfl)⟩ hno
