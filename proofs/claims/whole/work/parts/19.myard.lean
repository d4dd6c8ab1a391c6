theorem nIk (a : Nat) (k : Nat) : nI a + OfNat.ofNat k = nI (a + k) := nI_add a k
theorem nI_p0 (a : Nat) : nI a + 0 = nI a := nI_add a 0
theorem nI_p1 (a : Nat) : nI a + 1 = nI (a + 1) := nI_add a 1
theorem nI_p2 (a : Nat) : nI a + 2 = nI (a + 2) := nI_add a 2
theorem nI_p3 (a : Nat) : nI a + 3 = nI (a + 3) := nI_add a 3
theorem nI_p4 (a : Nat) : nI a + 4 = nI (a + 4) := nI_add a 4
theorem nI_p5 (a : Nat) : nI a + 5 = nI (a + 5) := nI_add a 5
theorem lc1 : (1 : Int32).toNatClampNeg = 1 := by decide
theorem lc2 : (2 : Int32).toNatClampNeg = 2 := by decide
theorem lc3 : (3 : Int32).toNatClampNeg = 3 := by decide
theorem lc4 : (4 : Int32).toNatClampNeg = 4 := by decide
theorem mPut_congr {I : MI} {G G' : GT} (h : ∀ j, j < 9 → G j = G' j) : mPut I G = mPut I G' := by
  funext b j
  unfold mPut
  by_cases h1 : b = 125 ∧ j < 5
  · rw [if_pos h1, if_pos h1, h j (by omega)]
  · rw [if_neg h1, if_neg h1]
    by_cases h2 : b = 100 ∧ 49 ≤ j ∧ j < 53
    · rw [if_pos h2, if_pos h2, h (j - 44) (by omega)]
    · rw [if_neg h2, if_neg h2]
/-- what the model has of a yard -/
def yGet (I : MI) (y : Nat) : GT := fun j => if j < 5 then I 126 (5 * y + j) else I 127 (4 * y + (j - 5))
def yPut (I : MI) (y : Nat) (G : GT) : MI := fun b j => if b = 126 ∧ 5 * y ≤ j ∧ j < 5 * y + 5 then G (j - 5 * y) else if b = 127 ∧ 4 * y ≤ j ∧ j < 4 * y + 4 then G (j - 4 * y + 5) else I b j
theorem lt_9 {j : Nat} (h : j < 9) : j = 0 ∨ j = 1 ∨ j = 2 ∨ j = 3 ∨ j = 4 ∨ j = 5 ∨ j = 6 ∨ j = 7 ∨ j = 8 := by omega
set_option maxRecDepth 100000 in
theorem c_bring (y : Nat) (hy : y < 8) (I : MI) (G : GT) (r : MR) (J : MJ) : Cq yX12_bring MX12_bring [.ref 100, .int (nI y)] (mPut I G) r J (Rt none (mPut I (yGet I y)) r J) := by
  refine cq_of [some (.ref 100), some (.int (nI y)), none] 1 (by decide +kernel) rfl rfl (Nat.le_of_ble_eq_true rfl) rfl ?_
  refine x_iconst (0) (q := 1) dX12_bring_0 rfl (by decide) ?_
  refine x_istore_n (L2 := [some (.ref 100), some (.int (nI y)), some (.int 0)]) (q := 2) dX12_bring_1 rfl (by decide) rfl rfl ?_
  refine x_iload_n (q := 3) dX12_bring_2 rfl rfl ?_
  refine x_iconst (5) (q := 4) dX12_bring_3 rfl (by decide) ?_
  refine x_icmp_ge (t := 29) (q := 7) dX12_bring_4 (by decide) rfl (fun c4 => absurd c4 (by decide)) (fun c4 => ?_)
  refine x_aload_n (q := 8) dX12_bring_7 rfl rfl ?_
  refine q_gr (K := 48) (b := 125) (q := 11) dX12_bring_8 rfl cl_12 (by decide) tw_1130 rfl rfl rfl ?_
  refine x_iload_n (q := 12) dX12_bring_11 rfl rfl ?_
  refine x_aload_n (q := 13) dX12_bring_12 rfl rfl ?_
  refine q_gr (K := 53) (b := 126) (q := 16) dX12_bring_13 rfl cl_12 (by decide) tw_1135 rfl rfl rfl ?_
  refine x_iconst (5) (q := 17) dX12_bring_16 rfl (by decide) ?_
  refine x_iload_n (q := 18) dX12_bring_17 rfl rfl ?_
  refine x_imul (q := 19) dX12_bring_18 rfl ?_
  refine x_iload_n (q := 20) dX12_bring_19 rfl rfl ?_
  refine x_iadd (q := 21) dX12_bring_20 rfl ?_
  refine q_iald (q := 22) dX12_bring_21 rfl rfl (by simp only [nI5, nI4, nI_p0, nI_p1, nI_p2, nI_p3, nI_p4]; exact vp_in_nI (by omega) (by decide)) ?_
  refine q_iast (q := 23) dX12_bring_22 rfl rfl (vin (by decide)) (fun I1 eI1 => ?_)
  refine x_iinc (v := 1) (L2 := [some (.ref 100), some (.int (nI y)), some (.int 1)]) (q := 26) dX12_bring_23 rfl (by decide) rfl rfl (by decide) rfl ?_
  refine x_goto (t := 2) dX12_bring_26 (by decide) ?_
  refine x_iload_n (q := 3) dX12_bring_2 rfl rfl ?_
  refine x_iconst (5) (q := 4) dX12_bring_3 rfl (by decide) ?_
  refine x_icmp_ge (t := 29) (q := 7) dX12_bring_4 (by decide) rfl (fun c4 => absurd c4 (by decide)) (fun c4 => ?_)
  refine x_aload_n (q := 8) dX12_bring_7 rfl rfl ?_
  refine q_gr (K := 48) (b := 125) (q := 11) dX12_bring_8 rfl cl_12 (by decide) tw_1130 rfl rfl rfl ?_
  refine x_iload_n (q := 12) dX12_bring_11 rfl rfl ?_
  refine x_aload_n (q := 13) dX12_bring_12 rfl rfl ?_
  refine q_gr (K := 53) (b := 126) (q := 16) dX12_bring_13 rfl cl_12 (by decide) tw_1135 rfl rfl rfl ?_
  refine x_iconst (5) (q := 17) dX12_bring_16 rfl (by decide) ?_
  refine x_iload_n (q := 18) dX12_bring_17 rfl rfl ?_
  refine x_imul (q := 19) dX12_bring_18 rfl ?_
  refine x_iload_n (q := 20) dX12_bring_19 rfl rfl ?_
  refine x_iadd (q := 21) dX12_bring_20 rfl ?_
  refine q_iald (q := 22) dX12_bring_21 rfl rfl (by simp only [nI5, nI4, nI_p0, nI_p1, nI_p2, nI_p3, nI_p4]; exact vp_in_nI (by omega) (by decide)) ?_
  refine q_iast (q := 23) dX12_bring_22 rfl rfl (vin (by decide)) (fun I2 eI2 => ?_)
  refine x_iinc (v := 2) (L2 := [some (.ref 100), some (.int (nI y)), some (.int 2)]) (q := 26) dX12_bring_23 rfl (by decide) rfl rfl (by decide) rfl ?_
  refine x_goto (t := 2) dX12_bring_26 (by decide) ?_
  refine x_iload_n (q := 3) dX12_bring_2 rfl rfl ?_
  refine x_iconst (5) (q := 4) dX12_bring_3 rfl (by decide) ?_
  refine x_icmp_ge (t := 29) (q := 7) dX12_bring_4 (by decide) rfl (fun c4 => absurd c4 (by decide)) (fun c4 => ?_)
  refine x_aload_n (q := 8) dX12_bring_7 rfl rfl ?_
  refine q_gr (K := 48) (b := 125) (q := 11) dX12_bring_8 rfl cl_12 (by decide) tw_1130 rfl rfl rfl ?_
  refine x_iload_n (q := 12) dX12_bring_11 rfl rfl ?_
  refine x_aload_n (q := 13) dX12_bring_12 rfl rfl ?_
  refine q_gr (K := 53) (b := 126) (q := 16) dX12_bring_13 rfl cl_12 (by decide) tw_1135 rfl rfl rfl ?_
  refine x_iconst (5) (q := 17) dX12_bring_16 rfl (by decide) ?_
  refine x_iload_n (q := 18) dX12_bring_17 rfl rfl ?_
  refine x_imul (q := 19) dX12_bring_18 rfl ?_
  refine x_iload_n (q := 20) dX12_bring_19 rfl rfl ?_
  refine x_iadd (q := 21) dX12_bring_20 rfl ?_
  refine q_iald (q := 22) dX12_bring_21 rfl rfl (by simp only [nI5, nI4, nI_p0, nI_p1, nI_p2, nI_p3, nI_p4]; exact vp_in_nI (by omega) (by decide)) ?_
  refine q_iast (q := 23) dX12_bring_22 rfl rfl (vin (by decide)) (fun I3 eI3 => ?_)
  refine x_iinc (v := 3) (L2 := [some (.ref 100), some (.int (nI y)), some (.int 3)]) (q := 26) dX12_bring_23 rfl (by decide) rfl rfl (by decide) rfl ?_
  refine x_goto (t := 2) dX12_bring_26 (by decide) ?_
  refine x_iload_n (q := 3) dX12_bring_2 rfl rfl ?_
  refine x_iconst (5) (q := 4) dX12_bring_3 rfl (by decide) ?_
  refine x_icmp_ge (t := 29) (q := 7) dX12_bring_4 (by decide) rfl (fun c4 => absurd c4 (by decide)) (fun c4 => ?_)
  refine x_aload_n (q := 8) dX12_bring_7 rfl rfl ?_
  refine q_gr (K := 48) (b := 125) (q := 11) dX12_bring_8 rfl cl_12 (by decide) tw_1130 rfl rfl rfl ?_
  refine x_iload_n (q := 12) dX12_bring_11 rfl rfl ?_
  refine x_aload_n (q := 13) dX12_bring_12 rfl rfl ?_
  refine q_gr (K := 53) (b := 126) (q := 16) dX12_bring_13 rfl cl_12 (by decide) tw_1135 rfl rfl rfl ?_
  refine x_iconst (5) (q := 17) dX12_bring_16 rfl (by decide) ?_
  refine x_iload_n (q := 18) dX12_bring_17 rfl rfl ?_
  refine x_imul (q := 19) dX12_bring_18 rfl ?_
  refine x_iload_n (q := 20) dX12_bring_19 rfl rfl ?_
  refine x_iadd (q := 21) dX12_bring_20 rfl ?_
  refine q_iald (q := 22) dX12_bring_21 rfl rfl (by simp only [nI5, nI4, nI_p0, nI_p1, nI_p2, nI_p3, nI_p4]; exact vp_in_nI (by omega) (by decide)) ?_
  refine q_iast (q := 23) dX12_bring_22 rfl rfl (vin (by decide)) (fun I4 eI4 => ?_)
  refine x_iinc (v := 4) (L2 := [some (.ref 100), some (.int (nI y)), some (.int 4)]) (q := 26) dX12_bring_23 rfl (by decide) rfl rfl (by decide) rfl ?_
  refine x_goto (t := 2) dX12_bring_26 (by decide) ?_
  refine x_iload_n (q := 3) dX12_bring_2 rfl rfl ?_
  refine x_iconst (5) (q := 4) dX12_bring_3 rfl (by decide) ?_
  refine x_icmp_ge (t := 29) (q := 7) dX12_bring_4 (by decide) rfl (fun c4 => absurd c4 (by decide)) (fun c4 => ?_)
  refine x_aload_n (q := 8) dX12_bring_7 rfl rfl ?_
  refine q_gr (K := 48) (b := 125) (q := 11) dX12_bring_8 rfl cl_12 (by decide) tw_1130 rfl rfl rfl ?_
  refine x_iload_n (q := 12) dX12_bring_11 rfl rfl ?_
  refine x_aload_n (q := 13) dX12_bring_12 rfl rfl ?_
  refine q_gr (K := 53) (b := 126) (q := 16) dX12_bring_13 rfl cl_12 (by decide) tw_1135 rfl rfl rfl ?_
  refine x_iconst (5) (q := 17) dX12_bring_16 rfl (by decide) ?_
  refine x_iload_n (q := 18) dX12_bring_17 rfl rfl ?_
  refine x_imul (q := 19) dX12_bring_18 rfl ?_
  refine x_iload_n (q := 20) dX12_bring_19 rfl rfl ?_
  refine x_iadd (q := 21) dX12_bring_20 rfl ?_
  refine q_iald (q := 22) dX12_bring_21 rfl rfl (by simp only [nI5, nI4, nI_p0, nI_p1, nI_p2, nI_p3, nI_p4]; exact vp_in_nI (by omega) (by decide)) ?_
  refine q_iast (q := 23) dX12_bring_22 rfl rfl (vin (by decide)) (fun I5 eI5 => ?_)
  refine x_iinc (v := 5) (L2 := [some (.ref 100), some (.int (nI y)), some (.int 5)]) (q := 26) dX12_bring_23 rfl (by decide) rfl rfl (by decide) rfl ?_
  refine x_goto (t := 2) dX12_bring_26 (by decide) ?_
  refine x_iload_n (q := 3) dX12_bring_2 rfl rfl ?_
  refine x_iconst (5) (q := 4) dX12_bring_3 rfl (by decide) ?_
  refine x_icmp_ge (t := 29) (q := 7) dX12_bring_4 (by decide) rfl (fun c4 => ?_) (fun c4 => absurd c4 (by decide))
  refine x_aload_n (q := 30) dX12_bring_29 rfl rfl ?_
  refine x_aload_n (q := 31) dX12_bring_30 rfl rfl ?_
  refine q_gr (K := 54) (b := 127) (q := 34) dX12_bring_31 rfl cl_12 (by decide) tw_1136 rfl rfl rfl ?_
  refine x_iconst (4) (q := 35) dX12_bring_34 rfl (by decide) ?_
  refine x_iload_n (q := 36) dX12_bring_35 rfl rfl ?_
  refine x_imul (q := 37) dX12_bring_36 rfl ?_
  refine x_iconst (0) (q := 38) dX12_bring_37 rfl (by decide) ?_
  refine x_iadd (q := 39) dX12_bring_38 rfl ?_
  refine q_iald (q := 40) dX12_bring_39 rfl rfl (by simp only [nI5, nI4, nI_p0, nI_p1, nI_p2, nI_p3, nI_p4]; exact vp_in_nI (by omega) (by decide)) ?_
  refine q_pi (K := 49) (q := 43) dX12_bring_40 rfl cl_12 (by decide) tw_1131 rfl rfl rfl rfl (fun I6 eI6 => ?_)
  refine x_aload_n (q := 44) dX12_bring_43 rfl rfl ?_
  refine x_aload_n (q := 45) dX12_bring_44 rfl rfl ?_
  refine q_gr (K := 54) (b := 127) (q := 48) dX12_bring_45 rfl cl_12 (by decide) tw_1136 rfl rfl rfl ?_
  refine x_iconst (4) (q := 49) dX12_bring_48 rfl (by decide) ?_
  refine x_iload_n (q := 50) dX12_bring_49 rfl rfl ?_
  refine x_imul (q := 51) dX12_bring_50 rfl ?_
  refine x_iconst (1) (q := 52) dX12_bring_51 rfl (by decide) ?_
  refine x_iadd (q := 53) dX12_bring_52 rfl ?_
  refine q_iald (q := 54) dX12_bring_53 rfl rfl (by simp only [nI5, nI4, nI_p0, nI_p1, nI_p2, nI_p3, nI_p4]; exact vp_in_nI (by omega) (by decide)) ?_
  refine q_pi (K := 50) (q := 57) dX12_bring_54 rfl cl_12 (by decide) tw_1132 rfl rfl rfl rfl (fun I7 eI7 => ?_)
  refine x_aload_n (q := 58) dX12_bring_57 rfl rfl ?_
  refine x_aload_n (q := 59) dX12_bring_58 rfl rfl ?_
  refine q_gr (K := 54) (b := 127) (q := 62) dX12_bring_59 rfl cl_12 (by decide) tw_1136 rfl rfl rfl ?_
  refine x_iconst (4) (q := 63) dX12_bring_62 rfl (by decide) ?_
  refine x_iload_n (q := 64) dX12_bring_63 rfl rfl ?_
  refine x_imul (q := 65) dX12_bring_64 rfl ?_
  refine x_iconst (2) (q := 66) dX12_bring_65 rfl (by decide) ?_
  refine x_iadd (q := 67) dX12_bring_66 rfl ?_
  refine q_iald (q := 68) dX12_bring_67 rfl rfl (by simp only [nI5, nI4, nI_p0, nI_p1, nI_p2, nI_p3, nI_p4]; exact vp_in_nI (by omega) (by decide)) ?_
  refine q_pi (K := 51) (q := 71) dX12_bring_68 rfl cl_12 (by decide) tw_1133 rfl rfl rfl rfl (fun I8 eI8 => ?_)
  refine x_aload_n (q := 72) dX12_bring_71 rfl rfl ?_
  refine x_aload_n (q := 73) dX12_bring_72 rfl rfl ?_
  refine q_gr (K := 54) (b := 127) (q := 76) dX12_bring_73 rfl cl_12 (by decide) tw_1136 rfl rfl rfl ?_
  refine x_iconst (4) (q := 77) dX12_bring_76 rfl (by decide) ?_
  refine x_iload_n (q := 78) dX12_bring_77 rfl rfl ?_
  refine x_imul (q := 79) dX12_bring_78 rfl ?_
  refine x_iconst (3) (q := 80) dX12_bring_79 rfl (by decide) ?_
  refine x_iadd (q := 81) dX12_bring_80 rfl ?_
  refine q_iald (q := 82) dX12_bring_81 rfl rfl (by simp only [nI5, nI4, nI_p0, nI_p1, nI_p2, nI_p3, nI_p4]; exact vp_in_nI (by omega) (by decide)) ?_
  refine q_pi (K := 52) (q := 85) dX12_bring_82 rfl cl_12 (by decide) tw_1134 rfl rfl rfl rfl (fun I9 eI9 => ?_)
  refine q_vret dX12_bring_85 rfl ?_
  refine ⟨rfl, ?_, rfl, rfl⟩
  have hm : ∀ G b j, b ≠ 125 → b ≠ 100 → mPut I G b j = I b j := fun G b j q1 q2 => mPut_o _ _ _ _ q1 q2
  have hm6 : ∀ G j, mPut I G 126 j = I 126 j := fun G j => hm G 126 j (by decide) (by decide)
  have hm7 : ∀ G j, mPut I G 127 j = I 127 j := fun G j => hm G 127 j (by decide) (by decide)
  have hm8 : ∀ G j, mPut I G 118 j = I 118 j := fun G j => hm G 118 j (by decide) (by decide)
  subst_vars
  simp only [nI5, nI4, nI_p0, nI_p1, nI_p2, nI_p3, nI_p4, nI_p5, lc1, lc2, lc3, lc4, cl_lit0, nI_clamp (show 5 * y < 2 ^ 31 by omega), nI_clamp (show 5 * y + 1 < 2 ^ 31 by omega), nI_clamp (show 5 * y + 2 < 2 ^ 31 by omega), nI_clamp (show 5 * y + 3 < 2 ^ 31 by omega), nI_clamp (show 5 * y + 4 < 2 ^ 31 by omega), nI_clamp (show 4 * y < 2 ^ 31 by omega), nI_clamp (show 4 * y + 1 < 2 ^ 31 by omega), nI_clamp (show 4 * y + 2 < 2 ^ 31 by omega), nI_clamp (show 4 * y + 3 < 2 ^ 31 by omega), mPut_49, mPut_50, mPut_51, mPut_52, mPut_u49, mPut_u50, mPut_u51, mPut_u52, mPut_w0, mPut_u0, cl_lit0, mPut_uw _ _ 1 _ (by decide), mPut_uw _ _ 2 _ (by decide), mPut_uw _ _ 3 _ (by decide), mPut_uw _ _ 4 _ (by decide), mPut_w _ _ 1 (by decide), mPut_w _ _ 2 (by decide), mPut_w _ _ 3 (by decide), mPut_w _ _ 4 (by decide), hm6, hm7, hm8]
  refine mPut_congr (fun j hj => ?_)
  rcases lt_9 hj with rfl | rfl | rfl | rfl | rfl | rfl | rfl | rfl | rfl <;> rfl
def wGet (I : MI) (y : Nat) : GT := fun j => if j < 5 then I 118 (5 * y + j) else 0
set_option maxRecDepth 100000 in
theorem c_beginYard (y : Nat) (hy : y < 8) (I : MI) (G : GT) (r : MR) (J : MJ) : Cq yX12_beginYard MX12_beginYard [.ref 100, .int (nI y)] (mPut I G) r J (Rt none (mPut I (wGet I y)) r J) := by
  refine cq_of [some (.ref 100), some (.int (nI y)), none] 1 (by decide +kernel) rfl rfl (Nat.le_of_ble_eq_true rfl) rfl ?_
  refine x_iconst (0) (q := 1) dX12_beginYard_0 rfl (by decide) ?_
  refine x_istore_n (L2 := [some (.ref 100), some (.int (nI y)), some (.int 0)]) (q := 2) dX12_beginYard_1 rfl (by decide) rfl rfl ?_
  refine x_iload_n (q := 3) dX12_beginYard_2 rfl rfl ?_
  refine x_iconst (5) (q := 4) dX12_beginYard_3 rfl (by decide) ?_
  refine x_icmp_ge (t := 29) (q := 7) dX12_beginYard_4 (by decide) rfl (fun c4 => absurd c4 (by decide)) (fun c4 => ?_)
  refine x_aload_n (q := 8) dX12_beginYard_7 rfl rfl ?_
  refine q_gr (K := 48) (b := 125) (q := 11) dX12_beginYard_8 rfl cl_12 (by decide) tw_1130 rfl rfl rfl ?_
  refine x_iload_n (q := 12) dX12_beginYard_11 rfl rfl ?_
  refine x_aload_n (q := 13) dX12_beginYard_12 rfl rfl ?_
  refine q_gr (K := 26) (b := 118) (q := 16) dX12_beginYard_13 rfl cl_12 (by decide) tw_1108 rfl rfl rfl ?_
  refine x_iconst (5) (q := 17) dX12_beginYard_16 rfl (by decide) ?_
  refine x_iload_n (q := 18) dX12_beginYard_17 rfl rfl ?_
  refine x_imul (q := 19) dX12_beginYard_18 rfl ?_
  refine x_iload_n (q := 20) dX12_beginYard_19 rfl rfl ?_
  refine x_iadd (q := 21) dX12_beginYard_20 rfl ?_
  refine q_iald (q := 22) dX12_beginYard_21 rfl rfl (by simp only [nI5, nI4, nI_p0, nI_p1, nI_p2, nI_p3, nI_p4]; exact vp_in_nI (by omega) (by decide)) ?_
  refine q_iast (q := 23) dX12_beginYard_22 rfl rfl (vin (by decide)) (fun I1 eI1 => ?_)
  refine x_iinc (v := 1) (L2 := [some (.ref 100), some (.int (nI y)), some (.int 1)]) (q := 26) dX12_beginYard_23 rfl (by decide) rfl rfl (by decide) rfl ?_
  refine x_goto (t := 2) dX12_beginYard_26 (by decide) ?_
  refine x_iload_n (q := 3) dX12_beginYard_2 rfl rfl ?_
  refine x_iconst (5) (q := 4) dX12_beginYard_3 rfl (by decide) ?_
  refine x_icmp_ge (t := 29) (q := 7) dX12_beginYard_4 (by decide) rfl (fun c4 => absurd c4 (by decide)) (fun c4 => ?_)
  refine x_aload_n (q := 8) dX12_beginYard_7 rfl rfl ?_
  refine q_gr (K := 48) (b := 125) (q := 11) dX12_beginYard_8 rfl cl_12 (by decide) tw_1130 rfl rfl rfl ?_
  refine x_iload_n (q := 12) dX12_beginYard_11 rfl rfl ?_
  refine x_aload_n (q := 13) dX12_beginYard_12 rfl rfl ?_
  refine q_gr (K := 26) (b := 118) (q := 16) dX12_beginYard_13 rfl cl_12 (by decide) tw_1108 rfl rfl rfl ?_
  refine x_iconst (5) (q := 17) dX12_beginYard_16 rfl (by decide) ?_
  refine x_iload_n (q := 18) dX12_beginYard_17 rfl rfl ?_
  refine x_imul (q := 19) dX12_beginYard_18 rfl ?_
  refine x_iload_n (q := 20) dX12_beginYard_19 rfl rfl ?_
  refine x_iadd (q := 21) dX12_beginYard_20 rfl ?_
  refine q_iald (q := 22) dX12_beginYard_21 rfl rfl (by simp only [nI5, nI4, nI_p0, nI_p1, nI_p2, nI_p3, nI_p4]; exact vp_in_nI (by omega) (by decide)) ?_
  refine q_iast (q := 23) dX12_beginYard_22 rfl rfl (vin (by decide)) (fun I2 eI2 => ?_)
  refine x_iinc (v := 2) (L2 := [some (.ref 100), some (.int (nI y)), some (.int 2)]) (q := 26) dX12_beginYard_23 rfl (by decide) rfl rfl (by decide) rfl ?_
  refine x_goto (t := 2) dX12_beginYard_26 (by decide) ?_
  refine x_iload_n (q := 3) dX12_beginYard_2 rfl rfl ?_
  refine x_iconst (5) (q := 4) dX12_beginYard_3 rfl (by decide) ?_
  refine x_icmp_ge (t := 29) (q := 7) dX12_beginYard_4 (by decide) rfl (fun c4 => absurd c4 (by decide)) (fun c4 => ?_)
  refine x_aload_n (q := 8) dX12_beginYard_7 rfl rfl ?_
  refine q_gr (K := 48) (b := 125) (q := 11) dX12_beginYard_8 rfl cl_12 (by decide) tw_1130 rfl rfl rfl ?_
  refine x_iload_n (q := 12) dX12_beginYard_11 rfl rfl ?_
  refine x_aload_n (q := 13) dX12_beginYard_12 rfl rfl ?_
  refine q_gr (K := 26) (b := 118) (q := 16) dX12_beginYard_13 rfl cl_12 (by decide) tw_1108 rfl rfl rfl ?_
  refine x_iconst (5) (q := 17) dX12_beginYard_16 rfl (by decide) ?_
  refine x_iload_n (q := 18) dX12_beginYard_17 rfl rfl ?_
  refine x_imul (q := 19) dX12_beginYard_18 rfl ?_
  refine x_iload_n (q := 20) dX12_beginYard_19 rfl rfl ?_
  refine x_iadd (q := 21) dX12_beginYard_20 rfl ?_
  refine q_iald (q := 22) dX12_beginYard_21 rfl rfl (by simp only [nI5, nI4, nI_p0, nI_p1, nI_p2, nI_p3, nI_p4]; exact vp_in_nI (by omega) (by decide)) ?_
  refine q_iast (q := 23) dX12_beginYard_22 rfl rfl (vin (by decide)) (fun I3 eI3 => ?_)
  refine x_iinc (v := 3) (L2 := [some (.ref 100), some (.int (nI y)), some (.int 3)]) (q := 26) dX12_beginYard_23 rfl (by decide) rfl rfl (by decide) rfl ?_
  refine x_goto (t := 2) dX12_beginYard_26 (by decide) ?_
  refine x_iload_n (q := 3) dX12_beginYard_2 rfl rfl ?_
  refine x_iconst (5) (q := 4) dX12_beginYard_3 rfl (by decide) ?_
  refine x_icmp_ge (t := 29) (q := 7) dX12_beginYard_4 (by decide) rfl (fun c4 => absurd c4 (by decide)) (fun c4 => ?_)
  refine x_aload_n (q := 8) dX12_beginYard_7 rfl rfl ?_
  refine q_gr (K := 48) (b := 125) (q := 11) dX12_beginYard_8 rfl cl_12 (by decide) tw_1130 rfl rfl rfl ?_
  refine x_iload_n (q := 12) dX12_beginYard_11 rfl rfl ?_
  refine x_aload_n (q := 13) dX12_beginYard_12 rfl rfl ?_
  refine q_gr (K := 26) (b := 118) (q := 16) dX12_beginYard_13 rfl cl_12 (by decide) tw_1108 rfl rfl rfl ?_
  refine x_iconst (5) (q := 17) dX12_beginYard_16 rfl (by decide) ?_
  refine x_iload_n (q := 18) dX12_beginYard_17 rfl rfl ?_
  refine x_imul (q := 19) dX12_beginYard_18 rfl ?_
  refine x_iload_n (q := 20) dX12_beginYard_19 rfl rfl ?_
  refine x_iadd (q := 21) dX12_beginYard_20 rfl ?_
  refine q_iald (q := 22) dX12_beginYard_21 rfl rfl (by simp only [nI5, nI4, nI_p0, nI_p1, nI_p2, nI_p3, nI_p4]; exact vp_in_nI (by omega) (by decide)) ?_
  refine q_iast (q := 23) dX12_beginYard_22 rfl rfl (vin (by decide)) (fun I4 eI4 => ?_)
  refine x_iinc (v := 4) (L2 := [some (.ref 100), some (.int (nI y)), some (.int 4)]) (q := 26) dX12_beginYard_23 rfl (by decide) rfl rfl (by decide) rfl ?_
  refine x_goto (t := 2) dX12_beginYard_26 (by decide) ?_
  refine x_iload_n (q := 3) dX12_beginYard_2 rfl rfl ?_
  refine x_iconst (5) (q := 4) dX12_beginYard_3 rfl (by decide) ?_
  refine x_icmp_ge (t := 29) (q := 7) dX12_beginYard_4 (by decide) rfl (fun c4 => absurd c4 (by decide)) (fun c4 => ?_)
  refine x_aload_n (q := 8) dX12_beginYard_7 rfl rfl ?_
  refine q_gr (K := 48) (b := 125) (q := 11) dX12_beginYard_8 rfl cl_12 (by decide) tw_1130 rfl rfl rfl ?_
  refine x_iload_n (q := 12) dX12_beginYard_11 rfl rfl ?_
  refine x_aload_n (q := 13) dX12_beginYard_12 rfl rfl ?_
  refine q_gr (K := 26) (b := 118) (q := 16) dX12_beginYard_13 rfl cl_12 (by decide) tw_1108 rfl rfl rfl ?_
  refine x_iconst (5) (q := 17) dX12_beginYard_16 rfl (by decide) ?_
  refine x_iload_n (q := 18) dX12_beginYard_17 rfl rfl ?_
  refine x_imul (q := 19) dX12_beginYard_18 rfl ?_
  refine x_iload_n (q := 20) dX12_beginYard_19 rfl rfl ?_
  refine x_iadd (q := 21) dX12_beginYard_20 rfl ?_
  refine q_iald (q := 22) dX12_beginYard_21 rfl rfl (by simp only [nI5, nI4, nI_p0, nI_p1, nI_p2, nI_p3, nI_p4]; exact vp_in_nI (by omega) (by decide)) ?_
  refine q_iast (q := 23) dX12_beginYard_22 rfl rfl (vin (by decide)) (fun I5 eI5 => ?_)
  refine x_iinc (v := 5) (L2 := [some (.ref 100), some (.int (nI y)), some (.int 5)]) (q := 26) dX12_beginYard_23 rfl (by decide) rfl rfl (by decide) rfl ?_
  refine x_goto (t := 2) dX12_beginYard_26 (by decide) ?_
  refine x_iload_n (q := 3) dX12_beginYard_2 rfl rfl ?_
  refine x_iconst (5) (q := 4) dX12_beginYard_3 rfl (by decide) ?_
  refine x_icmp_ge (t := 29) (q := 7) dX12_beginYard_4 (by decide) rfl (fun c4 => ?_) (fun c4 => absurd c4 (by decide))
  refine x_aload_n (q := 30) dX12_beginYard_29 rfl rfl ?_
  refine x_iconst (0) (q := 31) dX12_beginYard_30 rfl (by decide) ?_
  refine q_pi (K := 49) (q := 34) dX12_beginYard_31 rfl cl_12 (by decide) tw_1131 rfl rfl rfl rfl (fun I6 eI6 => ?_)
  refine x_aload_n (q := 35) dX12_beginYard_34 rfl rfl ?_
  refine x_iconst (0) (q := 36) dX12_beginYard_35 rfl (by decide) ?_
  refine q_pi (K := 50) (q := 39) dX12_beginYard_36 rfl cl_12 (by decide) tw_1132 rfl rfl rfl rfl (fun I7 eI7 => ?_)
  refine x_aload_n (q := 40) dX12_beginYard_39 rfl rfl ?_
  refine x_iconst (0) (q := 41) dX12_beginYard_40 rfl (by decide) ?_
  refine q_pi (K := 51) (q := 44) dX12_beginYard_41 rfl cl_12 (by decide) tw_1133 rfl rfl rfl rfl (fun I8 eI8 => ?_)
  refine x_aload_n (q := 45) dX12_beginYard_44 rfl rfl ?_
  refine x_iconst (0) (q := 46) dX12_beginYard_45 rfl (by decide) ?_
  refine q_pi (K := 52) (q := 49) dX12_beginYard_46 rfl cl_12 (by decide) tw_1134 rfl rfl rfl rfl (fun I9 eI9 => ?_)
  refine q_vret dX12_beginYard_49 rfl ?_
  refine ⟨rfl, ?_, rfl, rfl⟩
  have hm : ∀ G b j, b ≠ 125 → b ≠ 100 → mPut I G b j = I b j := fun G b j q1 q2 => mPut_o _ _ _ _ q1 q2
  have hm6 : ∀ G j, mPut I G 126 j = I 126 j := fun G j => hm G 126 j (by decide) (by decide)
  have hm7 : ∀ G j, mPut I G 127 j = I 127 j := fun G j => hm G 127 j (by decide) (by decide)
  have hm8 : ∀ G j, mPut I G 118 j = I 118 j := fun G j => hm G 118 j (by decide) (by decide)
  subst_vars
  simp only [nI5, nI4, nI_p0, nI_p1, nI_p2, nI_p3, nI_p4, nI_p5, lc1, lc2, lc3, lc4, cl_lit0, nI_clamp (show 5 * y < 2 ^ 31 by omega), nI_clamp (show 5 * y + 1 < 2 ^ 31 by omega), nI_clamp (show 5 * y + 2 < 2 ^ 31 by omega), nI_clamp (show 5 * y + 3 < 2 ^ 31 by omega), nI_clamp (show 5 * y + 4 < 2 ^ 31 by omega), nI_clamp (show 4 * y < 2 ^ 31 by omega), nI_clamp (show 4 * y + 1 < 2 ^ 31 by omega), nI_clamp (show 4 * y + 2 < 2 ^ 31 by omega), nI_clamp (show 4 * y + 3 < 2 ^ 31 by omega), mPut_49, mPut_50, mPut_51, mPut_52, mPut_u49, mPut_u50, mPut_u51, mPut_u52, mPut_w0, mPut_u0, cl_lit0, mPut_uw _ _ 1 _ (by decide), mPut_uw _ _ 2 _ (by decide), mPut_uw _ _ 3 _ (by decide), mPut_uw _ _ 4 _ (by decide), mPut_w _ _ 1 (by decide), mPut_w _ _ 2 (by decide), mPut_w _ _ 3 (by decide), mPut_w _ _ 4 (by decide), hm6, hm7, hm8]
  refine mPut_congr (fun j hj => ?_)
  rcases lt_9 hj with rfl | rfl | rfl | rfl | rfl | rfl | rfl | rfl | rfl <;> rfl
set_option maxRecDepth 100000 in
theorem c_takeBack (y : Nat) (hy : y < 8) (I : MI) (G : GT) (r : MR) (J : MJ) : Cq yX12_takeBack MX12_takeBack [.ref 100, .int (nI y)] (mPut I G) r J (Rt none (yPut (mPut I G) y G) r J) := by
  refine cq_of [some (.ref 100), some (.int (nI y)), none] 1 (by decide +kernel) rfl rfl (Nat.le_of_ble_eq_true rfl) rfl ?_
  refine x_iconst (0) (q := 1) dX12_takeBack_0 rfl (by decide) ?_
  refine x_istore_n (L2 := [some (.ref 100), some (.int (nI y)), some (.int 0)]) (q := 2) dX12_takeBack_1 rfl (by decide) rfl rfl ?_
  refine x_iload_n (q := 3) dX12_takeBack_2 rfl rfl ?_
  refine x_iconst (5) (q := 4) dX12_takeBack_3 rfl (by decide) ?_
  refine x_icmp_ge (t := 29) (q := 7) dX12_takeBack_4 (by decide) rfl (fun c4 => absurd c4 (by decide)) (fun c4 => ?_)
  refine x_aload_n (q := 8) dX12_takeBack_7 rfl rfl ?_
  refine q_gr (K := 53) (b := 126) (q := 11) dX12_takeBack_8 rfl cl_12 (by decide) tw_1135 rfl rfl rfl ?_
  refine x_iconst (5) (q := 12) dX12_takeBack_11 rfl (by decide) ?_
  refine x_iload_n (q := 13) dX12_takeBack_12 rfl rfl ?_
  refine x_imul (q := 14) dX12_takeBack_13 rfl ?_
  refine x_iload_n (q := 15) dX12_takeBack_14 rfl rfl ?_
  refine x_iadd (q := 16) dX12_takeBack_15 rfl ?_
  refine x_aload_n (q := 17) dX12_takeBack_16 rfl rfl ?_
  refine q_gr (K := 48) (b := 125) (q := 20) dX12_takeBack_17 rfl cl_12 (by decide) tw_1130 rfl rfl rfl ?_
  refine x_iload_n (q := 21) dX12_takeBack_20 rfl rfl ?_
  refine q_iald (q := 22) dX12_takeBack_21 rfl rfl (vin (by decide)) ?_
  refine q_iast (q := 23) dX12_takeBack_22 rfl rfl (by simp only [nI5, nI4, nI_p0, nI_p1, nI_p2, nI_p3, nI_p4]; exact vp_in_nI (by omega) (by decide)) (fun I1 eI1 => ?_)
  refine x_iinc (v := 1) (L2 := [some (.ref 100), some (.int (nI y)), some (.int 1)]) (q := 26) dX12_takeBack_23 rfl (by decide) rfl rfl (by decide) rfl ?_
  refine x_goto (t := 2) dX12_takeBack_26 (by decide) ?_
  refine x_iload_n (q := 3) dX12_takeBack_2 rfl rfl ?_
  refine x_iconst (5) (q := 4) dX12_takeBack_3 rfl (by decide) ?_
  refine x_icmp_ge (t := 29) (q := 7) dX12_takeBack_4 (by decide) rfl (fun c4 => absurd c4 (by decide)) (fun c4 => ?_)
  refine x_aload_n (q := 8) dX12_takeBack_7 rfl rfl ?_
  refine q_gr (K := 53) (b := 126) (q := 11) dX12_takeBack_8 rfl cl_12 (by decide) tw_1135 rfl rfl rfl ?_
  refine x_iconst (5) (q := 12) dX12_takeBack_11 rfl (by decide) ?_
  refine x_iload_n (q := 13) dX12_takeBack_12 rfl rfl ?_
  refine x_imul (q := 14) dX12_takeBack_13 rfl ?_
  refine x_iload_n (q := 15) dX12_takeBack_14 rfl rfl ?_
  refine x_iadd (q := 16) dX12_takeBack_15 rfl ?_
  refine x_aload_n (q := 17) dX12_takeBack_16 rfl rfl ?_
  refine q_gr (K := 48) (b := 125) (q := 20) dX12_takeBack_17 rfl cl_12 (by decide) tw_1130 rfl rfl rfl ?_
  refine x_iload_n (q := 21) dX12_takeBack_20 rfl rfl ?_
  refine q_iald (q := 22) dX12_takeBack_21 rfl rfl (vin (by decide)) ?_
  refine q_iast (q := 23) dX12_takeBack_22 rfl rfl (by simp only [nI5, nI4, nI_p0, nI_p1, nI_p2, nI_p3, nI_p4]; exact vp_in_nI (by omega) (by decide)) (fun I2 eI2 => ?_)
  refine x_iinc (v := 2) (L2 := [some (.ref 100), some (.int (nI y)), some (.int 2)]) (q := 26) dX12_takeBack_23 rfl (by decide) rfl rfl (by decide) rfl ?_
  refine x_goto (t := 2) dX12_takeBack_26 (by decide) ?_
  refine x_iload_n (q := 3) dX12_takeBack_2 rfl rfl ?_
  refine x_iconst (5) (q := 4) dX12_takeBack_3 rfl (by decide) ?_
  refine x_icmp_ge (t := 29) (q := 7) dX12_takeBack_4 (by decide) rfl (fun c4 => absurd c4 (by decide)) (fun c4 => ?_)
  refine x_aload_n (q := 8) dX12_takeBack_7 rfl rfl ?_
  refine q_gr (K := 53) (b := 126) (q := 11) dX12_takeBack_8 rfl cl_12 (by decide) tw_1135 rfl rfl rfl ?_
  refine x_iconst (5) (q := 12) dX12_takeBack_11 rfl (by decide) ?_
  refine x_iload_n (q := 13) dX12_takeBack_12 rfl rfl ?_
  refine x_imul (q := 14) dX12_takeBack_13 rfl ?_
  refine x_iload_n (q := 15) dX12_takeBack_14 rfl rfl ?_
  refine x_iadd (q := 16) dX12_takeBack_15 rfl ?_
  refine x_aload_n (q := 17) dX12_takeBack_16 rfl rfl ?_
  refine q_gr (K := 48) (b := 125) (q := 20) dX12_takeBack_17 rfl cl_12 (by decide) tw_1130 rfl rfl rfl ?_
  refine x_iload_n (q := 21) dX12_takeBack_20 rfl rfl ?_
  refine q_iald (q := 22) dX12_takeBack_21 rfl rfl (vin (by decide)) ?_
  refine q_iast (q := 23) dX12_takeBack_22 rfl rfl (by simp only [nI5, nI4, nI_p0, nI_p1, nI_p2, nI_p3, nI_p4]; exact vp_in_nI (by omega) (by decide)) (fun I3 eI3 => ?_)
  refine x_iinc (v := 3) (L2 := [some (.ref 100), some (.int (nI y)), some (.int 3)]) (q := 26) dX12_takeBack_23 rfl (by decide) rfl rfl (by decide) rfl ?_
  refine x_goto (t := 2) dX12_takeBack_26 (by decide) ?_
  refine x_iload_n (q := 3) dX12_takeBack_2 rfl rfl ?_
  refine x_iconst (5) (q := 4) dX12_takeBack_3 rfl (by decide) ?_
  refine x_icmp_ge (t := 29) (q := 7) dX12_takeBack_4 (by decide) rfl (fun c4 => absurd c4 (by decide)) (fun c4 => ?_)
  refine x_aload_n (q := 8) dX12_takeBack_7 rfl rfl ?_
  refine q_gr (K := 53) (b := 126) (q := 11) dX12_takeBack_8 rfl cl_12 (by decide) tw_1135 rfl rfl rfl ?_
  refine x_iconst (5) (q := 12) dX12_takeBack_11 rfl (by decide) ?_
  refine x_iload_n (q := 13) dX12_takeBack_12 rfl rfl ?_
  refine x_imul (q := 14) dX12_takeBack_13 rfl ?_
  refine x_iload_n (q := 15) dX12_takeBack_14 rfl rfl ?_
  refine x_iadd (q := 16) dX12_takeBack_15 rfl ?_
  refine x_aload_n (q := 17) dX12_takeBack_16 rfl rfl ?_
  refine q_gr (K := 48) (b := 125) (q := 20) dX12_takeBack_17 rfl cl_12 (by decide) tw_1130 rfl rfl rfl ?_
  refine x_iload_n (q := 21) dX12_takeBack_20 rfl rfl ?_
  refine q_iald (q := 22) dX12_takeBack_21 rfl rfl (vin (by decide)) ?_
  refine q_iast (q := 23) dX12_takeBack_22 rfl rfl (by simp only [nI5, nI4, nI_p0, nI_p1, nI_p2, nI_p3, nI_p4]; exact vp_in_nI (by omega) (by decide)) (fun I4 eI4 => ?_)
  refine x_iinc (v := 4) (L2 := [some (.ref 100), some (.int (nI y)), some (.int 4)]) (q := 26) dX12_takeBack_23 rfl (by decide) rfl rfl (by decide) rfl ?_
  refine x_goto (t := 2) dX12_takeBack_26 (by decide) ?_
  refine x_iload_n (q := 3) dX12_takeBack_2 rfl rfl ?_
  refine x_iconst (5) (q := 4) dX12_takeBack_3 rfl (by decide) ?_
  refine x_icmp_ge (t := 29) (q := 7) dX12_takeBack_4 (by decide) rfl (fun c4 => absurd c4 (by decide)) (fun c4 => ?_)
  refine x_aload_n (q := 8) dX12_takeBack_7 rfl rfl ?_
  refine q_gr (K := 53) (b := 126) (q := 11) dX12_takeBack_8 rfl cl_12 (by decide) tw_1135 rfl rfl rfl ?_
  refine x_iconst (5) (q := 12) dX12_takeBack_11 rfl (by decide) ?_
  refine x_iload_n (q := 13) dX12_takeBack_12 rfl rfl ?_
  refine x_imul (q := 14) dX12_takeBack_13 rfl ?_
  refine x_iload_n (q := 15) dX12_takeBack_14 rfl rfl ?_
  refine x_iadd (q := 16) dX12_takeBack_15 rfl ?_
  refine x_aload_n (q := 17) dX12_takeBack_16 rfl rfl ?_
  refine q_gr (K := 48) (b := 125) (q := 20) dX12_takeBack_17 rfl cl_12 (by decide) tw_1130 rfl rfl rfl ?_
  refine x_iload_n (q := 21) dX12_takeBack_20 rfl rfl ?_
  refine q_iald (q := 22) dX12_takeBack_21 rfl rfl (vin (by decide)) ?_
  refine q_iast (q := 23) dX12_takeBack_22 rfl rfl (by simp only [nI5, nI4, nI_p0, nI_p1, nI_p2, nI_p3, nI_p4]; exact vp_in_nI (by omega) (by decide)) (fun I5 eI5 => ?_)
  refine x_iinc (v := 5) (L2 := [some (.ref 100), some (.int (nI y)), some (.int 5)]) (q := 26) dX12_takeBack_23 rfl (by decide) rfl rfl (by decide) rfl ?_
  refine x_goto (t := 2) dX12_takeBack_26 (by decide) ?_
  refine x_iload_n (q := 3) dX12_takeBack_2 rfl rfl ?_
  refine x_iconst (5) (q := 4) dX12_takeBack_3 rfl (by decide) ?_
  refine x_icmp_ge (t := 29) (q := 7) dX12_takeBack_4 (by decide) rfl (fun c4 => ?_) (fun c4 => absurd c4 (by decide))
  refine x_aload_n (q := 30) dX12_takeBack_29 rfl rfl ?_
  refine q_gr (K := 54) (b := 127) (q := 33) dX12_takeBack_30 rfl cl_12 (by decide) tw_1136 rfl rfl rfl ?_
  refine x_iconst (4) (q := 34) dX12_takeBack_33 rfl (by decide) ?_
  refine x_iload_n (q := 35) dX12_takeBack_34 rfl rfl ?_
  refine x_imul (q := 36) dX12_takeBack_35 rfl ?_
  refine x_iconst (0) (q := 37) dX12_takeBack_36 rfl (by decide) ?_
  refine x_iadd (q := 38) dX12_takeBack_37 rfl ?_
  refine x_aload_n (q := 39) dX12_takeBack_38 rfl rfl ?_
  refine q_gi (K := 49) (q := 42) dX12_takeBack_39 rfl cl_12 (by decide) tw_1131 rfl rfl ?_
  refine q_iast (q := 43) dX12_takeBack_42 rfl rfl (by simp only [nI5, nI4, nI_p0, nI_p1, nI_p2, nI_p3, nI_p4]; exact vp_in_nI (by omega) (by decide)) (fun I6 eI6 => ?_)
  refine x_aload_n (q := 44) dX12_takeBack_43 rfl rfl ?_
  refine q_gr (K := 54) (b := 127) (q := 47) dX12_takeBack_44 rfl cl_12 (by decide) tw_1136 rfl rfl rfl ?_
  refine x_iconst (4) (q := 48) dX12_takeBack_47 rfl (by decide) ?_
  refine x_iload_n (q := 49) dX12_takeBack_48 rfl rfl ?_
  refine x_imul (q := 50) dX12_takeBack_49 rfl ?_
  refine x_iconst (1) (q := 51) dX12_takeBack_50 rfl (by decide) ?_
  refine x_iadd (q := 52) dX12_takeBack_51 rfl ?_
  refine x_aload_n (q := 53) dX12_takeBack_52 rfl rfl ?_
  refine q_gi (K := 50) (q := 56) dX12_takeBack_53 rfl cl_12 (by decide) tw_1132 rfl rfl ?_
  refine q_iast (q := 57) dX12_takeBack_56 rfl rfl (by simp only [nI5, nI4, nI_p0, nI_p1, nI_p2, nI_p3, nI_p4]; exact vp_in_nI (by omega) (by decide)) (fun I7 eI7 => ?_)
  refine x_aload_n (q := 58) dX12_takeBack_57 rfl rfl ?_
  refine q_gr (K := 54) (b := 127) (q := 61) dX12_takeBack_58 rfl cl_12 (by decide) tw_1136 rfl rfl rfl ?_
  refine x_iconst (4) (q := 62) dX12_takeBack_61 rfl (by decide) ?_
  refine x_iload_n (q := 63) dX12_takeBack_62 rfl rfl ?_
  refine x_imul (q := 64) dX12_takeBack_63 rfl ?_
  refine x_iconst (2) (q := 65) dX12_takeBack_64 rfl (by decide) ?_
  refine x_iadd (q := 66) dX12_takeBack_65 rfl ?_
  refine x_aload_n (q := 67) dX12_takeBack_66 rfl rfl ?_
  refine q_gi (K := 51) (q := 70) dX12_takeBack_67 rfl cl_12 (by decide) tw_1133 rfl rfl ?_
  refine q_iast (q := 71) dX12_takeBack_70 rfl rfl (by simp only [nI5, nI4, nI_p0, nI_p1, nI_p2, nI_p3, nI_p4]; exact vp_in_nI (by omega) (by decide)) (fun I8 eI8 => ?_)
  refine x_aload_n (q := 72) dX12_takeBack_71 rfl rfl ?_
  refine q_gr (K := 54) (b := 127) (q := 75) dX12_takeBack_72 rfl cl_12 (by decide) tw_1136 rfl rfl rfl ?_
  refine x_iconst (4) (q := 76) dX12_takeBack_75 rfl (by decide) ?_
  refine x_iload_n (q := 77) dX12_takeBack_76 rfl rfl ?_
  refine x_imul (q := 78) dX12_takeBack_77 rfl ?_
  refine x_iconst (3) (q := 79) dX12_takeBack_78 rfl (by decide) ?_
  refine x_iadd (q := 80) dX12_takeBack_79 rfl ?_
  refine x_aload_n (q := 81) dX12_takeBack_80 rfl rfl ?_
  refine q_gi (K := 52) (q := 84) dX12_takeBack_81 rfl cl_12 (by decide) tw_1134 rfl rfl ?_
  refine q_iast (q := 85) dX12_takeBack_84 rfl rfl (by simp only [nI5, nI4, nI_p0, nI_p1, nI_p2, nI_p3, nI_p4]; exact vp_in_nI (by omega) (by decide)) (fun I9 eI9 => ?_)
  refine q_vret dX12_takeBack_85 rfl ?_
  refine ⟨rfl, ?_, rfl, rfl⟩
  subst_vars
  simp only [nI5, nI4, nI_p0, nI_p1, nI_p2, nI_p3, nI_p4, nI_p5, lc1, lc2, lc3, lc4, cl_lit0, nI_clamp (show 5 * y < 2 ^ 31 by omega), nI_clamp (show 5 * y + 1 < 2 ^ 31 by omega), nI_clamp (show 5 * y + 2 < 2 ^ 31 by omega), nI_clamp (show 5 * y + 3 < 2 ^ 31 by omega), nI_clamp (show 5 * y + 4 < 2 ^ 31 by omega), nI_clamp (show 4 * y < 2 ^ 31 by omega), nI_clamp (show 4 * y + 1 < 2 ^ 31 by omega), nI_clamp (show 4 * y + 2 < 2 ^ 31 by omega), nI_clamp (show 4 * y + 3 < 2 ^ 31 by omega)]
  funext b j
  simp only [upI, Nat.reduceEqDiff, false_and, if_false]
  by_cases h126 : b = 126
  · subst h126
    by_cases hj : 5 * y ≤ j ∧ j < 5 * y + 5
    · obtain ⟨i, rfl⟩ : ∃ i, j = 5 * y + i := ⟨j - 5 * y, by omega⟩
      have hi : i = 0 ∨ i = 1 ∨ i = 2 ∨ i = 3 ∨ i = 4 := by omega
      rcases hi with rfl | rfl | rfl | rfl | rfl <;> simp [yPut, mPut]
    · have q0 : ¬ j = 5 * y := by omega
      have q1 : ¬ j = 5 * y + 1 := by omega
      have q2 : ¬ j = 5 * y + 2 := by omega
      have q3 : ¬ j = 5 * y + 3 := by omega
      have q4 : ¬ j = 5 * y + 4 := by omega
      simp [yPut, hj, q0, q1, q2, q3, q4]
  · by_cases h127 : b = 127
    · subst h127
      by_cases hj : 4 * y ≤ j ∧ j < 4 * y + 4
      · obtain ⟨i, rfl⟩ : ∃ i, j = 4 * y + i := ⟨j - 4 * y, by omega⟩
        have hi : i = 0 ∨ i = 1 ∨ i = 2 ∨ i = 3 := by omega
        rcases hi with rfl | rfl | rfl | rfl <;> simp [yPut, mPut]
      · have q0 : ¬ j = 4 * y := by omega
        have q1 : ¬ j = 4 * y + 1 := by omega
        have q2 : ¬ j = 4 * y + 2 := by omega
        have q3 : ¬ j = 4 * y + 3 := by omega
        simp [yPut, hj, q0, q1, q2, q3]
    · simp [yPut, h126, h127]
