theorem cpI_s {I : MI} {a0 sp a dp n : Nat} (h : a0 ≠ a) : upI (cpI I a0 sp a dp n) a (dp + n) (cpI I a0 sp a dp n a0 (sp + n)) = cpI I a0 sp a dp (n + 1) := by
  funext c j
  have e0 : cpI I a0 sp a dp n a0 (sp + n) = I a0 (sp + n) := if_neg (fun q => h q.1)
  rw [e0]
  unfold upI cpI
  by_cases e : c = a ∧ j = dp + n
  · rw [if_pos e, if_pos ⟨e.1, by omega, by omega⟩]
    have : sp + (j - dp) = sp + n := by omega
    rw [this]
  · rw [if_neg e]
    by_cases e1 : c = a ∧ dp ≤ j ∧ j < dp + n
    · rw [if_pos e1, if_pos ⟨e1.1, by omega, by omega⟩]
    · rw [if_neg e1, if_neg (fun q => by
        have : j ≠ dp + n := fun z => e ⟨q.1, z⟩
        exact e1 ⟨q.1, by omega, by omega⟩)]
theorem cpI_0 {I : MI} {a0 sp a dp : Nat} : cpI I a0 sp a dp 0 = I := by
  funext c j
  unfold cpI
  rw [if_neg (fun q => by omega)]
theorem cpI_o {I : MI} {a0 sp a dp n c : Nat} (h : c ≠ a) : cpI I a0 sp a dp n c = I c := by
  funext j
  exact if_neg (fun q => h q.1)
theorem cpI_i {I : MI} {a0 sp a dp n j : Nat} (h : dp ≤ j) (h2 : j < dp + n) : cpI I a0 sp a dp n a j = I a0 (sp + (j - dp)) := if_pos ⟨rfl, h, h2⟩
theorem cpI_x {I : MI} {a0 sp a dp n j : Nat} (h : j < dp ∨ dp + n ≤ j) : cpI I a0 sp a dp n a j = I a j := if_neg (fun q => by omega)
/-- a ground kept in a box -/
def kpI (I : MI) (a at0 : Nat) (G : GT) : MI := fun c j => if c = a ∧ at0 ≤ j ∧ j < at0 + 9 then G (j - at0) else I c j
theorem kp_of {I : MI} {g a at0 : Nat} (h1 : a ≠ g) (h2 : a ≠ g + 1) : upI (upI (upI (upI (cpI I (g + 1) 0 a at0 5) a (at0 + 5) (I g 1)) a (at0 + 6) (I g 2)) a (at0 + 7) (I g 3)) a (at0 + 8) (I g 4) = kpI I a at0 (gGet I g) := by
  funext c j
  by_cases e : c = a
  · subst e
    by_cases q8 : j = at0 + 8
    · subst q8
      rw [upq]
      unfold kpI gGet
      rw [if_pos ⟨rfl, by omega, by omega⟩, if_neg (by omega)]
      congr 1
      omega
    · rw [ups q8]
      by_cases q7 : j = at0 + 7
      · subst q7
        rw [upq]
        unfold kpI gGet
        rw [if_pos ⟨rfl, by omega, by omega⟩, if_neg (by omega)]
        congr 1
        omega
      · rw [ups q7]
        by_cases q6 : j = at0 + 6
        · subst q6
          rw [upq]
          unfold kpI gGet
          rw [if_pos ⟨rfl, by omega, by omega⟩, if_neg (by omega)]
          congr 1
          omega
        · rw [ups q6]
          by_cases q5 : j = at0 + 5
          · subst q5
            rw [upq]
            unfold kpI gGet
            rw [if_pos ⟨rfl, by omega, by omega⟩, if_neg (by omega)]
            congr 1
            omega
          · rw [ups q5]
            by_cases q : at0 ≤ j ∧ j < at0 + 5
            · rw [cpI_i q.1 q.2]
              unfold kpI gGet
              rw [if_pos ⟨rfl, by omega, by omega⟩, if_pos (by omega)]
              congr 1
              omega
            · rw [cpI_x (by omega)]
              unfold kpI
              rw [if_neg (fun z => by omega)]
  · rw [upcj e, upcj e, upcj e, upcj e, cpI_o e]
    unfold kpI
    rw [if_neg (fun z => e z.1)]
set_option maxRecDepth 100000 in
theorem c_gkeep {g k at0 : Nat} (hg : SH g = (14, 5)) (hk : k < 3) (h9 : g + 1 < 96) (ha : at0 + 9 ≤ 75) (I : MI) (r : MR) (J : MJ) : Cq yX4_keepIn MX4_keepIn [.ref g, .ref (96 + k), .int (nI at0)] I r J (Rt none (kpI I (96 + k) at0 (gGet I g)) r J) := by
  refine cq_of [some (.ref g), some (.ref (96 + k)), some (.int (nI at0))] 0 (by decide +kernel) rfl rfl (Nat.le_of_ble_eq_true rfl) rfl ?_
  refine x_aload_n (q := 1) dX4_keepIn_0 rfl rfl ?_
  refine q_gr (K := 0) (b := (g + 1)) (q := 4) dX4_keepIn_1 rfl cl_4 (by decide) tw_396 hg rfl (gr_w hg _) ?_
  refine x_iconst (0) (q := 5) dX4_keepIn_4 rfl (by decide) ?_
  refine x_aload_n (q := 6) dX4_keepIn_5 rfl rfl ?_
  refine x_iload_n (q := 7) dX4_keepIn_6 rfl rfl ?_
  refine x_iconst (5) (q := 8) dX4_keepIn_7 rfl (by decide) ?_
  refine q_copy (q := 11) dX4_keepIn_8 rfl tw_746 tw_748 tw_747 tw_100 (by decide) (Nat.le_of_ble_eq_true rfl) (gs_w hg) (bx_w hk r).2 (by decide) (nI_pos (by omega)) (by decide) (by decide) (by rw [nI_clamp (by omega), cl_lit1]; omega) (fun I1 eI1 => ?_)
  refine x_aload_n (q := 12) dX4_keepIn_11 rfl rfl ?_
  refine x_iload_n (q := 13) dX4_keepIn_12 rfl rfl ?_
  refine x_iconst (5) (q := 14) dX4_keepIn_13 rfl (by decide) ?_
  refine x_iadd (q := 15) dX4_keepIn_14 rfl ?_
  refine x_aload_n (q := 16) dX4_keepIn_15 rfl rfl ?_
  refine q_gi (K := 1) (q := 19) dX4_keepIn_16 rfl cl_4 (by decide) tw_399 hg rfl ?_
  refine q_iast (q := 20) dX4_keepIn_19 rfl (bx_w hk r).2 (by rw [nI_p5]; exact vp_in_nI (by omega) (by decide)) (fun I2 eI2 => ?_)
  refine x_aload_n (q := 21) dX4_keepIn_20 rfl rfl ?_
  refine x_iload_n (q := 22) dX4_keepIn_21 rfl rfl ?_
  refine x_iconst (5) (q := 23) dX4_keepIn_22 rfl (by decide) ?_
  refine x_iadd (q := 24) dX4_keepIn_23 rfl ?_
  refine x_iconst (1) (q := 25) dX4_keepIn_24 rfl (by decide) ?_
  refine x_iadd (q := 26) dX4_keepIn_25 rfl ?_
  refine x_aload_n (q := 27) dX4_keepIn_26 rfl rfl ?_
  refine q_gi (K := 2) (q := 30) dX4_keepIn_27 rfl cl_4 (by decide) tw_401 hg rfl ?_
  refine q_iast (q := 31) dX4_keepIn_30 rfl (bx_w hk r).2 (by rw [nI_p5, nI_p1]; exact vp_in_nI (by omega) (by decide)) (fun I3 eI3 => ?_)
  refine x_aload_n (q := 32) dX4_keepIn_31 rfl rfl ?_
  refine x_iload_n (q := 33) dX4_keepIn_32 rfl rfl ?_
  refine x_iconst (5) (q := 34) dX4_keepIn_33 rfl (by decide) ?_
  refine x_iadd (q := 35) dX4_keepIn_34 rfl ?_
  refine x_iconst (2) (q := 36) dX4_keepIn_35 rfl (by decide) ?_
  refine x_iadd (q := 37) dX4_keepIn_36 rfl ?_
  refine x_aload_n (q := 38) dX4_keepIn_37 rfl rfl ?_
  refine q_gi (K := 3) (q := 41) dX4_keepIn_38 rfl cl_4 (by decide) tw_404 hg rfl ?_
  refine q_iast (q := 42) dX4_keepIn_41 rfl (bx_w hk r).2 (by rw [nI_p5, nI_p2]; exact vp_in_nI (by omega) (by decide)) (fun I4 eI4 => ?_)
  refine x_aload_n (q := 43) dX4_keepIn_42 rfl rfl ?_
  refine x_iload_n (q := 44) dX4_keepIn_43 rfl rfl ?_
  refine x_iconst (5) (q := 45) dX4_keepIn_44 rfl (by decide) ?_
  refine x_iadd (q := 46) dX4_keepIn_45 rfl ?_
  refine x_iconst (3) (q := 47) dX4_keepIn_46 rfl (by decide) ?_
  refine x_iadd (q := 48) dX4_keepIn_47 rfl ?_
  refine x_aload_n (q := 49) dX4_keepIn_48 rfl rfl ?_
  refine q_gi (K := 4) (q := 52) dX4_keepIn_49 rfl cl_4 (by decide) tw_406 hg rfl ?_
  refine q_iast (q := 53) dX4_keepIn_52 rfl (bx_w hk r).2 (by rw [nI_p5, nI_p3]; exact vp_in_nI (by omega) (by decide)) (fun I5 eI5 => ?_)
  refine q_vret dX4_keepIn_53 rfl ?_
  refine ⟨rfl, ?_, rfl, rfl⟩
  rw [nI_clamp (by omega), cl_lit0, cl_lit1] at eI1
  rw [nI_p5, nI_clamp (by omega)] at eI2
  rw [nI_p5, nI_p1, nI_clamp (by omega)] at eI3
  rw [nI_p5, nI_p2, nI_clamp (by omega)] at eI4
  rw [nI_p5, nI_p3, nI_clamp (by omega)] at eI5
  have g1 : ∀ K, I1 g K = I g K := fun K => by rw [eI1, cpI_o (by omega)]
  have g2 : ∀ K, I2 g K = I g K := fun K => by rw [eI2, upcj (by omega), g1]
  have g3 : ∀ K, I3 g K = I g K := fun K => by rw [eI3, upcj (by omega), g2]
  have g4 : ∀ K, I4 g K = I g K := fun K => by rw [eI4, upcj (by omega), g3]
  rw [eI5, g4, eI4, g3, eI3, g2, eI2, g1, eI1]
  exact kp_of (by omega) (by omega)
def kpD (I : MI) (a i : Nat) : MI := fun c j => if c = a ∧ j < 9 * i then gGet I (60 + 2 * (j / 9)) (j % 9) else I c j
theorem kpD_o {I : MI} {a i c : Nat} (h : c ≠ a) : kpD I a i c = I c := by
  funext j
  exact if_neg (fun q => h q.1)
theorem kpD_s {I : MI} {a i : Nat} (h : 76 ≤ a) (hi : i < 8) : kpI (kpD I a i) a (9 * i) (gGet (kpD I a i) (60 + 2 * i)) = kpD I a (i + 1) := by
  have e : gGet (kpD I a i) (60 + 2 * i) = gGet I (60 + 2 * i) := by
    unfold gGet
    rw [kpD_o (by omega), kpD_o (by omega)]
  rw [e]
  funext c j
  unfold kpI
  by_cases q : c = a ∧ 9 * i ≤ j ∧ j < 9 * i + 9
  · rw [if_pos q]
    unfold kpD
    rw [if_pos ⟨q.1, by omega⟩]
    have e1 : j / 9 = i := by omega
    have e2 : j % 9 = j - 9 * i := by omega
    rw [e1, e2]
  · rw [if_neg q]
    unfold kpD
    by_cases q1 : c = a ∧ j < 9 * i
    · rw [if_pos q1, if_pos ⟨q1.1, by omega⟩]
    · rw [if_neg q1, if_neg (fun z => by
        by_cases y : j < 9 * i
        · exact q1 ⟨z.1, y⟩
        · exact q ⟨z.1, by omega, by omega⟩)]
theorem nI9 (y : Nat) : nI y * (9 : Int32) = nI (9 * y) := by
  rw [Nat.mul_comm]
  exact pk_mul y 9
set_option maxRecDepth 100000 in
theorem l_keep {k : Nat} (hk : k < 3) (I : MI) (r : MR) (J : MJ) : ∀ (f : Nat) (i : Nat) (_ : i + f = 8), Wq MX1_keepIn 2 [some (.ref 58), some (.ref (96 + k)), some (.int (nI i))] [] (kpD I (96 + k) i) r J (Rt none (upI (upI (upI (kpD I (96 + k) 8) (96 + k) 72 (I 58 2)) (96 + k) 73 (I 58 3)) (96 + k) 74 (I 58 4)) r J) := by
  intro f
  induction f with
  | zero =>
    intro i hik
    refine x_iload_n (q := 3) dX1_keepIn_2 rfl rfl ?_
    refine x_bipush (8) (q := 5) dX1_keepIn_3 rfl (by decide) ?_
    refine x_icmp_ge (t := 28) (q := 8) dX1_keepIn_5 (by decide) rfl (fun c5 => ?_) (fun c5 => absurd c5 (fun q => q (nI_le (a := 8) (b := i) (by omega) (by omega))))
    refine x_aload_n (q := 29) dX1_keepIn_28 rfl rfl ?_
    refine x_bipush (72) (q := 31) dX1_keepIn_29 rfl (by decide) ?_
    refine x_aload_n (q := 32) dX1_keepIn_31 rfl rfl ?_
    refine q_gi (K := 2) (q := 35) dX1_keepIn_32 rfl cl_1 (by decide) tw_429 rfl rfl ?_
    refine q_iast (q := 36) dX1_keepIn_35 rfl (bx_w hk r).2 (vin (by decide)) (fun I1 eI1 => ?_)
    refine x_aload_n (q := 37) dX1_keepIn_36 rfl rfl ?_
    refine x_bipush (73) (q := 39) dX1_keepIn_37 rfl (by decide) ?_
    refine x_aload_n (q := 40) dX1_keepIn_39 rfl rfl ?_
    refine q_gi (K := 3) (q := 43) dX1_keepIn_40 rfl cl_1 (by decide) tw_432 rfl rfl ?_
    refine q_iast (q := 44) dX1_keepIn_43 rfl (bx_w hk r).2 (vin (by decide)) (fun I2 eI2 => ?_)
    refine x_aload_n (q := 45) dX1_keepIn_44 rfl rfl ?_
    refine x_bipush (74) (q := 47) dX1_keepIn_45 rfl (by decide) ?_
    refine x_aload_n (q := 48) dX1_keepIn_47 rfl rfl ?_
    refine q_gi (K := 4) (q := 51) dX1_keepIn_48 rfl cl_1 (by decide) tw_434 rfl rfl ?_
    refine q_iast (q := 52) dX1_keepIn_51 rfl (bx_w hk r).2 (vin (by decide)) (fun I3 eI3 => ?_)
    refine q_vret dX1_keepIn_52 rfl ?_
    have ei : i = 8 := by omega
    subst ei
    refine ⟨rfl, ?_, rfl, rfl⟩
    have g0 : ∀ K, kpD I (96 + k) 8 58 K = I 58 K := fun K => by rw [kpD_o (by omega)]
    have g1 : ∀ K, I1 58 K = I 58 K := fun K => by rw [eI1, upcj (by omega), g0]
    have g2 : ∀ K, I2 58 K = I 58 K := fun K => by rw [eI2, upcj (by omega), g1]
    rw [eI3, g2, eI2, g1, eI1, g0]
    rfl
  | succ f ih =>
    intro i hik
    refine x_iload_n (q := 3) dX1_keepIn_2 rfl rfl ?_
    refine x_bipush (8) (q := 5) dX1_keepIn_3 rfl (by decide) ?_
    refine x_icmp_ge (t := 28) (q := 8) dX1_keepIn_5 (by decide) rfl (fun c5 => absurd c5 (nI_ge (b := 8) (by omega) (by decide))) (fun c5 => ?_)
    refine x_aload_n (q := 9) dX1_keepIn_8 rfl rfl ?_
    refine q_gr (K := 1) (b := 59) (q := 12) dX1_keepIn_9 rfl cl_1 (by decide) tw_426 rfl rfl rfl ?_
    refine x_iload_n (q := 13) dX1_keepIn_12 rfl rfl ?_
    refine q_aald5 (b := (60 + 2 * i)) (q := 14) dX1_keepIn_13 rfl rfl (vp_in_nI (by omega) (by decide)) (by rw [nI_clamp (by omega)]; exact (gy_w (by omega) _).1) ?_
    refine x_aload_n (q := 15) dX1_keepIn_14 rfl rfl ?_
    refine x_iload_n (q := 16) dX1_keepIn_15 rfl rfl ?_
    refine x_bipush (9) (q := 18) dX1_keepIn_16 rfl (by decide) ?_
    refine x_imul (q := 19) dX1_keepIn_18 rfl ?_
    refine q_callV (ci := 4) (N := 5) (T := TX4) (As := [.ref (96 + k), .int ((nI i) * 9)]) (rest := []) (q := 22) dX1_keepIn_19 rfl okX4_keepIn tw_1056 (gy_w (by omega) r).2 rfl (by rw [nI9]; exact c_gkeep (gy_w (by omega) r).2 hk (by omega) (by omega) _ r J) rfl rfl (Nat.le_of_ble_eq_true rfl) ⟨by decide, by decide⟩ ⟨rfl, rfl⟩ (fun rv_ I_ r_ J_ hv_ => ?_)
    obtain ⟨a1_, a2_, a3_, a4_⟩ := hv_
    rw [kpD_s (by omega) (by omega)] at a2_
    rw [a1_, a2_, a3_, a4_]
    show Wq MX1_keepIn 22 [some (.ref 58), some (.ref (96 + k)), some (.int (nI i))] [] (kpD I (96 + k) (i + 1)) r J _
    obtain ⟨v1, ev1⟩ : ∃ y : Int32, y = (nI i) + 1 := ⟨_, rfl⟩
    refine x_iinc (v := v1) (L2 := [some (.ref 58), some (.ref (96 + k)), some (.int v1)]) (q := 25) dX1_keepIn_22 rfl (by decide) rfl rfl (by rw [ev1]; rfl) rfl ?_
    refine x_goto (t := 2) dX1_keepIn_25 (by decide) ?_
    rw [show v1 = nI (i + 1) by rw [ev1, nI_p1]]
    exact ih (i + 1) (by omega)
theorem kpD_0 {I : MI} {a : Nat} : kpD I a 0 = I := by
  funext c j
  exact if_neg (fun q => by omega)
set_option maxRecDepth 100000 in
theorem c_keep {k : Nat} (hk : k < 3) (I : MI) (r : MR) (J : MJ) : Cq yX1_keepIn MX1_keepIn [.ref 58, .ref (96 + k)] I r J (Rt none (upI (upI (upI (kpD I (96 + k) 8) (96 + k) 72 (I 58 2)) (96 + k) 73 (I 58 3)) (96 + k) 74 (I 58 4)) r J) := by
  refine cq_of [some (.ref 58), some (.ref (96 + k)), none] 1 (by decide +kernel) rfl rfl (Nat.le_of_ble_eq_true rfl) rfl ?_
  refine x_iconst (0) (q := 1) dX1_keepIn_0 rfl (by decide) ?_
  refine x_istore_n (L2 := [some (.ref 58), some (.ref (96 + k)), some (.int 0)]) (q := 2) dX1_keepIn_1 rfl (by decide) rfl rfl ?_
  have q := l_keep hk I r J 8 0 rfl
  rw [kpD_0] at q
  exact q
set_option maxRecDepth 100000 in
theorem c_Ximg_g {k : Nat} (hk : k < 3) (I : MI) (r : MR) (J : MJ) : Cq yX11_image MX11_image [.ref 0, .int (nI k)] I r J (Rt (some (.int (I 58 2))) (upI (upI (upI (upI (kpD I (96 + k) 8) (96 + k) 72 (I 58 2)) (96 + k) 73 (I 58 3)) (96 + k) 74 (I 58 4)) 99 k 1) r J) := by
  refine cq_of [some (.ref 0), some (.int (nI k))] 0 (by decide +kernel) rfl rfl (Nat.le_of_ble_eq_true rfl) rfl ?_
  refine x_iload_n (q := 1) dX11_image_0 rfl rfl ?_
  refine x_if_lt (t := 9) (q := 4) dX11_image_1 (by decide) rfl (fun c1 => absurd c1 (nI_pos (by omega))) (fun c1 => ?_)
  refine x_iload_n (q := 5) dX11_image_4 rfl rfl ?_
  refine x_iconst (3) (q := 6) dX11_image_5 rfl (by decide) ?_
  refine x_icmp_lt (t := 11) (q := 9) dX11_image_6 (by decide) rfl (fun c6 => ?_) (fun c6 => absurd c6 (fun q => q (nI_lt (b := 3) (by omega) (by decide))))
  refine x_aload_n (q := 12) dX11_image_11 rfl rfl ?_
  refine q_gr (K := 5) (b := 58) (q := 15) dX11_image_12 rfl cl_11 (by decide) tw_572 rfl rfl rfl ?_
  refine x_aload_n (q := 16) dX11_image_15 rfl rfl ?_
  refine q_gr (K := 12) (b := 95) (q := 19) dX11_image_16 rfl cl_11 (by decide) tw_579 rfl rfl rfl ?_
  refine x_iload_n (q := 20) dX11_image_19 rfl rfl ?_
  refine q_aald6 (b := (96 + k)) (q := 21) dX11_image_20 rfl rfl (vp_in_nI (by omega) (by decide)) (by rw [nI_clamp (by omega)]; exact (bx_w hk _).1) ?_
  refine q_callV (ci := 1) (N := 5) (T := TX1) (As := [.ref (96 + k)]) (rest := []) (q := 24) dX11_image_21 rfl okX1_keepIn tw_1052 rfl rfl (c_keep hk I r J) rfl rfl (Nat.le_of_ble_eq_true rfl) ⟨by decide, by decide⟩ ⟨rfl, rfl⟩ (fun rv_ I_ r_ J_ hv_ => ?_)
  obtain ⟨a1_, a2_, a3_, a4_⟩ := hv_
  rw [a1_, a2_, a3_, a4_]
  show Wq MX11_image 24 [some (.ref 0), some (.int (nI k))] [] (upI (upI (upI (kpD I (96 + k) 8) (96 + k) 72 (I 58 2)) (96 + k) 73 (I 58 3)) (96 + k) 74 (I 58 4)) r J _
  refine x_aload_n (q := 25) dX11_image_24 rfl rfl ?_
  refine q_gr (K := 13) (b := 99) (q := 28) dX11_image_25 rfl cl_11 (by decide) tw_580 rfl rfl rfl ?_
  refine x_iload_n (q := 29) dX11_image_28 rfl rfl ?_
  refine x_iconst (1) (q := 30) dX11_image_29 rfl (by decide) ?_
  refine q_zast (q := 31) dX11_image_30 rfl (by decide) rfl (vp_in_nI (by omega) (by decide)) (fun I1 eI1 => ?_)
  refine x_aload_n (q := 32) dX11_image_31 rfl rfl ?_
  refine q_gr (K := 5) (b := 58) (q := 35) dX11_image_32 rfl cl_11 (by decide) tw_572 rfl rfl rfl ?_
  refine q_gi (K := 2) (q := 38) dX11_image_35 rfl cl_1 (by decide) tw_431 rfl rfl ?_
  refine q_iret dX11_image_38 rfl ?_
  rw [nI_clamp (by omega)] at eI1
  rw [eI1, upcj (by decide), upcj (by omega), upcj (by omega), upcj (by omega), kpD_o (by omega)]
  exact ⟨rfl, rfl, rfl, rfl⟩
set_option maxRecDepth 100000 in
theorem c_Ximg_b {x : Int32} (hno : ¬ ∃ k, k < 3 ∧ x = nI k) (I : MI) (r : MR) (J : MJ) : Cq yX11_image MX11_image [.ref 0, .int x] I r J (Rt (some (.int (-1))) I r J) := by
  refine cq_of [some (.ref 0), some (.int x)] 0 (by decide +kernel) rfl rfl (Nat.le_of_ble_eq_true rfl) rfl ?_
  refine x_iload_n (q := 1) dX11_image_0 rfl rfl ?_
  refine x_if_lt (t := 9) (q := 4) dX11_image_1 (by decide) rfl (fun c1 => ?_) (fun c1 => ?_)
  · refine x_iconst (-1) (q := 10) dX11_image_9 rfl (by decide) ?_
    refine q_iret dX11_image_10 rfl ?_
    exact ⟨rfl, rfl, rfl, rfl⟩
  · refine x_iload_n (q := 5) dX11_image_4 rfl rfl ?_
    refine x_iconst (3) (q := 6) dX11_image_5 rfl (by decide) ?_
    refine x_icmp_lt (t := 11) (q := 9) dX11_image_6 (by decide) rfl (fun c6 => ?_) (fun c6 => ?_)
    · exfalso
      rcases pk_ix x (n := 3) (by omega) with q | q | q
      · exact c1 q
      · exact Int32.not_lt.mpr q c6
      · exact hno q
    · refine x_iconst (-1) (q := 10) dX11_image_9 rfl (by decide) ?_
      refine q_iret dX11_image_10 rfl ?_
      exact ⟨rfl, rfl, rfl, rfl⟩
set_option maxRecDepth 100000 in
theorem c_isBox_g {k : Nat} (hk : k < 3) (I : MI) (r : MR) (J : MJ) : Cq yX12_isBox MX12_isBox [.int (nI k)] I r J (Rt (some (.int 1)) I r J) := by
  refine cq_of [some (.int (nI k))] 0 (by decide +kernel) rfl rfl (Nat.le_of_ble_eq_true rfl) rfl ?_
  refine x_iload_n (q := 1) dX12_isBox_0 rfl rfl ?_
  refine x_if_lt (t := 13) (q := 4) dX12_isBox_1 (by decide) rfl (fun c1 => absurd c1 (nI_pos (by omega))) (fun c1 => ?_)
  refine x_iload_n (q := 5) dX12_isBox_4 rfl rfl ?_
  refine x_iconst (3) (q := 6) dX12_isBox_5 rfl (by decide) ?_
  refine x_icmp_ge (t := 13) (q := 9) dX12_isBox_6 (by decide) rfl (fun c6 => absurd c6 (nI_ge (b := 3) (by omega) (by decide))) (fun c6 => ?_)
  refine x_iconst (1) (q := 10) dX12_isBox_9 rfl (by decide) ?_
  refine x_goto (t := 14) dX12_isBox_10 (by decide) ?_
  refine q_zret dX12_isBox_14 rfl (Or.inr rfl) ?_
  exact ⟨rfl, rfl, rfl, rfl⟩
set_option maxRecDepth 100000 in
theorem c_isBox_b {x : Int32} (hno : ¬ ∃ k, k < 3 ∧ x = nI k) (I : MI) (r : MR) (J : MJ) : Cq yX12_isBox MX12_isBox [.int x] I r J (Rt (some (.int 0)) I r J) := by
  refine cq_of [some (.int x)] 0 (by decide +kernel) rfl rfl (Nat.le_of_ble_eq_true rfl) rfl ?_
  refine x_iload_n (q := 1) dX12_isBox_0 rfl rfl ?_
  refine x_if_lt (t := 13) (q := 4) dX12_isBox_1 (by decide) rfl (fun c1 => ?_) (fun c1 => ?_)
  · refine x_iconst (0) (q := 14) dX12_isBox_13 rfl (by decide) ?_
    refine q_zret dX12_isBox_14 rfl (Or.inl rfl) ?_
    exact ⟨rfl, rfl, rfl, rfl⟩
  · refine x_iload_n (q := 5) dX12_isBox_4 rfl rfl ?_
    refine x_iconst (3) (q := 6) dX12_isBox_5 rfl (by decide) ?_
    refine x_icmp_ge (t := 13) (q := 9) dX12_isBox_6 (by decide) rfl (fun c6 => ?_) (fun c6 => ?_)
    · refine x_iconst (0) (q := 14) dX12_isBox_13 rfl (by decide) ?_
      refine q_zret dX12_isBox_14 rfl (Or.inl rfl) ?_
      exact ⟨rfl, rfl, rfl, rfl⟩
    · exfalso
      rcases pk_ix x (n := 3) (by omega) with q | q | q
      · exact c1 q
      · exact c6 q
      · exact hno q
theorem nI40 (y : Nat) : (40 : Int32) * nI y = nI (40 * y) := pk_mul 40 y
theorem nI32 (y : Nat) : (32 : Int32) * nI y = nI (32 * y) := pk_mul 32 y
theorem nI3 (y : Nat) : (3 : Int32) * nI y = nI (3 * y) := pk_mul 3 y
set_option maxRecDepth 100000 in
theorem t_Mimg {k : Nat} (hk : k < 3) (I : MI) (r : MR) (J : MJ) (x : Option Value) : Wq MX12_image 78 [some (.ref 100), some (.int (nI k)), x] [] I r J (Rt (some (.int (I 100 55))) (upI (upI (upI I 145 (3 * k) (I 100 55)) 145 (3 * k + 1) (I 100 56)) 145 (3 * k + 2) (I 100 57)) r J) := by
  refine x_aload_n (q := 79) dX12_image_78 rfl rfl ?_
  refine q_gr (K := 78) (b := 145) (q := 82) dX12_image_79 rfl cl_12 (by decide) tw_1160 rfl rfl rfl ?_
  refine x_iconst (3) (q := 83) dX12_image_82 rfl (by decide) ?_
  refine x_iload_n (q := 84) dX12_image_83 rfl rfl ?_
  refine x_imul (q := 85) dX12_image_84 rfl ?_
  refine x_aload_n (q := 86) dX12_image_85 rfl rfl ?_
  refine q_gi (K := 55) (q := 89) dX12_image_86 rfl cl_12 (by decide) tw_1137 rfl rfl ?_
  refine q_iast (q := 90) dX12_image_89 rfl rfl (by rw [nI3]; exact vp_in_nI (by omega) (by decide)) (fun I1 eI1 => ?_)
  refine x_aload_n (q := 91) dX12_image_90 rfl rfl ?_
  refine q_gr (K := 78) (b := 145) (q := 94) dX12_image_91 rfl cl_12 (by decide) tw_1160 rfl rfl rfl ?_
  refine x_iconst (3) (q := 95) dX12_image_94 rfl (by decide) ?_
  refine x_iload_n (q := 96) dX12_image_95 rfl rfl ?_
  refine x_imul (q := 97) dX12_image_96 rfl ?_
  refine x_iconst (1) (q := 98) dX12_image_97 rfl (by decide) ?_
  refine x_iadd (q := 99) dX12_image_98 rfl ?_
  refine x_aload_n (q := 100) dX12_image_99 rfl rfl ?_
  refine q_gi (K := 56) (q := 103) dX12_image_100 rfl cl_12 (by decide) tw_1138 rfl rfl ?_
  refine q_iast (q := 104) dX12_image_103 rfl rfl (by rw [nI3, nI_p1]; exact vp_in_nI (by omega) (by decide)) (fun I2 eI2 => ?_)
  refine x_aload_n (q := 105) dX12_image_104 rfl rfl ?_
  refine q_gr (K := 78) (b := 145) (q := 108) dX12_image_105 rfl cl_12 (by decide) tw_1160 rfl rfl rfl ?_
  refine x_iconst (3) (q := 109) dX12_image_108 rfl (by decide) ?_
  refine x_iload_n (q := 110) dX12_image_109 rfl rfl ?_
  refine x_imul (q := 111) dX12_image_110 rfl ?_
  refine x_iconst (2) (q := 112) dX12_image_111 rfl (by decide) ?_
  refine x_iadd (q := 113) dX12_image_112 rfl ?_
  refine x_aload_n (q := 114) dX12_image_113 rfl rfl ?_
  refine q_gi (K := 57) (q := 117) dX12_image_114 rfl cl_12 (by decide) tw_1139 rfl rfl ?_
  refine q_iast (q := 118) dX12_image_117 rfl rfl (by rw [nI3, nI_p2]; exact vp_in_nI (by omega) (by decide)) (fun I3 eI3 => ?_)
  refine x_aload_n (q := 119) dX12_image_118 rfl rfl ?_
  refine q_gi (K := 55) (q := 122) dX12_image_119 rfl cl_12 (by decide) tw_1137 rfl rfl ?_
  refine q_iret dX12_image_122 rfl ?_
  rw [nI3, nI_clamp (by omega)] at eI1
  rw [nI3, nI_p1, nI_clamp (by omega)] at eI2
  rw [nI3, nI_p2, nI_clamp (by omega)] at eI3
  have g1 : ∀ K, I1 100 K = I 100 K := fun K => by rw [eI1, upcj (by decide)]
  have g2 : ∀ K, I2 100 K = I 100 K := fun K => by rw [eI2, upcj (by decide), g1]
  have g3 : ∀ K, I3 100 K = I 100 K := fun K => by rw [eI3, upcj (by decide), g2]
  rw [g3, eI3, g2, eI2, g1, eI1]
  exact ⟨rfl, rfl, rfl, rfl⟩
set_option maxRecDepth 100000 in
theorem l_Mimg2 {k : Nat} (hk : k < 3) (I : MI) (r : MR) (J : MJ) : ∀ (f : Nat) (i : Nat) (_ : i + f = 32), Wq MX12_image 49 [some (.ref 100), some (.int (nI k)), some (.int (nI i))] [] (cpI I 127 0 144 (32 * k) i) r J (Rt (some (.int (I 100 55))) (upI (upI (upI (cpI I 127 0 144 (32 * k) 32) 145 (3 * k) (I 100 55)) 145 (3 * k + 1) (I 100 56)) 145 (3 * k + 2) (I 100 57)) r J) := by
  intro f
  induction f with
  | zero =>
    intro i hik
    refine x_iload_n (q := 50) dX12_image_49 rfl rfl ?_
    refine x_bipush (32) (q := 52) dX12_image_50 rfl (by decide) ?_
    refine x_icmp_ge (t := 78) (q := 55) dX12_image_52 (by decide) rfl (fun c52 => ?_) (fun c52 => absurd c52 (fun q => q (nI_le (a := 32) (b := i) (by omega) (by omega))))
    have ei : i = 32 := by omega
    subst ei
    exact t_Mimg hk _ r J _
  | succ f ih =>
    intro i hik
    refine x_iload_n (q := 50) dX12_image_49 rfl rfl ?_
    refine x_bipush (32) (q := 52) dX12_image_50 rfl (by decide) ?_
    refine x_icmp_ge (t := 78) (q := 55) dX12_image_52 (by decide) rfl (fun c52 => absurd c52 (nI_ge (b := 32) (by omega) (by decide))) (fun c52 => ?_)
    refine x_aload_n (q := 56) dX12_image_55 rfl rfl ?_
    refine q_gr (K := 77) (b := 144) (q := 59) dX12_image_56 rfl cl_12 (by decide) tw_1159 rfl rfl rfl ?_
    refine x_bipush (32) (q := 61) dX12_image_59 rfl (by decide) ?_
    refine x_iload_n (q := 62) dX12_image_61 rfl rfl ?_
    refine x_imul (q := 63) dX12_image_62 rfl ?_
    refine x_iload_n (q := 64) dX12_image_63 rfl rfl ?_
    refine x_iadd (q := 65) dX12_image_64 rfl ?_
    refine x_aload_n (q := 66) dX12_image_65 rfl rfl ?_
    refine q_gr (K := 54) (b := 127) (q := 69) dX12_image_66 rfl cl_12 (by decide) tw_1136 rfl rfl rfl ?_
    refine x_iload_n (q := 70) dX12_image_69 rfl rfl ?_
    refine q_iald (q := 71) dX12_image_70 rfl rfl (vp_in_nI (by omega) (by decide)) ?_
    refine q_iast (q := 72) dX12_image_71 rfl rfl (by rw [nI32, nI_add]; exact vp_in_nI (by omega) (by decide)) (fun I1 eI1 => ?_)
    obtain ⟨v2, ev2⟩ : ∃ y : Int32, y = (nI i) + 1 := ⟨_, rfl⟩
    refine x_iinc (v := v2) (L2 := [some (.ref 100), some (.int (nI k)), some (.int v2)]) (q := 75) dX12_image_72 rfl (by decide) rfl rfl (by rw [ev2]; rfl) rfl ?_
    refine x_goto (t := 49) dX12_image_75 (by decide) ?_
    rw [nI32, nI_add, nI_clamp (by omega), nI_clamp (by omega)] at eI1
    have q9 := cpI_s (I := I) (a0 := 127) (sp := 0) (a := 144) (dp := 32 * k) (n := i) (by decide)
    rw [Nat.zero_add] at q9
    rw [q9] at eI1
    rw [eI1, show v2 = nI (i + 1) by rw [ev2, nI_p1]]
    exact ih (i + 1) (by omega)
set_option maxRecDepth 100000 in
theorem l_Mimg1 {k : Nat} (hk : k < 3) (I : MI) (r : MR) (J : MJ) : ∀ (f : Nat) (i : Nat) (_ : i + f = 40), Wq MX12_image 18 [some (.ref 100), some (.int (nI k)), some (.int (nI i))] [] (cpI I 126 0 143 (40 * k) i) r J (Rt (some (.int (I 100 55))) (upI (upI (upI (cpI (cpI I 126 0 143 (40 * k) 40) 127 0 144 (32 * k) 32) 145 (3 * k) (I 100 55)) 145 (3 * k + 1) (I 100 56)) 145 (3 * k + 2) (I 100 57)) r J) := by
  intro f
  induction f with
  | zero =>
    intro i hik
    refine x_iload_n (q := 19) dX12_image_18 rfl rfl ?_
    refine x_bipush (40) (q := 21) dX12_image_19 rfl (by decide) ?_
    refine x_icmp_ge (t := 47) (q := 24) dX12_image_21 (by decide) rfl (fun c21 => ?_) (fun c21 => absurd c21 (fun q => q (nI_le (a := 40) (b := i) (by omega) (by omega))))
    have ei : i = 40 := by omega
    subst ei
    refine x_iconst (0) (q := 48) dX12_image_47 rfl (by decide) ?_
    refine x_istore_n (L2 := [some (.ref 100), some (.int (nI k)), some (.int 0)]) (q := 49) dX12_image_48 rfl (by decide) rfl rfl ?_
    have q := l_Mimg2 hk (cpI I 126 0 143 (40 * k) 40) r J 32 0 rfl
    rw [cpI_0] at q
    exact q
  | succ f ih =>
    intro i hik
    refine x_iload_n (q := 19) dX12_image_18 rfl rfl ?_
    refine x_bipush (40) (q := 21) dX12_image_19 rfl (by decide) ?_
    refine x_icmp_ge (t := 47) (q := 24) dX12_image_21 (by decide) rfl (fun c21 => absurd c21 (nI_ge (b := 40) (by omega) (by decide))) (fun c21 => ?_)
    refine x_aload_n (q := 25) dX12_image_24 rfl rfl ?_
    refine q_gr (K := 76) (b := 143) (q := 28) dX12_image_25 rfl cl_12 (by decide) tw_1158 rfl rfl rfl ?_
    refine x_bipush (40) (q := 30) dX12_image_28 rfl (by decide) ?_
    refine x_iload_n (q := 31) dX12_image_30 rfl rfl ?_
    refine x_imul (q := 32) dX12_image_31 rfl ?_
    refine x_iload_n (q := 33) dX12_image_32 rfl rfl ?_
    refine x_iadd (q := 34) dX12_image_33 rfl ?_
    refine x_aload_n (q := 35) dX12_image_34 rfl rfl ?_
    refine q_gr (K := 53) (b := 126) (q := 38) dX12_image_35 rfl cl_12 (by decide) tw_1135 rfl rfl rfl ?_
    refine x_iload_n (q := 39) dX12_image_38 rfl rfl ?_
    refine q_iald (q := 40) dX12_image_39 rfl rfl (vp_in_nI (by omega) (by decide)) ?_
    refine q_iast (q := 41) dX12_image_40 rfl rfl (by rw [nI40, nI_add]; exact vp_in_nI (by omega) (by decide)) (fun I1 eI1 => ?_)
    obtain ⟨v2, ev2⟩ : ∃ y : Int32, y = (nI i) + 1 := ⟨_, rfl⟩
    refine x_iinc (v := v2) (L2 := [some (.ref 100), some (.int (nI k)), some (.int v2)]) (q := 44) dX12_image_41 rfl (by decide) rfl rfl (by rw [ev2]; rfl) rfl ?_
    refine x_goto (t := 18) dX12_image_44 (by decide) ?_
    rw [nI40, nI_add, nI_clamp (by omega), nI_clamp (by omega)] at eI1
    have q9 := cpI_s (I := I) (a0 := 126) (sp := 0) (a := 143) (dp := 40 * k) (n := i) (by decide)
    rw [Nat.zero_add] at q9
    rw [q9] at eI1
    rw [eI1, show v2 = nI (i + 1) by rw [ev2, nI_p1]]
    exact ih (i + 1) (by omega)
set_option maxRecDepth 100000 in
theorem c_Mimg_g {k : Nat} (hk : k < 3) (I : MI) (r : MR) (J : MJ) : Cq yX12_image MX12_image [.ref 100, .int (nI k)] I r J (Rt (some (.int (I 100 55))) (upI (upI (upI (cpI (cpI (upI I 142 k 1) 126 0 143 (40 * k) 40) 127 0 144 (32 * k) 32) 145 (3 * k) (I 100 55)) 145 (3 * k + 1) (I 100 56)) 145 (3 * k + 2) (I 100 57)) r J) := by
  refine cq_of [some (.ref 100), some (.int (nI k)), none] 1 (by decide +kernel) rfl rfl (Nat.le_of_ble_eq_true rfl) rfl ?_
  refine x_iload_n (q := 1) dX12_image_0 rfl rfl ?_
  refine q_callS (As := [.int (nI k)]) (rest := []) (q := 4) dX12_image_1 rfl okX12_isBox tw_1638 (c_isBox_g hk I r J) rfl rfl (Nat.le_of_ble_eq_true rfl) ⟨by decide, by decide⟩ ⟨rfl, rfl⟩ (fun rv_ I_ r_ J_ hv_ => ?_)
  obtain ⟨a1_, a2_, a3_, a4_⟩ := hv_
  rw [a1_, a2_, a3_, a4_]
  show Wq MX12_image 4 [some (.ref 100), some (.int (nI k)), none] [.int 1] I r J _
  refine x_if_ne (t := 9) (q := 7) dX12_image_4 (by decide) rfl (fun c4 => ?_) (fun c4 => absurd c4 ((by decide)))
  refine x_aload_n (q := 10) dX12_image_9 rfl rfl ?_
  refine q_gr (K := 75) (b := 142) (q := 13) dX12_image_10 rfl cl_12 (by decide) tw_1157 rfl rfl rfl ?_
  refine x_iload_n (q := 14) dX12_image_13 rfl rfl ?_
  refine x_iconst (1) (q := 15) dX12_image_14 rfl (by decide) ?_
  refine q_zast (q := 16) dX12_image_15 rfl (by decide) rfl (vp_in_nI (by omega) (by decide)) (fun I1 eI1 => ?_)
  refine x_iconst (0) (q := 17) dX12_image_16 rfl (by decide) ?_
  refine x_istore_n (L2 := [some (.ref 100), some (.int (nI k)), some (.int 0)]) (q := 18) dX12_image_17 rfl (by decide) rfl rfl ?_
  rw [nI_clamp (by omega)] at eI1
  rw [eI1]
  have q := l_Mimg1 hk (upI I 142 k 1) r J 40 0 rfl
  rw [cpI_0] at q
  exact q
set_option maxRecDepth 100000 in
theorem c_Mimg_b {x : Int32} (hno : ¬ ∃ k, k < 3 ∧ x = nI k) (I : MI) (r : MR) (J : MJ) : Cq yX12_image MX12_image [.ref 100, .int x] I r J (Rt (some (.int (-1))) I r J) := by
  refine cq_of [some (.ref 100), some (.int x), none] 1 (by decide +kernel) rfl rfl (Nat.le_of_ble_eq_true rfl) rfl ?_
  refine x_iload_n (q := 1) dX12_image_0 rfl rfl ?_
  refine q_callS (As := [.int x]) (rest := []) (q := 4) dX12_image_1 rfl okX12_isBox tw_1638 (c_isBox_b hno I r J) rfl rfl (Nat.le_of_ble_eq_true rfl) ⟨by decide, by decide⟩ ⟨rfl, rfl⟩ (fun rv_ I_ r_ J_ hv_ => ?_)
  obtain ⟨a1_, a2_, a3_, a4_⟩ := hv_
  rw [a1_, a2_, a3_, a4_]
  show Wq MX12_image 4 [some (.ref 100), some (.int x), none] [.int 0] I r J _
  refine x_if_ne (t := 9) (q := 7) dX12_image_4 (by decide) rfl (fun c4 => absurd c4 ((by decide))) (fun c4 => ?_)
  refine x_iconst (-1) (q := 8) dX12_image_7 rfl (by decide) ?_
  refine q_iret dX12_image_8 rfl ?_
  exact ⟨rfl, rfl, rfl, rfl⟩
