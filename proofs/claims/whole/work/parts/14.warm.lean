def condS (i : Nat) (G : GT) : GT := upd (upd G i (G i + (G (i + 1) - G i) / 4)) (i + 1) (G (i + 1) - (G (i + 1) - G i) / 4)
def condN : Nat → GT → GT
  | 0, G => G
  | k + 1, G => condS k (condN k G)
def topG (so : Nat) (T : Int32) (G : GT) : GT := upd G 0 (G 0 + (T - G 0) / TPf so)
def lastG (so la : Nat) (T : Int32) (G : GT) : GT := if so = 2 ∧ 1 < la then upd G (la - 1) (G (la - 1) + (T - G (la - 1)) / 4) else G
def warmG (so la : Nat) (T : Int32) (G : GT) : GT := condN (la - 1) (lastG so la T (topG so T G))
theorem TPf_ne {so : Nat} (h : so < 4) : ¬ TPf so = 0 := by
  have : so = 0 ∨ so = 1 ∨ so = 2 ∨ so = 3 := by omega
  rcases this with rfl | rfl | rfl | rfl <;> decide
theorem gPut_cp (I : MI) (g a sp : Nat) (G : GT) : cpI (gPut I g G) a sp (g + 1) 0 5 = gPut I g (fun j => if j < 5 then gPut I g G a (sp + j) else G j) := by
  funext b j
  by_cases h : b = g + 1 ∧ j < 5
  · have h1 : b = g + 1 ∧ 0 ≤ j ∧ j < 0 + 5 := by omega
    have e : cpI (gPut I g G) a sp (g + 1) 0 5 b j = gPut I g G a (sp + (j - 0)) := if_pos h1
    have e2 : gPut I g (fun j => if j < 5 then gPut I g G a (sp + j) else G j) b j = if j < 5 then gPut I g G a (sp + j) else G j := if_pos h
    rw [e, e2, if_pos h.2]
    rfl
  · have h1 : ¬ (b = g + 1 ∧ 0 ≤ j ∧ j < 0 + 5) := by omega
    have e : cpI (gPut I g G) a sp (g + 1) 0 5 b j = gPut I g G b j := if_neg h1
    rw [e]
    unfold gPut
    rw [if_neg h, if_neg h]
    by_cases h2 : b = g ∧ 1 ≤ j
    · have h3 : ¬ j + 4 < 5 := by omega
      rw [if_pos h2, if_pos h2]
      exact (if_neg h3).symm
    · rw [if_neg h2, if_neg h2]
theorem cl_lit1 : (5 : Int32).toNatClampNeg = 5 := by decide
set_option maxRecDepth 100000 in
theorem c_begin {g t : Nat} (hg : SH g = (14, 5)) (ht : SH t = (20, 6)) (I : MI) (G : GT) (r : MR) (J : MJ) : Cq yX4_begin MX4_begin [.ref g, .ref t] (gPut I g G) r J (Rt none (gPut I g (beginG (I (t + 1)) G)) r J) := by
  refine cq_of [some (.ref g), some (.ref t)] 0 (by decide +kernel) rfl rfl (Nat.le_of_ble_eq_true rfl) rfl ?_
  refine x_aload_n dX4_begin_0 rfl rfl ?_
  refine q_gr (K := 5) (b := (t + 1)) dX4_begin_1 rfl cl_10 (by decide) tw_137 ht rfl (tr_w ht _) ?_
  refine x_iconst (0) dX4_begin_4 rfl (by decide) ?_
  refine x_aload_n dX4_begin_5 rfl rfl ?_
  refine q_gr (K := 0) (b := (g + 1)) dX4_begin_6 rfl cl_4 (by decide) tw_396 hg rfl (gr_w hg _) ?_
  refine x_iconst (0) dX4_begin_9 rfl (by decide) ?_
  refine x_iconst (5) dX4_begin_10 rfl (by decide) ?_
  refine q_copy dX4_begin_11 rfl tw_746 tw_748 tw_747 tw_100 (by decide) (Nat.le_of_ble_eq_true rfl) (ts_w ht) (gs_w hg) (by decide) (by decide) (by decide) (by decide) (by decide) (fun I1 eI1 => ?_)
  refine x_aload_n dX4_begin_14 rfl rfl ?_
  refine x_iconst (0) dX4_begin_15 rfl (by decide) ?_
  refine q_pi (K := 1) dX4_begin_16 rfl cl_4 (by decide) tw_399 rfl rfl hg rfl (fun I2 eI2 => ?_)
  refine x_aload_n dX4_begin_19 rfl rfl ?_
  refine x_iconst (0) dX4_begin_20 rfl (by decide) ?_
  refine q_pi (K := 2) dX4_begin_21 rfl cl_4 (by decide) tw_401 rfl rfl hg rfl (fun I3 eI3 => ?_)
  refine x_aload_n dX4_begin_24 rfl rfl ?_
  refine x_iconst (0) dX4_begin_25 rfl (by decide) ?_
  refine q_pi (K := 3) dX4_begin_26 rfl cl_4 (by decide) tw_404 rfl rfl hg rfl (fun I4 eI4 => ?_)
  refine x_aload_n dX4_begin_29 rfl rfl ?_
  refine x_iconst (0) dX4_begin_30 rfl (by decide) ?_
  refine q_pi (K := 4) dX4_begin_31 rfl cl_4 (by decide) tw_406 rfl rfl hg rfl (fun I5 eI5 => ?_)
  refine q_vret dX4_begin_34 rfl ?_
  refine ⟨rfl, ?_, rfl, rfl⟩
  have h9 := ts_lt ht
  have h8 := gs_ne2 hg (show t + 1 < 60 by omega)
  subst_vars
  simp only [gPut_f, gPut_w, gPut_uf, gPut_uw, cl_lit0, cl_lit1, gPut_cp, Nat.le_refl, Nat.reduceLeDiff, Nat.reduceLT, Nat.reduceAdd]
  refine congrArg (gPut I g) ?_
  funext j
  simp only [upd, beginG, gPut_o _ _ _ _ _ h8.1 h8.2, Nat.zero_add]
  by_cases h5 : j < 5
  · have q1 : ¬ j = 8 := by omega
    have q2 : ¬ j = 7 := by omega
    have q3 : ¬ j = 6 := by omega
    have q4 : ¬ j = 5 := by omega
    simp [h5, q1, q2, q3, q4]
  · simp only [h5, if_false]
    by_cases h6 : j < 9
    · have : j = 5 ∨ j = 6 ∨ j = 7 ∨ j = 8 := by omega
      rcases this with rfl | rfl | rfl | rfl <;> rfl
    · have q1 : ¬ j = 8 := by omega
      have q2 : ¬ j = 7 := by omega
      have q3 : ¬ j = 6 := by omega
      have q4 : ¬ j = 5 := by omega
      simp [h6, q1, q2, q3, q4]
def copyG (F : GT) (G : GT) : GT := fun j => if j < 9 then F j else G j
set_option maxRecDepth 100000 in
theorem c_copy {g f : Nat} (hg : SH g = (14, 5)) (hf : SH f = (14, 5)) (hn : f ≠ g ∧ f ≠ g + 1) (hn2 : f + 1 ≠ g ∧ f + 1 ≠ g + 1) (I : MI) (G : GT) (r : MR) (J : MJ) : Cq yX4_copy MX4_copy [.ref g, .ref f] (gPut I g G) r J (Rt none (gPut I g (copyG (gGet I f) G)) r J) := by
  refine cq_of [some (.ref g), some (.ref f)] 0 (by decide +kernel) rfl rfl (Nat.le_of_ble_eq_true rfl) rfl ?_
  refine x_aload_n dX4_copy_0 rfl rfl ?_
  refine q_gr (K := 0) (b := (f + 1)) dX4_copy_1 rfl cl_4 (by decide) tw_396 hf rfl (gr_w hf _) ?_
  refine x_iconst (0) dX4_copy_4 rfl (by decide) ?_
  refine x_aload_n dX4_copy_5 rfl rfl ?_
  refine q_gr (K := 0) (b := (g + 1)) dX4_copy_6 rfl cl_4 (by decide) tw_396 hg rfl (gr_w hg _) ?_
  refine x_iconst (0) dX4_copy_9 rfl (by decide) ?_
  refine x_iconst (5) dX4_copy_10 rfl (by decide) ?_
  refine q_copy dX4_copy_11 rfl tw_746 tw_748 tw_747 tw_100 (by decide) (Nat.le_of_ble_eq_true rfl) (gs_w hf) (gs_w hg) (by decide) (by decide) (by decide) (by decide) (by decide) (fun I1 eI1 => ?_)
  refine x_aload_n dX4_copy_14 rfl rfl ?_
  refine x_aload_n dX4_copy_15 rfl rfl ?_
  refine q_gi (K := 1) dX4_copy_16 rfl cl_4 (by decide) tw_399 hf rfl ?_
  refine q_pi (K := 1) dX4_copy_19 rfl cl_4 (by decide) tw_399 rfl rfl hg rfl (fun I2 eI2 => ?_)
  refine x_aload_n dX4_copy_22 rfl rfl ?_
  refine x_aload_n dX4_copy_23 rfl rfl ?_
  refine q_gi (K := 2) dX4_copy_24 rfl cl_4 (by decide) tw_401 hf rfl ?_
  refine q_pi (K := 2) dX4_copy_27 rfl cl_4 (by decide) tw_401 rfl rfl hg rfl (fun I3 eI3 => ?_)
  refine x_aload_n dX4_copy_30 rfl rfl ?_
  refine x_aload_n dX4_copy_31 rfl rfl ?_
  refine q_gi (K := 3) dX4_copy_32 rfl cl_4 (by decide) tw_404 hf rfl ?_
  refine q_pi (K := 3) dX4_copy_35 rfl cl_4 (by decide) tw_404 rfl rfl hg rfl (fun I4 eI4 => ?_)
  refine x_aload_n dX4_copy_38 rfl rfl ?_
  refine x_aload_n dX4_copy_39 rfl rfl ?_
  refine q_gi (K := 4) dX4_copy_40 rfl cl_4 (by decide) tw_406 hf rfl ?_
  refine q_pi (K := 4) dX4_copy_43 rfl cl_4 (by decide) tw_406 rfl rfl hg rfl (fun I5 eI5 => ?_)
  refine q_vret dX4_copy_46 rfl ?_
  refine ⟨rfl, ?_, rfl, rfl⟩
  subst_vars
  simp only [gPut_f, gPut_w, gPut_uf, gPut_uw, cl_lit0, cl_lit1, gPut_cp, Nat.le_refl, Nat.reduceLeDiff, Nat.reduceLT, Nat.reduceAdd]
  simp only [gPut_o _ _ _ _ _ hn.1 hn.2, gPut_o _ _ _ _ _ hn2.1 hn2.2]
  refine congrArg (gPut I g) ?_
  funext j
  simp only [upd, copyG, gGet, Nat.zero_add]
  by_cases h5 : j < 5
  · have q1 : ¬ j = 8 := by omega
    have q2 : ¬ j = 7 := by omega
    have q3 : ¬ j = 6 := by omega
    have q4 : ¬ j = 5 := by omega
    have q5 : j < 9 := by omega
    simp [h5, q1, q2, q3, q4, q5]
  · by_cases h6 : j < 9
    · have : j = 5 ∨ j = 6 ∨ j = 7 ∨ j = 8 := by omega
      rcases this with rfl | rfl | rfl | rfl <;> rfl
    · have q1 : ¬ j = 8 := by omega
      have q2 : ¬ j = 7 := by omega
      have q3 : ¬ j = 6 := by omega
      have q4 : ¬ j = 5 := by omega
      simp [h5, h6, q1, q2, q3, q4]
set_option maxRecDepth 100000 in
theorem l_warm {g t : Nat} (hg : SH g = (14, 5)) (ht : SH t = (20, 6)) (T : Int32) {la : Nat} (h1 : 1 ≤ la) (h5 : la ≤ 5) (I : MI) (G : GT) (r : MR) (J : MJ) : ∀ (k i : Nat) (x5 : Option Value), i + k = la - 1 → Wq MX4_warmBy 67 [some (.ref g), some (.ref t), some (.int T), some (.int (nI (la - 1))), some (.int (nI i)), x5] [] (gPut I g (condN i G)) r J (Rt none (gPut I g (condN (la - 1) G)) r J) := by
  intro k
  induction k with
  | zero =>
    intro i x5 hik
    refine x_iload dX4_warmBy_67 rfl rfl ?_
    refine x_iload_n dX4_warmBy_69 rfl rfl ?_
    refine x_icmp_ge (t := 126) (q := 73) dX4_warmBy_70 (by decide) rfl (fun c70 => ?_) (fun c70 => absurd c70 (by rw [nI_leI (by omega) (by omega)]; omega))
    refine q_vret dX4_warmBy_126 rfl ?_
    have hi : i = la - 1 := by omega
    rw [hi]
    exact ⟨rfl, rfl, rfl, rfl⟩
  | succ k ih =>
    intro i x5 hik
    refine x_iload dX4_warmBy_67 rfl rfl ?_
    refine x_iload_n dX4_warmBy_69 rfl rfl ?_
    refine x_icmp_ge (t := 126) (q := 73) dX4_warmBy_70 (by decide) rfl (fun c70 => absurd c70 (by rw [nI_leI (by omega) (by omega)]; omega)) (fun c70 => ?_)
    refine x_aload_n dX4_warmBy_73 rfl rfl ?_
    refine q_gr (K := 0) (b := (g + 1)) dX4_warmBy_74 rfl cl_4 (by decide) tw_396 hg rfl (gr_w hg _) ?_
    refine x_iload dX4_warmBy_77 rfl rfl ?_
    refine x_iconst (1) dX4_warmBy_79 rfl (by decide) ?_
    refine x_iadd dX4_warmBy_80 rfl ?_
    refine q_iald dX4_warmBy_81 rfl (gs_w hg) (by rw [nI_1]; exact vp_in_nI (by omega) (by decide)) ?_
    refine x_aload_n dX4_warmBy_82 rfl rfl ?_
    refine q_gr (K := 0) (b := (g + 1)) dX4_warmBy_83 rfl cl_4 (by decide) tw_396 hg rfl (gr_w hg _) ?_
    refine x_iload dX4_warmBy_86 rfl rfl ?_
    refine q_iald dX4_warmBy_88 rfl (gs_w hg) (vp_in_nI (by omega) (by decide)) ?_
    refine x_isub dX4_warmBy_89 rfl ?_
    refine x_iconst (4) dX4_warmBy_90 rfl (by decide) ?_
    refine x_idiv dX4_warmBy_91 rfl (by decide) ?_
    refine x_nmi (fun v1 ev1 => ?_)
    refine x_istore (L2 := [some (.ref g), some (.ref t), some (.int T), some (.int (nI (la - 1))), some (.int (nI i)), some (.int v1)]) dX4_warmBy_92 rfl (by decide) rfl rfl ?_
    refine x_aload_n dX4_warmBy_94 rfl rfl ?_
    refine q_gr (K := 0) (b := (g + 1)) dX4_warmBy_95 rfl cl_4 (by decide) tw_396 hg rfl (gr_w hg _) ?_
    refine x_iload dX4_warmBy_98 rfl rfl ?_
    refine x_dup2 dX4_warmBy_100 rfl rfl rfl ?_
    refine q_iald dX4_warmBy_101 rfl (gs_w hg) (vp_in_nI (by omega) (by decide)) ?_
    refine x_iload dX4_warmBy_102 rfl rfl ?_
    refine x_iadd dX4_warmBy_104 rfl ?_
    refine q_iast dX4_warmBy_105 rfl (gs_w hg) (vp_in_nI (by omega) (by decide)) (fun I2 eI2 => ?_)
    refine x_aload_n dX4_warmBy_106 rfl rfl ?_
    refine q_gr (K := 0) (b := (g + 1)) dX4_warmBy_107 rfl cl_4 (by decide) tw_396 hg rfl (gr_w hg _) ?_
    refine x_iload dX4_warmBy_110 rfl rfl ?_
    refine x_iconst (1) dX4_warmBy_112 rfl (by decide) ?_
    refine x_iadd dX4_warmBy_113 rfl ?_
    refine x_dup2 dX4_warmBy_114 rfl rfl rfl ?_
    refine q_iald dX4_warmBy_115 rfl (gs_w hg) (by rw [nI_1]; exact vp_in_nI (by omega) (by decide)) ?_
    refine x_iload dX4_warmBy_116 rfl rfl ?_
    refine x_isub dX4_warmBy_118 rfl ?_
    refine q_iast dX4_warmBy_119 rfl (gs_w hg) (by rw [nI_1]; exact vp_in_nI (by omega) (by decide)) (fun I3 eI3 => ?_)
    obtain ⟨v4, ev4⟩ : ∃ y : Int32, y = (nI i) + 1 := ⟨_, rfl⟩
    refine x_iinc (v := v4) (L2 := [some (.ref g), some (.ref t), some (.int T), some (.int (nI (la - 1))), some (.int v4), some (.int v1)]) dX4_warmBy_120 rfl (by decide) rfl rfl (by rw [ev4]; rfl) rfl ?_
    refine x_goto (t := 67) dX4_warmBy_123 (by decide) ?_
    have hc0 : (nI i).toNatClampNeg = i := nI_clamp (by omega)
    have hc1 : (nI (i + 1)).toNatClampNeg = i + 1 := nI_clamp (by omega)
    subst_vars
    simp only [nI_1, hc0, hc1, gPut_w _ _ _ i (show i < 5 by omega), gPut_w _ _ _ (i + 1) (show i + 1 < 5 by omega), gPut_uw _ _ _ i _ (show i < 5 by omega), gPut_uw _ _ _ (i + 1) _ (show i + 1 < 5 by omega)]
    have e9 : ∀ x, upd (condN i G) i x (i + 1) = condN i G (i + 1) := fun x => by simp [upd]
    rw [e9]
    exact ih (i + 1) _ (by omega)
set_option maxRecDepth 100000 in
theorem c_warmBy {g t : Nat} (hg : SH g = (14, 5)) (ht : SH t = (20, 6)) (T : Int32) {so la : Nat} (I : MI) (hso : I t 1 = nI so) (hs4 : so < 4) (hla : I t 4 = nI la) (h1 : 1 ≤ la) (h5 : la ≤ 5) (G : GT) (r : MR) (J : MJ) : Cq yX4_warmBy MX4_warmBy [.ref g, .ref t, .int T] (gPut I g G) r J (Rt none (gPut I g (warmG so la T G)) r J) := by
  have h9 := ts_lt ht
  have h8 := gs_ne2 hg (show t < 60 by omega)
  have hts : ∀ G j, gPut I g G t j = I t j := fun G j => gPut_o _ _ _ _ _ h8.1 h8.2
  refine cq_of [some (.ref g), some (.ref t), some (.int T), none, none, none] 3 (by decide +kernel) rfl rfl (Nat.le_of_ble_eq_true rfl) rfl ?_
  refine x_aload_n dX4_warmBy_0 rfl rfl ?_
  refine q_gi (K := 4) dX4_warmBy_1 rfl cl_10 (by decide) tw_134 ht rfl ?_
  refine x_iconst (1) dX4_warmBy_4 rfl (by decide) ?_
  refine x_isub dX4_warmBy_5 rfl ?_
  refine x_nmi (fun v1 ev1 => ?_)
  refine x_istore_n (L2 := [some (.ref g), some (.ref t), some (.int T), some (.int v1), none, none]) dX4_warmBy_6 rfl (by decide) rfl rfl ?_
  have hv1 : v1 = nI (la - 1) := by
    rw [ev1, hts, hla]
    have := pk_sub (a := la) (b := 1) (by omega)
    exact this
  refine x_aload_n dX4_warmBy_7 rfl rfl ?_
  refine q_gr (K := 0) (b := (g + 1)) dX4_warmBy_8 rfl cl_4 (by decide) tw_396 hg rfl (gr_w hg _) ?_
  refine x_iconst (0) dX4_warmBy_11 rfl (by decide) ?_
  refine x_dup2 dX4_warmBy_12 rfl rfl rfl ?_
  refine q_iald dX4_warmBy_13 rfl (gs_w hg) (vin (by decide)) ?_
  refine x_iload_n dX4_warmBy_14 rfl rfl ?_
  refine x_aload_n dX4_warmBy_15 rfl rfl ?_
  refine q_gr (K := 0) (b := (g + 1)) dX4_warmBy_16 rfl cl_4 (by decide) tw_396 hg rfl (gr_w hg _) ?_
  refine x_iconst (0) dX4_warmBy_19 rfl (by decide) ?_
  refine q_iald dX4_warmBy_20 rfl (gs_w hg) (vin (by decide)) ?_
  refine x_isub dX4_warmBy_21 rfl ?_
  refine x_gets0 dX4_warmBy_22 rfl tw_785 ?_
  refine x_aload_n dX4_warmBy_25 rfl rfl ?_
  refine q_gi (K := 1) dX4_warmBy_26 rfl cl_10 (by decide) tw_127 ht rfl ?_
  refine x_tald0 dX4_warmBy_29 rfl (by rw [hts, hso]; exact vp_in_nI hs4 (by decide)) ?_
  refine x_idiv dX4_warmBy_30 rfl (by rw [hts, hso, nI_clamp (by omega)]; exact TPf_ne hs4) ?_
  refine x_iadd dX4_warmBy_31 rfl ?_
  refine q_iast dX4_warmBy_32 rfl (gs_w hg) (vin (by decide)) (fun I2 eI2 => ?_)
  refine x_aload_n dX4_warmBy_33 rfl rfl ?_
  refine q_gi (K := 1) dX4_warmBy_34 rfl cl_10 (by decide) tw_127 ht rfl ?_
  refine x_iconst (2) dX4_warmBy_37 rfl (by decide) ?_
  refine x_icmp_ne (t := 64) (q := 41) dX4_warmBy_38 (by decide) rfl (fun c38 => ?_) (fun c38 => ?_)
  · refine x_iconst (0) dX4_warmBy_64 rfl (by decide) ?_
    refine x_istore (L2 := [some (.ref g), some (.ref t), some (.int T), some (.int v1), some (.int 0), none]) dX4_warmBy_65 rfl (by decide) rfl rfl ?_
    have hcs : (nI so).toNatClampNeg = so := nI_clamp (by omega)
    have hcl : (nI (la - 1)).toNatClampNeg = la - 1 := nI_clamp (by omega)
    have hI2 : I2 = gPut I g (topG so T G) := by
      rw [eI2]
      simp only [hts, hso, hcs, cl_lit0, gPut_w, gPut_uw, Nat.reduceLT]
      rfl
    have e9 : I2 = gPut I g (condN 0 (lastG so la T (topG so T G))) := by
      rw [eI2]
      simp only [hts, hso, hcs, cl_lit0, gPut_w, gPut_uw, Nat.reduceLT]
      refine congrArg (gPut I g) (Eq.trans rfl (Eq.symm (if_neg ?_)))
      rintro ⟨q1, q2⟩
      rw [hI2, hts, hso, q1] at c38
      exact c38 rfl
    rw [e9, hv1]
    exact l_warm hg ht T h1 h5 I _ r J (la - 1) 0 _ (by omega)
  · refine x_iload_n dX4_warmBy_41 rfl rfl ?_
    refine x_if_le (t := 64) (q := 45) dX4_warmBy_42 (by decide) rfl (fun c42 => ?_) (fun c42 => ?_)
    · refine x_iconst (0) dX4_warmBy_64 rfl (by decide) ?_
      refine x_istore (L2 := [some (.ref g), some (.ref t), some (.int T), some (.int v1), some (.int 0), none]) dX4_warmBy_65 rfl (by decide) rfl rfl ?_
      have hcs : (nI so).toNatClampNeg = so := nI_clamp (by omega)
      have hcl : (nI (la - 1)).toNatClampNeg = la - 1 := nI_clamp (by omega)
      have hI2 : I2 = gPut I g (topG so T G) := by
        rw [eI2]
        simp only [hts, hso, hcs, cl_lit0, gPut_w, gPut_uw, Nat.reduceLT]
        rfl
      have e9 : I2 = gPut I g (condN 0 (lastG so la T (topG so T G))) := by
        rw [eI2]
        simp only [hts, hso, hcs, cl_lit0, gPut_w, gPut_uw, Nat.reduceLT]
        refine congrArg (gPut I g) (Eq.trans rfl (Eq.symm (if_neg ?_)))
        rintro ⟨q1, q2⟩
        rw [hv1] at c42
        have := (nI_leI (a := la - 1) (b := 0) (by omega) (by omega)).mp c42
        omega
      rw [e9, hv1]
      exact l_warm hg ht T h1 h5 I _ r J (la - 1) 0 _ (by omega)
    · refine x_aload_n dX4_warmBy_45 rfl rfl ?_
      refine q_gr (K := 0) (b := (g + 1)) dX4_warmBy_46 rfl cl_4 (by decide) tw_396 hg rfl (gr_w hg _) ?_
      refine x_iload_n dX4_warmBy_49 rfl rfl ?_
      refine x_dup2 dX4_warmBy_50 rfl rfl rfl ?_
      refine q_iald dX4_warmBy_51 rfl (gs_w hg) (by rw [hv1]; exact vp_in_nI (by omega) (by decide)) ?_
      refine x_iload_n dX4_warmBy_52 rfl rfl ?_
      refine x_aload_n dX4_warmBy_53 rfl rfl ?_
      refine q_gr (K := 0) (b := (g + 1)) dX4_warmBy_54 rfl cl_4 (by decide) tw_396 hg rfl (gr_w hg _) ?_
      refine x_iload_n dX4_warmBy_57 rfl rfl ?_
      refine q_iald dX4_warmBy_58 rfl (gs_w hg) (by rw [hv1]; exact vp_in_nI (by omega) (by decide)) ?_
      refine x_isub dX4_warmBy_59 rfl ?_
      refine x_iconst (4) dX4_warmBy_60 rfl (by decide) ?_
      refine x_idiv dX4_warmBy_61 rfl (by decide) ?_
      refine x_iadd dX4_warmBy_62 rfl ?_
      refine q_iast dX4_warmBy_63 rfl (gs_w hg) (by rw [hv1]; exact vp_in_nI (by omega) (by decide)) (fun I3 eI3 => ?_)
      refine x_iconst (0) dX4_warmBy_64 rfl (by decide) ?_
      refine x_istore (L2 := [some (.ref g), some (.ref t), some (.int T), some (.int v1), some (.int 0), none]) dX4_warmBy_65 rfl (by decide) rfl rfl ?_
      have hcs : (nI so).toNatClampNeg = so := nI_clamp (by omega)
      have hcl : (nI (la - 1)).toNatClampNeg = la - 1 := nI_clamp (by omega)
      have hI2 : I2 = gPut I g (topG so T G) := by
        rw [eI2]
        simp only [hts, hso, hcs, cl_lit0, gPut_w, gPut_uw, Nat.reduceLT]
        rfl
      have e9 : I3 = gPut I g (condN 0 (lastG so la T (topG so T G))) := by
        rw [eI3, eI2, hv1]
        simp only [hts, hso, hcs, hcl, cl_lit0, gPut_w, gPut_uw, gPut_w _ _ _ (la - 1) (show la - 1 < 5 by omega), gPut_uw _ _ _ (la - 1) _ (show la - 1 < 5 by omega), Nat.reduceLT]
        refine congrArg (gPut I g) (Eq.trans rfl (Eq.symm (if_pos ⟨?_, ?_⟩)))
        · rw [hI2, hts, hso] at c38
          exact (nI_eq (by omega) (by omega)).mp c38
        · rw [hv1] at c42
          have c43 : ¬ (la - 1 ≤ 0) := fun q => c42 ((nI_leI (a := la - 1) (b := 0) (by omega) (by omega)).mpr q)
          omega
      rw [e9, hv1]
      exact l_warm hg ht T h1 h5 I _ r J (la - 1) 0 _ (by omega)
