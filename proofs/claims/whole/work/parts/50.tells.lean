set_option maxRecDepth 100000 in
theorem l_wbm {I : MI} {b yn hn y s l : Nat} (hL : LOk I b yn hn) (hD : RLd I b yn hn) (hy : y < yn) {sh : Int32} (hsh : ShOk sh) (hs : s ≤ 72) (hl : l < laN I b y) (r : MR) (J : MJ) : ∀ (f : Nat) (k : Nat) (_ : k + f = s), Wq MX12_warmBehind 8 [some (.ref 100), some (.int (nI y)), some (.int (nI l)), some (.int (nI s)), some (.int sh), some (.int (nI k))] [] (mPut I (trajY I b y hn sh 0 k (wGet I y))) r J (Rm (warmAt I b y hn sh s l) I r J) := by
  have h8 : yn ≤ 8 := hL.2.2.1
  have h5 := (la5 hL hy).2
  have hG : GB (laN I b y) 0 (wGet I y) := GB_GE (GE_beg hL hD hy) (GB_beg hL hy)
  intro f
  induction f with
  | zero =>
    intro k hik
    refine x_iload (q := 10) dX12_warmBehind_8 rfl rfl ?_
    refine x_iload_n (q := 11) dX12_warmBehind_10 rfl rfl ?_
    refine x_icmp_ge (t := 29) (q := 14) dX12_warmBehind_11 (by decide) rfl (fun c11 => ?_) (fun c11 => absurd c11 (fun q => q (nI_le (by omega) (by omega))))
    refine x_aload_n (q := 30) dX12_warmBehind_29 rfl rfl ?_
    refine q_gr (K := 48) (b := 125) (q := 33) dX12_warmBehind_30 rfl cl_12 (by decide) tw_1130 rfl rfl rfl ?_
    refine x_iload_n (q := 34) dX12_warmBehind_33 rfl rfl ?_
    refine q_iald (q := 35) dX12_warmBehind_34 rfl rfl (vp_in_nI (by omega) (by decide)) ?_
    refine q_iret dX12_warmBehind_35 rfl ?_
    rw [nI_clamp (by omega), mPut_w _ _ _ (by omega), show k = s by omega]
    have e9 : trajY I b y hn sh 0 s (wGet I y) l = (warmAt I b y hn sh s l) := (GE_traj hL hy (GE_beg hL hD hy) s).1 l hl
    rw [e9]
    exact ⟨rfl, ⟨_, rfl⟩, rfl, rfl⟩
  | succ f ih =>
    intro k hik
    refine x_iload (q := 10) dX12_warmBehind_8 rfl rfl ?_
    refine x_iload_n (q := 11) dX12_warmBehind_10 rfl rfl ?_
    refine x_icmp_ge (t := 29) (q := 14) dX12_warmBehind_11 (by decide) rfl (fun c11 => absurd c11 (nI_ge (by omega) (by omega))) (fun c11 => ?_)
    refine x_aload_n (q := 15) dX12_warmBehind_14 rfl rfl ?_
    refine x_iload_n (q := 16) dX12_warmBehind_15 rfl rfl ?_
    refine x_iload (q := 18) dX12_warmBehind_16 rfl rfl ?_
    refine x_iload (q := 20) dX12_warmBehind_18 rfl rfl ?_
    refine q_callV (ci := 12) (N := 79) (T := TX12) (As := [.int (nI y), .int (nI k), .int sh]) (rest := []) (q := 23) dX12_warmBehind_20 rfl okX12_goOn tw_1457 rfl rfl (by have q := c_mstep (s := 0 + k) (n := 0 + k) hL hD hy hsh (by omega) (by omega) (GB_traj hL hy hsh 0 hG k (by omega)) r J; rw [Nat.zero_add] at q; exact q) rfl rfl (Nat.le_of_ble_eq_true rfl) ⟨by decide, by decide⟩ ⟨rfl, rfl⟩ (fun rv_ I_ r_ J_ hv_ => ?_)
    obtain ⟨a1_, a2_, a3_, a4_⟩ := hv_
    rw [show stepY I b y hn sh k (trajY I b y hn sh 0 k (wGet I y)) = (trajY I b y hn sh 0 (k + 1) (wGet I y)) by show _ = stepY I b y hn sh (0 + k) _; rw [Nat.zero_add]] at a2_
    rw [a1_, a2_, a3_, a4_]
    show Wq MX12_warmBehind 23 [some (.ref 100), some (.int (nI y)), some (.int (nI l)), some (.int (nI s)), some (.int sh), some (.int (nI k))] [] (mPut I (trajY I b y hn sh 0 (k + 1) (wGet I y))) r J _
    obtain ⟨v1, ev1⟩ : ∃ y_ : Int32, y_ = (nI k) + 1 := ⟨_, rfl⟩
    refine x_iinc (v := v1) (L2 := [some (.ref 100), some (.int (nI y)), some (.int (nI l)), some (.int (nI s)), some (.int sh), some (.int v1)]) (q := 26) dX12_warmBehind_23 rfl (by decide) rfl rfl (by rw [ev1]; rfl) rfl ?_
    refine x_goto (t := 8) dX12_warmBehind_26 (by decide) ?_
    rw [show v1 = nI (k + 1) by rw [ev1, nI_p1]]
    exact ih (k + 1) (by omega)
set_option maxRecDepth 100000 in
theorem c_wbm {I : MI} {b yn hn y s l : Nat} (hL : LOk I b yn hn) (hD : RLd I b yn hn) (hy : y < yn) {sh : Int32} (hsh : ShOk sh) (hs : s ≤ 72) (hl : l < laN I b y) (r : MR) (J : MJ) : Cq yX12_warmBehind MX12_warmBehind [.ref 100, .int (nI y), .int (nI l), .int (nI s), .int sh] I r J (Rm (warmAt I b y hn sh s l) I r J) := by
  have h8 : yn ≤ 8 := hL.2.2.1
  have h5 := (la5 hL hy).2
  have hG : GB (laN I b y) 0 (wGet I y) := GB_GE (GE_beg hL hD hy) (GB_beg hL hy)
  refine cq_of [some (.ref 100), some (.int (nI y)), some (.int (nI l)), some (.int (nI s)), some (.int sh), none] 1 (by decide +kernel) rfl rfl (Nat.le_of_ble_eq_true rfl) rfl ?_
  refine x_aload_n (q := 1) dX12_warmBehind_0 rfl rfl ?_
  refine x_iload_n (q := 2) dX12_warmBehind_1 rfl rfl ?_
  refine q_callV (ci := 12) (N := 79) (T := TX12) (As := [.int (nI y)]) (rest := []) (q := 5) dX12_warmBehind_2 rfl okX12_beginYard tw_1548 rfl rfl (by have q := c_beginYard y (by omega) I (mGet I) r J; rw [mPut_get] at q; exact q) rfl rfl (Nat.le_of_ble_eq_true rfl) ⟨by decide, by decide⟩ ⟨rfl, rfl⟩ (fun rv_ I_ r_ J_ hv_ => ?_)
  obtain ⟨a1_, a2_, a3_, a4_⟩ := hv_
  rw [a1_, a2_, a3_, a4_]
  show Wq MX12_warmBehind 5 [some (.ref 100), some (.int (nI y)), some (.int (nI l)), some (.int (nI s)), some (.int sh), none] [] (mPut I (wGet I y)) r J _
  refine x_iconst (0) (q := 6) dX12_warmBehind_5 rfl (by decide) ?_
  refine x_istore (L2 := [some (.ref 100), some (.int (nI y)), some (.int (nI l)), some (.int (nI s)), some (.int sh), some (.int 0)]) (q := 8) dX12_warmBehind_6 rfl (by decide) rfl rfl ?_
  exact l_wbm hL hD hy hsh hs hl r J s 0 (by omega)
def wdP (I : MI) (b hn s y l k : Nat) (X : MI) : Prop := Kp I X ∧ ∀ q, q < k → X 141 q = tvV I b hn s y l q
set_option maxRecDepth 100000 in
theorem l_gp1 {I : MI} {b yn wn hn sn st : Nat} (hb : b ≤ 28) (r : MR) (J : MJ) (h : RelL I b yn wn hn sn st) {y l s N : Nat} (hy : y < yn) (hl : l < laN I b y) (hs : s ≤ 72) (hN : N < 1000) {X : MI} (hX : wdP I b hn s y l sn X) {i mo : Nat} (hi : i < sn) (post : Option Value → MI → MR → MJ → Prop) (kx : ∀ (x8 : Option Value), Wq MX12_greatestPart 126 [some (.ref 100), some (.int (nI y)), some (.int (nI l)), some (.int (nI s)), some (.int (nI N)), some (.int (nI mo)), some (.int (nI i)), some (.int (nI (cA (tvV I b hn s y l) N i sn))), x8] [] X r J post) : ∀ (f : Nat) (j : Nat) (_ : j + f = sn), Wq MX12_greatestPart 73 [some (.ref 100), some (.int (nI y)), some (.int (nI l)), some (.int (nI s)), some (.int (nI N)), some (.int (nI mo)), some (.int (nI i)), some (.int (nI (cA (tvV I b hn s y l) N i j))), some (.int (nI j))] [] X r J (post) := by
  have h8 : yn ≤ 8 := h.1.2.2.1
  have hs7 : sn ≤ 7 := h.2.1.2.2.2.1
  have es : I 100 44 = nI sn := h.2.2.2.1.2.1
  have esX : X 100 44 = nI sn := by rw [hX.1 100 44 (by unfold scr; omega)]; exact es
  intro f
  induction f with
  | zero =>
    intro j hjk
    refine x_iload (q := 75) dX12_greatestPart_73 rfl rfl ?_
    refine x_aload_n (q := 76) dX12_greatestPart_75 rfl rfl ?_
    refine q_gi (K := 44) (q := 79) dX12_greatestPart_76 rfl cl_12 (by decide) tw_1126 rfl rfl ?_
    refine x_icmp_ge (t := 126) (q := 82) dX12_greatestPart_79 (by decide) rfl (fun c79 => ?_) (fun c79 => absurd c79 (fun q => q (by rw [esX]; exact nI_le (by omega) (by omega))))
    have e9 : j = sn := by omega
    subst e9
    exact kx _
  | succ f ih =>
    intro j hjk
    refine x_iload (q := 75) dX12_greatestPart_73 rfl rfl ?_
    refine x_aload_n (q := 76) dX12_greatestPart_75 rfl rfl ?_
    refine q_gi (K := 44) (q := 79) dX12_greatestPart_76 rfl cl_12 (by decide) tw_1126 rfl rfl ?_
    refine x_icmp_ge (t := 126) (q := 82) dX12_greatestPart_79 (by decide) rfl (fun c79 => absurd c79 (by rw [esX]; exact nI_ge (by omega) (by omega))) (fun c79 => ?_)
    refine x_iload (q := 84) dX12_greatestPart_82 rfl rfl ?_
    refine x_iload (q := 86) dX12_greatestPart_84 rfl rfl ?_
    refine x_iload (q := 88) dX12_greatestPart_86 rfl rfl ?_
    refine x_ishr (q := 89) dX12_greatestPart_88 rfl ?_
    refine x_iconst (1) (q := 90) dX12_greatestPart_89 rfl (by decide) ?_
    refine x_iand (q := 91) dX12_greatestPart_90 rfl ?_
    refine x_iconst (1) (q := 92) dX12_greatestPart_91 rfl (by decide) ?_
    refine x_icmp_ne (t := 116) (q := 95) dX12_greatestPart_92 (by decide) rfl (fun c92 => ?_) (fun c92 => ?_)
    · refine x_iconst (0) (q := 117) dX12_greatestPart_116 rfl (by decide) ?_
      refine x_iadd (q := 118) dX12_greatestPart_117 rfl ?_
      refine x_nmi (fun v1 ev1 => ?_)
      refine x_istore (L2 := [some (.ref 100), some (.int (nI y)), some (.int (nI l)), some (.int (nI s)), some (.int (nI N)), some (.int (nI mo)), some (.int (nI i)), some (.int v1), some (.int (nI j))]) (q := 120) dX12_greatestPart_118 rfl (by decide) rfl rfl ?_
      obtain ⟨v2, ev2⟩ : ∃ y_ : Int32, y_ = (nI j) + 1 := ⟨_, rfl⟩
      refine x_iinc (v := v2) (L2 := [some (.ref 100), some (.int (nI y)), some (.int (nI l)), some (.int (nI s)), some (.int (nI N)), some (.int (nI mo)), some (.int (nI i)), some (.int v1), some (.int v2)]) (q := 123) dX12_greatestPart_120 rfl (by decide) rfl rfl (by rw [ev2]; rfl) rfl ?_
      refine x_goto (t := 73) dX12_greatestPart_123 (by decide) ?_
      rw [show v2 = nI (j + 1) by rw [ev2, nI_p1]]
      try rw [nI_clamp (by omega), nI_clamp (by omega), hX.2 j (by omega), hX.2 i hi] at c109
      have e9 : v1 = nI (cA (tvV I b hn s y l) N i (j + 1)) := by
        rw [ev1, cA_s]
        cases q : N.testBit j
        · first | (exact absurd ((bit_1 (by omega) (by omega)).mp (Classical.not_not.mp c92)) (by rw [q]; decide)) | (exact absurd ((bit_1 (by omega) (by omega)).mp c92) (by rw [q]; decide)) | (rw [Bool.false_and, if_neg (by decide)]; exact nI_add _ 0)
        · first | (exact absurd ((bit_1 (by omega) (by omega)).mpr q) c92) | (rw [Bool.true_and, if_pos (decide_eq_true (Classical.not_not.mp c109))]; exact nI_add _ 1) | (rw [Bool.true_and, if_pos (decide_eq_true c109)]; exact nI_add _ 1) | (rw [Bool.true_and, if_neg (fun z => c109 (of_decide_eq_true z))]; exact nI_add _ 0)
      rw [e9]
      exact ih (j + 1) (by omega)
    · refine x_aload_n (q := 96) dX12_greatestPart_95 rfl rfl ?_
      refine q_gr (K := 74) (b := 141) (q := 99) dX12_greatestPart_96 rfl cl_12 (by decide) tw_1156 rfl rfl rfl ?_
      refine x_iload (q := 101) dX12_greatestPart_99 rfl rfl ?_
      refine q_iald (q := 102) dX12_greatestPart_101 rfl rfl (vp_in_nI (by omega) (by decide)) ?_
      refine x_aload_n (q := 103) dX12_greatestPart_102 rfl rfl ?_
      refine q_gr (K := 74) (b := 141) (q := 106) dX12_greatestPart_103 rfl cl_12 (by decide) tw_1156 rfl rfl rfl ?_
      refine x_iload (q := 108) dX12_greatestPart_106 rfl rfl ?_
      refine q_iald (q := 109) dX12_greatestPart_108 rfl rfl (vp_in_nI (by omega) (by decide)) ?_
      refine x_icmp_ne (t := 116) (q := 112) dX12_greatestPart_109 (by decide) rfl (fun c109 => ?_) (fun c109 => ?_)
      · refine x_iconst (0) (q := 117) dX12_greatestPart_116 rfl (by decide) ?_
        refine x_iadd (q := 118) dX12_greatestPart_117 rfl ?_
        refine x_nmi (fun v3 ev3 => ?_)
        refine x_istore (L2 := [some (.ref 100), some (.int (nI y)), some (.int (nI l)), some (.int (nI s)), some (.int (nI N)), some (.int (nI mo)), some (.int (nI i)), some (.int v3), some (.int (nI j))]) (q := 120) dX12_greatestPart_118 rfl (by decide) rfl rfl ?_
        obtain ⟨v4, ev4⟩ : ∃ y_ : Int32, y_ = (nI j) + 1 := ⟨_, rfl⟩
        refine x_iinc (v := v4) (L2 := [some (.ref 100), some (.int (nI y)), some (.int (nI l)), some (.int (nI s)), some (.int (nI N)), some (.int (nI mo)), some (.int (nI i)), some (.int v3), some (.int v4)]) (q := 123) dX12_greatestPart_120 rfl (by decide) rfl rfl (by rw [ev4]; rfl) rfl ?_
        refine x_goto (t := 73) dX12_greatestPart_123 (by decide) ?_
        rw [show v4 = nI (j + 1) by rw [ev4, nI_p1]]
        try rw [nI_clamp (by omega), nI_clamp (by omega), hX.2 j (by omega), hX.2 i hi] at c109
        have e9 : v3 = nI (cA (tvV I b hn s y l) N i (j + 1)) := by
          rw [ev3, cA_s]
          cases q : N.testBit j
          · first | (exact absurd ((bit_1 (by omega) (by omega)).mp (Classical.not_not.mp c92)) (by rw [q]; decide)) | (exact absurd ((bit_1 (by omega) (by omega)).mp c92) (by rw [q]; decide)) | (rw [Bool.false_and, if_neg (by decide)]; exact nI_add _ 0)
          · first | (exact absurd ((bit_1 (by omega) (by omega)).mpr q) c92) | (rw [Bool.true_and, if_pos (decide_eq_true (Classical.not_not.mp c109))]; exact nI_add _ 1) | (rw [Bool.true_and, if_pos (decide_eq_true c109)]; exact nI_add _ 1) | (rw [Bool.true_and, if_neg (fun z => c109 (of_decide_eq_true z))]; exact nI_add _ 0)
        rw [e9]
        exact ih (j + 1) (by omega)
      · refine x_iconst (1) (q := 113) dX12_greatestPart_112 rfl (by decide) ?_
        refine x_goto (t := 117) dX12_greatestPart_113 (by decide) ?_
        refine x_iadd (q := 118) dX12_greatestPart_117 rfl ?_
        refine x_nmi (fun v5 ev5 => ?_)
        refine x_istore (L2 := [some (.ref 100), some (.int (nI y)), some (.int (nI l)), some (.int (nI s)), some (.int (nI N)), some (.int (nI mo)), some (.int (nI i)), some (.int v5), some (.int (nI j))]) (q := 120) dX12_greatestPart_118 rfl (by decide) rfl rfl ?_
        obtain ⟨v6, ev6⟩ : ∃ y_ : Int32, y_ = (nI j) + 1 := ⟨_, rfl⟩
        refine x_iinc (v := v6) (L2 := [some (.ref 100), some (.int (nI y)), some (.int (nI l)), some (.int (nI s)), some (.int (nI N)), some (.int (nI mo)), some (.int (nI i)), some (.int v5), some (.int v6)]) (q := 123) dX12_greatestPart_120 rfl (by decide) rfl rfl (by rw [ev6]; rfl) rfl ?_
        refine x_goto (t := 73) dX12_greatestPart_123 (by decide) ?_
        rw [show v6 = nI (j + 1) by rw [ev6, nI_p1]]
        try rw [nI_clamp (by omega), nI_clamp (by omega), hX.2 j (by omega), hX.2 i hi] at c109
        have e9 : v5 = nI (cA (tvV I b hn s y l) N i (j + 1)) := by
          rw [ev5, cA_s]
          cases q : N.testBit j
          · first | (exact absurd ((bit_1 (by omega) (by omega)).mp (Classical.not_not.mp c92)) (by rw [q]; decide)) | (exact absurd ((bit_1 (by omega) (by omega)).mp c92) (by rw [q]; decide)) | (rw [Bool.false_and, if_neg (by decide)]; exact nI_add _ 0)
          · first | (exact absurd ((bit_1 (by omega) (by omega)).mpr q) c92) | (rw [Bool.true_and, if_pos (decide_eq_true (Classical.not_not.mp c109))]; exact nI_add _ 1) | (rw [Bool.true_and, if_pos (decide_eq_true c109)]; exact nI_add _ 1) | (rw [Bool.true_and, if_neg (fun z => c109 (of_decide_eq_true z))]; exact nI_add _ 0)
        rw [e9]
        exact ih (j + 1) (by omega)
set_option maxRecDepth 100000 in
theorem l_gp2 {I : MI} {b yn wn hn sn st : Nat} (hb : b ≤ 28) (r : MR) (J : MJ) (h : RelL I b yn wn hn sn st) {y l s N : Nat} (hy : y < yn) (hl : l < laN I b y) (hs : s ≤ 72) (hN : N < 1000) {X : MI} (hX : wdP I b hn s y l sn X) : ∀ (f : Nat) (i : Nat) (x7 x8 : Option Value) (_ : i + f = sn), Wq MX12_greatestPart 45 [some (.ref 100), some (.int (nI y)), some (.int (nI l)), some (.int (nI s)), some (.int (nI N)), some (.int (nI (mA (tvV I b hn s y l) N sn i))), some (.int (nI i)), x7, x8] [] X r J (Rk (nI (mA (tvV I b hn s y l) N sn sn)) I r J) := by
  have h8 : yn ≤ 8 := h.1.2.2.1
  have hs7 : sn ≤ 7 := h.2.1.2.2.2.1
  have es : I 100 44 = nI sn := h.2.2.2.1.2.1
  have esX : X 100 44 = nI sn := by rw [hX.1 100 44 (by unfold scr; omega)]; exact es
  intro f
  induction f with
  | zero =>
    intro i x7 x8 hik
    refine x_iload (q := 47) dX12_greatestPart_45 rfl rfl ?_
    refine x_aload_n (q := 48) dX12_greatestPart_47 rfl rfl ?_
    refine q_gi (K := 44) (q := 51) dX12_greatestPart_48 rfl cl_12 (by decide) tw_1126 rfl rfl ?_
    refine x_icmp_ge (t := 148) (q := 54) dX12_greatestPart_51 (by decide) rfl (fun c51 => ?_) (fun c51 => absurd c51 (fun q => q (by rw [esX]; exact nI_le (by omega) (by omega))))
    refine x_iload (q := 150) dX12_greatestPart_148 rfl rfl ?_
    refine q_iret dX12_greatestPart_150 rfl ?_
    rw [show i = sn by omega]
    exact ⟨rfl, hX.1, rfl, rfl⟩
  | succ f ih =>
    intro i x7 x8 hik
    refine x_iload (q := 47) dX12_greatestPart_45 rfl rfl ?_
    refine x_aload_n (q := 48) dX12_greatestPart_47 rfl rfl ?_
    refine q_gi (K := 44) (q := 51) dX12_greatestPart_48 rfl cl_12 (by decide) tw_1126 rfl rfl ?_
    refine x_icmp_ge (t := 148) (q := 54) dX12_greatestPart_51 (by decide) rfl (fun c51 => absurd c51 (by rw [esX]; exact nI_ge (by omega) (by omega))) (fun c51 => ?_)
    refine x_iload (q := 56) dX12_greatestPart_54 rfl rfl ?_
    refine x_iload (q := 58) dX12_greatestPart_56 rfl rfl ?_
    refine x_ishr (q := 59) dX12_greatestPart_58 rfl ?_
    refine x_iconst (1) (q := 60) dX12_greatestPart_59 rfl (by decide) ?_
    refine x_iand (q := 61) dX12_greatestPart_60 rfl ?_
    refine x_if_ne (t := 67) (q := 64) dX12_greatestPart_61 (by decide) rfl (fun c61 => ?_) (fun c61 => ?_)
    · refine x_iconst (0) (q := 68) dX12_greatestPart_67 rfl (by decide) ?_
      refine x_istore (L2 := [some (.ref 100), some (.int (nI y)), some (.int (nI l)), some (.int (nI s)), some (.int (nI N)), some (.int (nI (mA (tvV I b hn s y l) N sn i))), some (.int (nI i)), some (.int 0), x8]) (q := 70) dX12_greatestPart_68 rfl (by decide) rfl rfl ?_
      refine x_iconst (0) (q := 71) dX12_greatestPart_70 rfl (by decide) ?_
      refine x_istore (L2 := [some (.ref 100), some (.int (nI y)), some (.int (nI l)), some (.int (nI s)), some (.int (nI N)), some (.int (nI (mA (tvV I b hn s y l) N sn i))), some (.int (nI i)), some (.int 0), some (.int 0)]) (q := 73) dX12_greatestPart_71 rfl (by decide) rfl rfl ?_
      have hbi : N.testBit i = true := by
        cases q : N.testBit i
        · exact absurd ((bit_0 (by omega) (by omega)).mpr q) c61
        · rfl
      have b1 := mA_le (tvV I b hn s y l) N sn i
      have b2 := cA_le (tvV I b hn s y l) N i sn
      refine l_gp1 hb r J h hy hl hs hN hX (i := i) (by omega) _ (fun y8 => ?_) sn 0 (by omega)
      refine x_iload (q := 128) dX12_greatestPart_126 rfl rfl ?_
      refine x_iload (q := 130) dX12_greatestPart_128 rfl rfl ?_
      refine x_icmp_le (t := 138) (q := 133) dX12_greatestPart_130 (by decide) rfl (fun c130 => ?_) (fun c130 => ?_)
      · refine x_iload (q := 140) dX12_greatestPart_138 rfl rfl ?_
        refine x_istore (L2 := [some (.ref 100), some (.int (nI y)), some (.int (nI l)), some (.int (nI s)), some (.int (nI N)), some (.int (nI (mA (tvV I b hn s y l) N sn i))), some (.int (nI i)), some (.int (nI (cA (tvV I b hn s y l) N i sn))), y8]) (q := 142) dX12_greatestPart_140 rfl (by decide) rfl rfl ?_
        obtain ⟨v41, ev41⟩ : ∃ y_ : Int32, y_ = (nI i) + 1 := ⟨_, rfl⟩
        refine x_iinc (v := v41) (L2 := [some (.ref 100), some (.int (nI y)), some (.int (nI l)), some (.int (nI s)), some (.int (nI N)), some (.int (nI (mA (tvV I b hn s y l) N sn i))), some (.int v41), some (.int (nI (cA (tvV I b hn s y l) N i sn))), y8]) (q := 145) dX12_greatestPart_142 rfl (by decide) rfl rfl (by rw [ev41]; rfl) rfl ?_
        refine x_goto (t := 45) dX12_greatestPart_145 (by decide) ?_
        rw [show v41 = nI (i + 1) by rw [ev41, nI_p1]]
        have e9 : (mA (tvV I b hn s y l) N sn (i + 1)) = (mA (tvV I b hn s y l) N sn i) := by
          rw [mA_s, hbi, if_pos rfl, if_neg (fun z => absurd ((nI_leI (by omega) (by omega)).mp c130) (by omega))]
        rw [← e9]
        exact ih (i + 1) _ _ (by omega)
      · refine x_iload (q := 135) dX12_greatestPart_133 rfl rfl ?_
        refine x_goto (t := 140) dX12_greatestPart_135 (by decide) ?_
        refine x_istore (L2 := [some (.ref 100), some (.int (nI y)), some (.int (nI l)), some (.int (nI s)), some (.int (nI N)), some (.int (nI (cA (tvV I b hn s y l) N i sn))), some (.int (nI i)), some (.int (nI (cA (tvV I b hn s y l) N i sn))), y8]) (q := 142) dX12_greatestPart_140 rfl (by decide) rfl rfl ?_
        obtain ⟨v42, ev42⟩ : ∃ y_ : Int32, y_ = (nI i) + 1 := ⟨_, rfl⟩
        refine x_iinc (v := v42) (L2 := [some (.ref 100), some (.int (nI y)), some (.int (nI l)), some (.int (nI s)), some (.int (nI N)), some (.int (nI (cA (tvV I b hn s y l) N i sn))), some (.int v42), some (.int (nI (cA (tvV I b hn s y l) N i sn))), y8]) (q := 145) dX12_greatestPart_142 rfl (by decide) rfl rfl (by rw [ev42]; rfl) rfl ?_
        refine x_goto (t := 45) dX12_greatestPart_145 (by decide) ?_
        rw [show v42 = nI (i + 1) by rw [ev42, nI_p1]]
        have e9 : cA (tvV I b hn s y l) N i sn = (mA (tvV I b hn s y l) N sn (i + 1)) := by
          rw [mA_s, hbi, if_pos rfl, if_pos (by rcases Nat.lt_or_ge (mA (tvV I b hn s y l) N sn i) (cA (tvV I b hn s y l) N i sn) with z | z; exact z; exact absurd (nI_le z (by omega)) c130)]
        rw [e9]
        exact ih (i + 1) _ _ (by omega)
    · refine x_goto (t := 142) dX12_greatestPart_64 (by decide) ?_
      obtain ⟨v1, ev1⟩ : ∃ y_ : Int32, y_ = (nI i) + 1 := ⟨_, rfl⟩
      refine x_iinc (v := v1) (L2 := [some (.ref 100), some (.int (nI y)), some (.int (nI l)), some (.int (nI s)), some (.int (nI N)), some (.int (nI (mA (tvV I b hn s y l) N sn i))), some (.int v1), x7, x8]) (q := 145) dX12_greatestPart_142 rfl (by decide) rfl rfl (by rw [ev1]; rfl) rfl ?_
      refine x_goto (t := 45) dX12_greatestPart_145 (by decide) ?_
      rw [show v1 = nI (i + 1) by rw [ev1, nI_p1]]
      have e9 : (mA (tvV I b hn s y l) N sn (i + 1)) = (mA (tvV I b hn s y l) N sn i) := by rw [mA_s, (bit_0 (by omega) (by omega)).mp c61, if_neg Bool.false_ne_true]
      rw [← e9]
      exact ih (i + 1) _ _ (by omega)
set_option maxRecDepth 100000 in
theorem l_gp3 {I : MI} {b yn wn hn sn st : Nat} (hb : b ≤ 28) (r : MR) (J : MJ) (h : RelL I b yn wn hn sn st) {y l s N : Nat} (hy : y < yn) (hl : l < laN I b y) (hs : s ≤ 72) (hN : N < 1000) : ∀ (f : Nat) (k : Nat) (X : MI) (x6 x7 x8 : Option Value) (_ : k + f = sn) (_ : wdP I b hn s y l k X), Wq MX12_greatestPart 3 [some (.ref 100), some (.int (nI y)), some (.int (nI l)), some (.int (nI s)), some (.int (nI N)), some (.int (nI k)), x6, x7, x8] [] X r J (Rk (nI (mA (tvV I b hn s y l) N sn sn)) I r J) := by
  have h8 : yn ≤ 8 := h.1.2.2.1
  have hs7 : sn ≤ 7 := h.2.1.2.2.2.1
  have es : I 100 44 = nI sn := h.2.2.2.1.2.1
  intro f
  induction f with
  | zero =>
    intro k X x6 x7 x8 hkk hX
    have esX : X 100 44 = nI sn := by rw [hX.1 100 44 (by unfold scr; omega)]; exact es
    refine x_iload (q := 5) dX12_greatestPart_3 rfl rfl ?_
    refine x_aload_n (q := 6) dX12_greatestPart_5 rfl rfl ?_
    refine q_gi (K := 44) (q := 9) dX12_greatestPart_6 rfl cl_12 (by decide) tw_1126 rfl rfl ?_
    refine x_icmp_ge (t := 39) (q := 12) dX12_greatestPart_9 (by decide) rfl (fun c9 => ?_) (fun c9 => absurd c9 (fun q => q (by rw [esX]; exact nI_le (by omega) (by omega))))
    refine x_iconst (0) (q := 40) dX12_greatestPart_39 rfl (by decide) ?_
    refine x_istore (L2 := [some (.ref 100), some (.int (nI y)), some (.int (nI l)), some (.int (nI s)), some (.int (nI N)), some (.int 0), x6, x7, x8]) (q := 42) dX12_greatestPart_40 rfl (by decide) rfl rfl ?_
    refine x_iconst (0) (q := 43) dX12_greatestPart_42 rfl (by decide) ?_
    refine x_istore (L2 := [some (.ref 100), some (.int (nI y)), some (.int (nI l)), some (.int (nI s)), some (.int (nI N)), some (.int 0), some (.int 0), x7, x8]) (q := 45) dX12_greatestPart_43 rfl (by decide) rfl rfl ?_
    have e9 : k = sn := by omega
    subst e9
    exact l_gp2 hb r J h hy hl hs hN hX _ 0 _ _ (Nat.zero_add _)
  | succ f ih =>
    intro k X x6 x7 x8 hkk hX
    have esX : X 100 44 = nI sn := by rw [hX.1 100 44 (by unfold scr; omega)]; exact es
    have hRX := RelL_k hX.1 hb h
    have hci : (nI k).toNatClampNeg = k := nI_clamp (by omega)
    have esl : X 123 k = X (b + 8) k := (hRX.2.2.2.1.2.2.2.2.2.1 k (by omega)).1
    have hsh : ShOk (X (b + 8) k) := (hRX.2.1.2.2.2.2.1 k (by omega)).1
    have hcX := hX.1.L hb
    have ev : warmAt X b y hn (X (b + 8) k) s l = tvV I b hn s y l k := by
      unfold tvV warmAt begG
      rw [hcX (b + 8) ⟨by omega, by omega⟩, hcX (b + 11 + 2 * y) ⟨by omega, by omega⟩, trajY_c hcX (by omega)]
    refine x_iload (q := 5) dX12_greatestPart_3 rfl rfl ?_
    refine x_aload_n (q := 6) dX12_greatestPart_5 rfl rfl ?_
    refine q_gi (K := 44) (q := 9) dX12_greatestPart_6 rfl cl_12 (by decide) tw_1126 rfl rfl ?_
    refine x_icmp_ge (t := 39) (q := 12) dX12_greatestPart_9 (by decide) rfl (fun c9 => absurd c9 (by rw [esX]; exact nI_ge (by omega) (by omega))) (fun c9 => ?_)
    refine x_aload_n (q := 13) dX12_greatestPart_12 rfl rfl ?_
    refine q_gr (K := 74) (b := 141) (q := 16) dX12_greatestPart_13 rfl cl_12 (by decide) tw_1156 rfl rfl rfl ?_
    refine x_iload (q := 18) dX12_greatestPart_16 rfl rfl ?_
    refine x_aload_n (q := 19) dX12_greatestPart_18 rfl rfl ?_
    refine x_iload_n (q := 20) dX12_greatestPart_19 rfl rfl ?_
    refine x_iload_n (q := 21) dX12_greatestPart_20 rfl rfl ?_
    refine x_iload_n (q := 22) dX12_greatestPart_21 rfl rfl ?_
    refine x_aload_n (q := 23) dX12_greatestPart_22 rfl rfl ?_
    refine q_gr (K := 31) (b := 123) (q := 26) dX12_greatestPart_23 rfl cl_12 (by decide) tw_1113 rfl rfl rfl ?_
    refine x_iload (q := 28) dX12_greatestPart_26 rfl rfl ?_
    refine q_iald (q := 29) dX12_greatestPart_28 rfl rfl (vp_in_nI (by omega) (by decide)) ?_
    refine q_callV (ci := 12) (N := 79) (T := TX12) (As := [.int (nI y), .int (nI l), .int (nI s), .int (X 123 (nI k).toNatClampNeg)]) (rest := [.int (nI k), .ref 141]) (q := 32) dX12_greatestPart_29 rfl okX12_warmBehind tw_1544 rfl rfl (by rw [hci, esl]; exact c_wbm hRX.1 hRX.2.2.1 hy hsh hs (by rw [laN_c hcX (by omega)]; exact hl) r J) rfl rfl (Nat.le_of_ble_eq_true rfl) ⟨by decide, by decide⟩ ⟨rfl, rfl⟩ (fun rv_ Y r_ J_ hv_ => ?_)
    obtain ⟨a1_, ⟨Gy, eY⟩, a3_, a4_⟩ := hv_
    have hY : Kp X Y := by rw [eY]; exact Kp_m Gy
    have hW : ∀ q, Y 141 q = X 141 q := fun q => by rw [eY, mPc (by decide) (by decide)]
    rw [ev] at a1_
    rw [a1_, a3_, a4_]
    show Wq MX12_greatestPart 32 [some (.ref 100), some (.int (nI y)), some (.int (nI l)), some (.int (nI s)), some (.int (nI N)), some (.int (nI k)), x6, x7, x8] [.int ((tvV I b hn s y l) k), .int (nI k), .ref 141] Y r J _
    refine q_iast (q := 33) dX12_greatestPart_32 rfl rfl (vp_in_nI (by omega) (by decide)) (fun I1 eI1 => ?_)
    obtain ⟨v2, ev2⟩ : ∃ y_ : Int32, y_ = (nI k) + 1 := ⟨_, rfl⟩
    refine x_iinc (v := v2) (L2 := [some (.ref 100), some (.int (nI y)), some (.int (nI l)), some (.int (nI s)), some (.int (nI N)), some (.int v2), x6, x7, x8]) (q := 36) dX12_greatestPart_33 rfl (by decide) rfl rfl (by rw [ev2]; rfl) rfl ?_
    refine x_goto (t := 3) dX12_greatestPart_36 (by decide) ?_
    rw [hci] at eI1
    rw [show v2 = nI (k + 1) by rw [ev2, nI_p1]]
    refine ih (k + 1) I1 _ _ _ (by omega) ⟨by rw [eI1]; exact (hX.1.tr hY).tr (Kp_up (by unfold scr; omega)), fun q hq => ?_⟩
    by_cases e : q = k
    · rw [e, eI1, upq]
    · rw [eI1, ups e, hW q]
      exact hX.2 q (by omega)
set_option maxRecDepth 100000 in
theorem c_gpart {I : MI} {b yn wn hn sn st : Nat} (hb : b ≤ 28) (r : MR) (J : MJ) (h : RelL I b yn wn hn sn st) {y l s N : Nat} (hy : y < yn) (hl : l < laN I b y) (hs : s ≤ 72) (hN : N < 1000) {X : MI} (hX : Kp I X) : Cq yX12_greatestPart MX12_greatestPart [.ref 100, .int (nI y), .int (nI l), .int (nI s), .int (nI N)] X r J (Rk (nI (mA (tvV I b hn s y l) N sn sn)) I r J) := by
  refine cq_of [some (.ref 100), some (.int (nI y)), some (.int (nI l)), some (.int (nI s)), some (.int (nI N)), none, none, none, none] 4 (by decide +kernel) rfl rfl (Nat.le_of_ble_eq_true rfl) rfl ?_
  refine x_iconst (0) (q := 1) dX12_greatestPart_0 rfl (by decide) ?_
  refine x_istore (L2 := [some (.ref 100), some (.int (nI y)), some (.int (nI l)), some (.int (nI s)), some (.int (nI N)), some (.int 0), none, none, none]) (q := 3) dX12_greatestPart_1 rfl (by decide) rfl rfl ?_
  exact l_gp3 hb r J h hy hl hs hN sn 0 X _ _ _ (by omega) ⟨hX, fun q hq => absurd hq (by omega)⟩
def eB : TS → Int32
  | none => -1
  | some (a, c, _) => nI (5 * a + c)
def eL : TS → Int32
  | none => 0
  | some (_, _, w) => nI w
def okT (st : TS) : Prop := ∀ p, st = some p → p.1 < 8 ∧ p.2.1 < 5 ∧ p.2.2 ≤ 7
theorem okT_u {st : TS} {y l w : Nat} (h : okT st) (hy : y < 8) (hl : l < 5) (hw : w ≤ 7) : okT (updT st y l w) := by
  intro p hp
  cases st with
  | none =>
    have e : p = (y, l, w) := (Option.some.inj hp).symm
    rw [e]
    exact ⟨hy, hl, hw⟩
  | some q =>
    obtain ⟨a, c, w0⟩ := q
    unfold updT at hp
    by_cases z : w < w0
    · simp only [z, if_true] at hp
      have e : p = (y, l, w) := (Option.some.inj hp).symm
      rw [e]
      exact ⟨hy, hl, hw⟩
    · simp only [z, if_false] at hp
      exact h p hp
theorem upd_new {st : TS} {y l w : Nat} (h : okT st) (hw : w ≤ 7) (hc : eB st < 0 ∨ nI w < eL st) : updT st y l w = some (y, l, w) := by
  cases st with
  | none => rfl
  | some p =>
    obtain ⟨a, c, w0⟩ := p
    obtain ⟨h1, h2, h3⟩ := h _ rfl
    rcases hc with q | q
    · exact absurd q (nI_pos (by simp only at h1 h2; omega))
    · have z := (nI_ltI (by omega) (by simp only at h3; omega)).mp q
      exact if_pos z
theorem upd_old {st : TS} {y l w : Nat} (h : okT st) (hw : w ≤ 7) (hc1 : ¬ eB st < 0) (hc2 : ¬ nI w < eL st) : updT st y l w = st := by
  cases st with
  | none => exact absurd (show (-1 : Int32) < 0 by decide) hc1
  | some p =>
    obtain ⟨a, c, w0⟩ := p
    obtain ⟨h1, h2, h3⟩ := h _ rfl
    exact if_neg (fun z => hc2 ((nI_ltI (by omega) (by simp only at h3; omega)).mpr z))
set_option maxRecDepth 100000 in
theorem l_mt1 {I : MI} {b yn wn hn sn st : Nat} (hb : b ≤ 28) (r : MR) (J : MJ) (h : RelL I b yn wn hn sn st) {s N : Nat} (hs : s ≤ 72) (hN : N < 1000) (w k : Int32) {y : Nat} (hy : y < yn) {ts : TS} (post : Option Value → MI → MR → MJ → Prop) (kx : ∀ (X : MI) (x8 x9 : Option Value), Kp I X → okT (inT (Vt I b hn s N sn) y ts (laN I b y)) → Wq MX12_tells 115 [some (.ref 100), some (.int (nI s)), some (.int w), some (.int k), some (.int (nI N)), some (.int (eB (inT (Vt I b hn s N sn) y ts (laN I b y)))), some (.int (eL (inT (Vt I b hn s N sn) y ts (laN I b y)))), some (.int (nI y)), x8, x9] [] X r J post) : ∀ (f : Nat) (l : Nat) (X : MI) (x9 : Option Value) (_ : l + f = laN I b y) (_ : Kp I X) (_ : okT (inT (Vt I b hn s N sn) y ts l)), Wq MX12_tells 56 [some (.ref 100), some (.int (nI s)), some (.int w), some (.int k), some (.int (nI N)), some (.int (eB (inT (Vt I b hn s N sn) y ts l))), some (.int (eL (inT (Vt I b hn s N sn) y ts l))), some (.int (nI y)), some (.int (nI l)), x9] [] X r J (post) := by
  have h8 : yn ≤ 8 := h.1.2.2.1
  have hs7 : sn ≤ 7 := h.2.1.2.2.2.1
  have em : I 100 41 = nI yn := h.2.2.1.1
  intro f
  induction f with
  | zero =>
    intro l X x9 hlk hX hO
    have h5 := (la5 h.1 hy).2
    have e117 : X 117 y = nI (laN I b y) := by rw [hX 117 y (by unfold scr; omega), (h.2.2.1.2.2.1 y hy).2.2.2.1]; exact la_w h.1 hy
    have hcy : (nI y).toNatClampNeg = y := nI_clamp (by omega)
    refine x_iload (q := 58) dX12_tells_56 rfl rfl ?_
    refine x_aload_n (q := 59) dX12_tells_58 rfl rfl ?_
    refine q_gr (K := 25) (b := 117) (q := 62) dX12_tells_59 rfl cl_12 (by decide) tw_1107 rfl rfl rfl ?_
    refine x_iload (q := 64) dX12_tells_62 rfl rfl ?_
    refine q_iald (q := 65) dX12_tells_64 rfl rfl (vp_in_nI (by omega) (by decide)) ?_
    refine x_icmp_ge (t := 115) (q := 68) dX12_tells_65 (by decide) rfl (fun c65 => ?_) (fun c65 => absurd c65 (fun q => q (by rw [hcy, e117]; exact nI_le (by omega) (by omega))))
    have e9 : l = laN I b y := by omega
    subst e9
    exact kx X _ _ hX hO
  | succ f ih =>
    intro l X x9 hlk hX hO
    have h5 := (la5 h.1 hy).2
    have e117 : X 117 y = nI (laN I b y) := by rw [hX 117 y (by unfold scr; omega), (h.2.2.1.2.2.1 y hy).2.2.2.1]; exact la_w h.1 hy
    have hcy : (nI y).toNatClampNeg = y := nI_clamp (by omega)
    refine x_iload (q := 58) dX12_tells_56 rfl rfl ?_
    refine x_aload_n (q := 59) dX12_tells_58 rfl rfl ?_
    refine q_gr (K := 25) (b := 117) (q := 62) dX12_tells_59 rfl cl_12 (by decide) tw_1107 rfl rfl rfl ?_
    refine x_iload (q := 64) dX12_tells_62 rfl rfl ?_
    refine q_iald (q := 65) dX12_tells_64 rfl rfl (vp_in_nI (by omega) (by decide)) ?_
    refine x_icmp_ge (t := 115) (q := 68) dX12_tells_65 (by decide) rfl (fun c65 => absurd c65 (by rw [hcy, e117]; exact nI_ge (by omega) (by omega))) (fun c65 => ?_)
    refine x_aload_n (q := 69) dX12_tells_68 rfl rfl ?_
    refine x_iload (q := 71) dX12_tells_69 rfl rfl ?_
    refine x_iload (q := 73) dX12_tells_71 rfl rfl ?_
    refine x_iload_n (q := 74) dX12_tells_73 rfl rfl ?_
    refine x_iload (q := 76) dX12_tells_74 rfl rfl ?_
    refine q_callV (ci := 12) (N := 79) (T := TX12) (As := [.int (nI y), .int (nI l), .int (nI s), .int (nI N)]) (rest := []) (q := 79) dX12_tells_76 rfl okX12_greatestPart tw_1630 rfl rfl (c_gpart hb r J h hy (show l < laN I b y by omega) hs hN hX) rfl rfl (Nat.le_of_ble_eq_true rfl) ⟨by decide, by decide⟩ ⟨rfl, rfl⟩ (fun rv_ Y r_ J_ hv_ => ?_)
    obtain ⟨a1_, hY, a3_, a4_⟩ := hv_
    rw [a1_, a3_, a4_]
    show Wq MX12_tells 79 [some (.ref 100), some (.int (nI s)), some (.int w), some (.int k), some (.int (nI N)), some (.int (eB (inT (Vt I b hn s N sn) y ts l))), some (.int (eL (inT (Vt I b hn s N sn) y ts l))), some (.int (nI y)), some (.int (nI l)), x9] [.int (nI (Vt I b hn s N sn y l))] Y r J _
    refine x_istore (L2 := [some (.ref 100), some (.int (nI s)), some (.int w), some (.int k), some (.int (nI N)), some (.int (eB (inT (Vt I b hn s N sn) y ts l))), some (.int (eL (inT (Vt I b hn s N sn) y ts l))), some (.int (nI y)), some (.int (nI l)), some (.int (nI (Vt I b hn s N sn y l)))]) (q := 81) dX12_tells_79 rfl (by decide) rfl rfl ?_
    refine x_iload (q := 83) dX12_tells_81 rfl rfl ?_
    refine x_if_lt (t := 96) (q := 86) dX12_tells_83 (by decide) rfl (fun c83 => ?_) (fun c83 => ?_)
    · refine x_iconst (5) (q := 97) dX12_tells_96 rfl (by decide) ?_
      refine x_iload (q := 99) dX12_tells_97 rfl rfl ?_
      refine x_imul (q := 100) dX12_tells_99 rfl ?_
      refine x_iload (q := 102) dX12_tells_100 rfl rfl ?_
      refine x_iadd (q := 103) dX12_tells_102 rfl ?_
      refine x_nmi (fun v1 ev1 => ?_)
      refine x_istore (L2 := [some (.ref 100), some (.int (nI s)), some (.int w), some (.int k), some (.int (nI N)), some (.int v1), some (.int (eL (inT (Vt I b hn s N sn) y ts l))), some (.int (nI y)), some (.int (nI l)), some (.int (nI (Vt I b hn s N sn y l)))]) (q := 105) dX12_tells_103 rfl (by decide) rfl rfl ?_
      refine x_iload (q := 107) dX12_tells_105 rfl rfl ?_
      refine x_istore (L2 := [some (.ref 100), some (.int (nI s)), some (.int w), some (.int k), some (.int (nI N)), some (.int v1), some (.int (nI (Vt I b hn s N sn y l))), some (.int (nI y)), some (.int (nI l)), some (.int (nI (Vt I b hn s N sn y l)))]) (q := 109) dX12_tells_107 rfl (by decide) rfl rfl ?_
      obtain ⟨v2, ev2⟩ : ∃ y_ : Int32, y_ = (nI l) + 1 := ⟨_, rfl⟩
      refine x_iinc (v := v2) (L2 := [some (.ref 100), some (.int (nI s)), some (.int w), some (.int k), some (.int (nI N)), some (.int v1), some (.int (nI (Vt I b hn s N sn y l))), some (.int (nI y)), some (.int v2), some (.int (nI (Vt I b hn s N sn y l)))]) (q := 112) dX12_tells_109 rfl (by decide) rfl rfl (by rw [ev2]; rfl) rfl ?_
      refine x_goto (t := 56) dX12_tells_112 (by decide) ?_
      have hV : Vt I b hn s N sn y l ≤ 7 := Nat.le_trans (mA_le _ _ _ _) hs7
      rw [show v2 = nI (l + 1) by rw [ev2, nI_p1]]
      have hO2 := okT_u (y := y) (l := l) hO (by omega) (by omega) hV
      have e9 : (inT (Vt I b hn s N sn) y ts (l + 1)) = some (y, l, Vt I b hn s N sn y l) := upd_new hO hV (by first | exact Or.inl c83 | exact Or.inr c90)
      have e5 : v1 = eB (inT (Vt I b hn s N sn) y ts (l + 1)) := by rw [e9, ev1, nI5, nI_add]; rfl
      have e6 : nI (Vt I b hn s N sn y l) = eL (inT (Vt I b hn s N sn) y ts (l + 1)) := by rw [e9]; rfl
      rw [e5, e6]
      exact ih (l + 1) Y _ (by omega) hY hO2
    · refine x_iload (q := 88) dX12_tells_86 rfl rfl ?_
      refine x_iload (q := 90) dX12_tells_88 rfl rfl ?_
      refine x_icmp_lt (t := 96) (q := 93) dX12_tells_90 (by decide) rfl (fun c90 => ?_) (fun c90 => ?_)
      · refine x_iconst (5) (q := 97) dX12_tells_96 rfl (by decide) ?_
        refine x_iload (q := 99) dX12_tells_97 rfl rfl ?_
        refine x_imul (q := 100) dX12_tells_99 rfl ?_
        refine x_iload (q := 102) dX12_tells_100 rfl rfl ?_
        refine x_iadd (q := 103) dX12_tells_102 rfl ?_
        refine x_nmi (fun v3 ev3 => ?_)
        refine x_istore (L2 := [some (.ref 100), some (.int (nI s)), some (.int w), some (.int k), some (.int (nI N)), some (.int v3), some (.int (eL (inT (Vt I b hn s N sn) y ts l))), some (.int (nI y)), some (.int (nI l)), some (.int (nI (Vt I b hn s N sn y l)))]) (q := 105) dX12_tells_103 rfl (by decide) rfl rfl ?_
        refine x_iload (q := 107) dX12_tells_105 rfl rfl ?_
        refine x_istore (L2 := [some (.ref 100), some (.int (nI s)), some (.int w), some (.int k), some (.int (nI N)), some (.int v3), some (.int (nI (Vt I b hn s N sn y l))), some (.int (nI y)), some (.int (nI l)), some (.int (nI (Vt I b hn s N sn y l)))]) (q := 109) dX12_tells_107 rfl (by decide) rfl rfl ?_
        obtain ⟨v4, ev4⟩ : ∃ y_ : Int32, y_ = (nI l) + 1 := ⟨_, rfl⟩
        refine x_iinc (v := v4) (L2 := [some (.ref 100), some (.int (nI s)), some (.int w), some (.int k), some (.int (nI N)), some (.int v3), some (.int (nI (Vt I b hn s N sn y l))), some (.int (nI y)), some (.int v4), some (.int (nI (Vt I b hn s N sn y l)))]) (q := 112) dX12_tells_109 rfl (by decide) rfl rfl (by rw [ev4]; rfl) rfl ?_
        refine x_goto (t := 56) dX12_tells_112 (by decide) ?_
        have hV : Vt I b hn s N sn y l ≤ 7 := Nat.le_trans (mA_le _ _ _ _) hs7
        rw [show v4 = nI (l + 1) by rw [ev4, nI_p1]]
        have hO2 := okT_u (y := y) (l := l) hO (by omega) (by omega) hV
        have e9 : (inT (Vt I b hn s N sn) y ts (l + 1)) = some (y, l, Vt I b hn s N sn y l) := upd_new hO hV (by first | exact Or.inl c83 | exact Or.inr c90)
        have e5 : v3 = eB (inT (Vt I b hn s N sn) y ts (l + 1)) := by rw [e9, ev3, nI5, nI_add]; rfl
        have e6 : nI (Vt I b hn s N sn y l) = eL (inT (Vt I b hn s N sn) y ts (l + 1)) := by rw [e9]; rfl
        rw [e5, e6]
        exact ih (l + 1) Y _ (by omega) hY hO2
      · refine x_goto (t := 109) dX12_tells_93 (by decide) ?_
        obtain ⟨v5, ev5⟩ : ∃ y_ : Int32, y_ = (nI l) + 1 := ⟨_, rfl⟩
        refine x_iinc (v := v5) (L2 := [some (.ref 100), some (.int (nI s)), some (.int w), some (.int k), some (.int (nI N)), some (.int (eB (inT (Vt I b hn s N sn) y ts l))), some (.int (eL (inT (Vt I b hn s N sn) y ts l))), some (.int (nI y)), some (.int v5), some (.int (nI (Vt I b hn s N sn y l)))]) (q := 112) dX12_tells_109 rfl (by decide) rfl rfl (by rw [ev5]; rfl) rfl ?_
        refine x_goto (t := 56) dX12_tells_112 (by decide) ?_
        have hV : Vt I b hn s N sn y l ≤ 7 := Nat.le_trans (mA_le _ _ _ _) hs7
        rw [show v5 = nI (l + 1) by rw [ev5, nI_p1]]
        have hO2 := okT_u (y := y) (l := l) hO (by omega) (by omega) hV
        have e9 : (inT (Vt I b hn s N sn) y ts (l + 1)) = (inT (Vt I b hn s N sn) y ts l) := upd_old hO hV c83 c90
        rw [← e9]
        exact ih (l + 1) Y _ (by omega) hY hO2
set_option maxRecDepth 100000 in
theorem l_mt {I : MI} {b yn wn hn sn st : Nat} (hb : b ≤ 28) (r : MR) (J : MJ) (h : RelL I b yn wn hn sn st) {s N : Nat} (hs : s ≤ 72) (hN : N < 1000) (w k : Int32) : ∀ (f : Nat) (y : Nat) (X : MI) (x8 x9 : Option Value) (_ : y + f = yn) (_ : Kp I X) (_ : okT (ouT (Vt I b hn s N sn) (laN I b) y)), Wq MX12_tells 44 [some (.ref 100), some (.int (nI s)), some (.int w), some (.int k), some (.int (nI N)), some (.int (eB (ouT (Vt I b hn s N sn) (laN I b) y))), some (.int (eL (ouT (Vt I b hn s N sn) (laN I b) y))), some (.int (nI y)), x8, x9] [] X r J (Rk (tlV (ouT (Vt I b hn s N sn) (laN I b) yn) w) I r J) := by
  have h8 : yn ≤ 8 := h.1.2.2.1
  have hs7 : sn ≤ 7 := h.2.1.2.2.2.1
  have em : I 100 41 = nI yn := h.2.2.1.1
  intro f
  induction f with
  | zero =>
    intro y X x8 x9 hyk hX hO
    have emX : X 100 41 = nI yn := by rw [hX 100 41 (by unfold scr; omega)]; exact em
    refine x_iload (q := 46) dX12_tells_44 rfl rfl ?_
    refine x_aload_n (q := 47) dX12_tells_46 rfl rfl ?_
    refine q_gi (K := 41) (q := 50) dX12_tells_47 rfl cl_12 (by decide) tw_1123 rfl rfl ?_
    refine x_icmp_ge (t := 121) (q := 53) dX12_tells_50 (by decide) rfl (fun c50 => ?_) (fun c50 => absurd c50 (fun q => q (by rw [emX]; exact nI_le (by omega) (by omega))))
    refine x_iload (q := 123) dX12_tells_121 rfl rfl ?_
    refine x_if_ge (t := 130) (q := 126) dX12_tells_123 (by decide) rfl (fun c123 => ?_) (fun c123 => ?_)
    · refine x_iload_n (q := 131) dX12_tells_130 rfl rfl ?_
      refine x_if_ne (t := 141) (q := 134) dX12_tells_131 (by decide) rfl (fun c131 => ?_) (fun c131 => ?_)
      · refine x_iload_n (q := 142) dX12_tells_141 rfl rfl ?_
        refine x_iconst (1) (q := 143) dX12_tells_142 rfl (by decide) ?_
        refine x_icmp_ne (t := 153) (q := 146) dX12_tells_143 (by decide) rfl (fun c143 => ?_) (fun c143 => ?_)
        · refine x_iload (q := 155) dX12_tells_153 rfl rfl ?_
          refine q_iret dX12_tells_155 rfl ?_
          have e9 : y = yn := by omega
          subst e9
          refine ⟨?_, hX, rfl, rfl⟩
          cases hst : (ouT (Vt I b hn s N sn) (laN I b) y) with
          | none =>
            first | rfl | (rw [hst] at c123; exact absurd c123 (by decide))
          | some p =>
            obtain ⟨a, c, u⟩ := p
            obtain ⟨o1, o2, o3⟩ := hO _ hst
            simp only at o1 o2 o3
            have eb : eB (some (a, c, u)) = nI (5 * a + c) := rfl
            have el : eL (some (a, c, u)) = nI u := rfl
            have hd : nI (5 * a + c) / 5 = nI a := by
              have q := pk_div (a := 5 * a + c) (d := 5) (by omega) (by decide) (by decide)
              rw [show (5 * a + c) / 5 = a by omega] at q
              exact q
            have hr5 : nI (5 * a + c) - nI (5 * a + c) / 5 * 5 = nI c := by
              have q := pk_rem (a := 5 * a + c) (d := 5) (by omega) (by decide) (by decide)
              rw [show (5 * a + c) % 5 = c by omega] at q
              exact q
            show _ = some (Value.int (if w = 0 then nI a else if w = 1 then nI c else nI u))
            first | (rw [hst, eb] at c123; exact absurd (nI_pos' (by omega)) c123) | (rw [if_pos c131]; try rw [eb, hd]) | (rw [if_neg c131, if_pos (Classical.not_not.mp c143)]; try rw [eb, hr5]) | (rw [if_neg c131, if_pos c143]; try rw [eb, hr5]) | (rw [if_neg c131, if_neg c143]; rfl)
        · refine x_iload (q := 148) dX12_tells_146 rfl rfl ?_
          refine x_iconst (5) (q := 149) dX12_tells_148 rfl (by decide) ?_
          refine x_irem (q := 150) dX12_tells_149 rfl (by decide) ?_
          refine x_goto (t := 155) dX12_tells_150 (by decide) ?_
          refine q_iret dX12_tells_155 rfl ?_
          have e9 : y = yn := by omega
          subst e9
          refine ⟨?_, hX, rfl, rfl⟩
          cases hst : (ouT (Vt I b hn s N sn) (laN I b) y) with
          | none =>
            first | rfl | (rw [hst] at c123; exact absurd c123 (by decide))
          | some p =>
            obtain ⟨a, c, u⟩ := p
            obtain ⟨o1, o2, o3⟩ := hO _ hst
            simp only at o1 o2 o3
            have eb : eB (some (a, c, u)) = nI (5 * a + c) := rfl
            have el : eL (some (a, c, u)) = nI u := rfl
            have hd : nI (5 * a + c) / 5 = nI a := by
              have q := pk_div (a := 5 * a + c) (d := 5) (by omega) (by decide) (by decide)
              rw [show (5 * a + c) / 5 = a by omega] at q
              exact q
            have hr5 : nI (5 * a + c) - nI (5 * a + c) / 5 * 5 = nI c := by
              have q := pk_rem (a := 5 * a + c) (d := 5) (by omega) (by decide) (by decide)
              rw [show (5 * a + c) % 5 = c by omega] at q
              exact q
            show _ = some (Value.int (if w = 0 then nI a else if w = 1 then nI c else nI u))
            first | (rw [hst, eb] at c123; exact absurd (nI_pos' (by omega)) c123) | (rw [if_pos c131]; try rw [eb, hd]) | (rw [if_neg c131, if_pos (Classical.not_not.mp c143)]; try rw [eb, hr5]) | (rw [if_neg c131, if_pos c143]; try rw [eb, hr5]) | (rw [if_neg c131, if_neg c143]; rfl)
      · refine x_iload (q := 136) dX12_tells_134 rfl rfl ?_
        refine x_iconst (5) (q := 137) dX12_tells_136 rfl (by decide) ?_
        refine x_idiv (q := 138) dX12_tells_137 rfl (by decide) ?_
        refine x_goto (t := 155) dX12_tells_138 (by decide) ?_
        refine q_iret dX12_tells_155 rfl ?_
        have e9 : y = yn := by omega
        subst e9
        refine ⟨?_, hX, rfl, rfl⟩
        cases hst : (ouT (Vt I b hn s N sn) (laN I b) y) with
        | none =>
          first | rfl | (rw [hst] at c123; exact absurd c123 (by decide))
        | some p =>
          obtain ⟨a, c, u⟩ := p
          obtain ⟨o1, o2, o3⟩ := hO _ hst
          simp only at o1 o2 o3
          have eb : eB (some (a, c, u)) = nI (5 * a + c) := rfl
          have el : eL (some (a, c, u)) = nI u := rfl
          have hd : nI (5 * a + c) / 5 = nI a := by
            have q := pk_div (a := 5 * a + c) (d := 5) (by omega) (by decide) (by decide)
            rw [show (5 * a + c) / 5 = a by omega] at q
            exact q
          have hr5 : nI (5 * a + c) - nI (5 * a + c) / 5 * 5 = nI c := by
            have q := pk_rem (a := 5 * a + c) (d := 5) (by omega) (by decide) (by decide)
            rw [show (5 * a + c) % 5 = c by omega] at q
            exact q
          show _ = some (Value.int (if w = 0 then nI a else if w = 1 then nI c else nI u))
          first | (rw [hst, eb] at c123; exact absurd (nI_pos' (by omega)) c123) | (rw [if_pos c131]; try rw [eb, hd]) | (rw [if_neg c131, if_pos (Classical.not_not.mp c143)]; try rw [eb, hr5]) | (rw [if_neg c131, if_pos c143]; try rw [eb, hr5]) | (rw [if_neg c131, if_neg c143]; rfl)
    · refine x_iconst (-1) (q := 127) dX12_tells_126 rfl (by decide) ?_
      refine x_goto (t := 155) dX12_tells_127 (by decide) ?_
      refine q_iret dX12_tells_155 rfl ?_
      have e9 : y = yn := by omega
      subst e9
      refine ⟨?_, hX, rfl, rfl⟩
      cases hst : (ouT (Vt I b hn s N sn) (laN I b) y) with
      | none =>
        first | rfl | (rw [hst] at c123; exact absurd c123 (by decide))
      | some p =>
        obtain ⟨a, c, u⟩ := p
        obtain ⟨o1, o2, o3⟩ := hO _ hst
        simp only at o1 o2 o3
        have eb : eB (some (a, c, u)) = nI (5 * a + c) := rfl
        have el : eL (some (a, c, u)) = nI u := rfl
        have hd : nI (5 * a + c) / 5 = nI a := by
          have q := pk_div (a := 5 * a + c) (d := 5) (by omega) (by decide) (by decide)
          rw [show (5 * a + c) / 5 = a by omega] at q
          exact q
        have hr5 : nI (5 * a + c) - nI (5 * a + c) / 5 * 5 = nI c := by
          have q := pk_rem (a := 5 * a + c) (d := 5) (by omega) (by decide) (by decide)
          rw [show (5 * a + c) % 5 = c by omega] at q
          exact q
        show _ = some (Value.int (if w = 0 then nI a else if w = 1 then nI c else nI u))
        first | (rw [hst, eb] at c123; exact absurd (nI_pos' (by omega)) c123) | (rw [if_pos c131]; try rw [eb, hd]) | (rw [if_neg c131, if_pos (Classical.not_not.mp c143)]; try rw [eb, hr5]) | (rw [if_neg c131, if_pos c143]; try rw [eb, hr5]) | (rw [if_neg c131, if_neg c143]; rfl)
  | succ f ih =>
    intro y X x8 x9 hyk hX hO
    have emX : X 100 41 = nI yn := by rw [hX 100 41 (by unfold scr; omega)]; exact em
    refine x_iload (q := 46) dX12_tells_44 rfl rfl ?_
    refine x_aload_n (q := 47) dX12_tells_46 rfl rfl ?_
    refine q_gi (K := 41) (q := 50) dX12_tells_47 rfl cl_12 (by decide) tw_1123 rfl rfl ?_
    refine x_icmp_ge (t := 121) (q := 53) dX12_tells_50 (by decide) rfl (fun c50 => absurd c50 (by rw [emX]; exact nI_ge (by omega) (by omega))) (fun c50 => ?_)
    refine x_iconst (0) (q := 54) dX12_tells_53 rfl (by decide) ?_
    refine x_istore (L2 := [some (.ref 100), some (.int (nI s)), some (.int w), some (.int k), some (.int (nI N)), some (.int (eB (ouT (Vt I b hn s N sn) (laN I b) y))), some (.int (eL (ouT (Vt I b hn s N sn) (laN I b) y))), some (.int (nI y)), some (.int 0), x9]) (q := 56) dX12_tells_54 rfl (by decide) rfl rfl ?_
    have hy : y < yn := by omega
    refine l_mt1 hb r J h hs hN w k hy (ts := (ouT (Vt I b hn s N sn) (laN I b) y)) _ (fun W w8 w9 hW oW => ?_) (laN I b y) 0 X _ (by omega) hX hO
    obtain ⟨v31, ev31⟩ : ∃ y_ : Int32, y_ = (nI y) + 1 := ⟨_, rfl⟩
    refine x_iinc (v := v31) (L2 := [some (.ref 100), some (.int (nI s)), some (.int w), some (.int k), some (.int (nI N)), some (.int (eB (inT (Vt I b hn s N sn) y (ouT (Vt I b hn s N sn) (laN I b) y) (laN I b y)))), some (.int (eL (inT (Vt I b hn s N sn) y (ouT (Vt I b hn s N sn) (laN I b) y) (laN I b y)))), some (.int v31), w8, w9]) (q := 118) dX12_tells_115 rfl (by decide) rfl rfl (by rw [ev31]; rfl) rfl ?_
    refine x_goto (t := 44) dX12_tells_118 (by decide) ?_
    rw [show v31 = nI (y + 1) by rw [ev31, nI_p1]]
    exact ih (y + 1) W _ _ (by omega) hW oW
set_option maxRecDepth 100000 in
theorem c_Mtells_g {I : MI} {b yn wn hn sn st : Nat} (hb : b ≤ 28) (r : MR) (J : MJ) (h : RelL I b yn wn hn sn st) {gn : Nat} (g1 : gn ≤ 30) (g3 : I 100 72 = nI gn) (g4 : GlA I b yn hn sn gn) {s : Nat} (hs : s ≤ 72) {w k : Int32} (hw : 0 ≤ w ∧ w ≤ 2) (h0 : ¬ lftN I b hn sn gn k = 0) : Cq yX12_tells MX12_tells [.ref 100, .int (nI s), .int w, .int k] I r J (Rk (tlV (ouT (Vt I b hn s (lftN I b hn sn gn k) sn) (laN I b) yn) w) I r J) := by
  have h8 : yn ≤ 8 := h.1.2.2.1
  have hs7 : sn ≤ 7 := h.2.1.2.2.2.1
  have hlt := lftN_lt (I := I) (b := b) (hn := hn) (gn := gn) (k := k) hs7
  refine cq_of [some (.ref 100), some (.int (nI s)), some (.int w), some (.int k), none, none, none, none, none, none] 6 (by decide +kernel) rfl rfl (Nat.le_of_ble_eq_true rfl) rfl ?_
  refine x_iload_n (q := 1) dX12_tells_0 rfl rfl ?_
  refine x_iconst (0) (q := 2) dX12_tells_1 rfl (by decide) ?_
  refine x_bipush (72) (q := 4) dX12_tells_2 rfl (by decide) ?_
  refine q_callS (As := [.int (nI s), .int 0, .int 72]) (rest := []) (q := 7) dX12_tells_4 rfl okX12_isIn tw_1450 (c_isIn_g I r J (nI_pos' (by omega)) (nI_le (b := 72) (by omega) (by decide))) rfl rfl (Nat.le_of_ble_eq_true rfl) ⟨by decide, by decide⟩ ⟨rfl, rfl⟩ (fun rv_ I_ r_ J_ hv_ => ?_)
  obtain ⟨a1_, a2_, a3_, a4_⟩ := hv_
  rw [a1_, a2_, a3_, a4_]
  show Wq MX12_tells 7 [some (.ref 100), some (.int (nI s)), some (.int w), some (.int k), none, none, none, none, none, none] [.int 1] I r J _
  refine x_if_eq (t := 19) (q := 10) dX12_tells_7 (by decide) rfl (fun c7 => absurd c7 ((by decide))) (fun c7 => ?_)
  refine x_iload_n (q := 11) dX12_tells_10 rfl rfl ?_
  refine x_iconst (0) (q := 12) dX12_tells_11 rfl (by decide) ?_
  refine x_iconst (2) (q := 13) dX12_tells_12 rfl (by decide) ?_
  refine q_callS (As := [.int w, .int 0, .int 2]) (rest := []) (q := 16) dX12_tells_13 rfl okX12_isIn tw_1450 (c_isIn_g I r J hw.1 hw.2) rfl rfl (Nat.le_of_ble_eq_true rfl) ⟨by decide, by decide⟩ ⟨rfl, rfl⟩ (fun rv_ I_ r_ J_ hv_ => ?_)
  obtain ⟨a1_, a2_, a3_, a4_⟩ := hv_
  rw [a1_, a2_, a3_, a4_]
  show Wq MX12_tells 16 [some (.ref 100), some (.int (nI s)), some (.int w), some (.int k), none, none, none, none, none, none] [.int 1] I r J _
  refine x_if_ne (t := 21) (q := 19) dX12_tells_16 (by decide) rfl (fun c16 => ?_) (fun c16 => absurd c16 ((by decide)))
  refine x_aload_n (q := 22) dX12_tells_21 rfl rfl ?_
  refine x_iload_n (q := 23) dX12_tells_22 rfl rfl ?_
  refine q_callV (ci := 12) (N := 79) (T := TX12) (As := [.int k]) (rest := []) (q := 26) dX12_tells_23 rfl okX12_left tw_1532 rfl rfl (c_Mleft hb h g1 g3 g4 k r J) rfl rfl (Nat.le_of_ble_eq_true rfl) ⟨by decide, by decide⟩ ⟨rfl, rfl⟩ (fun rv_ X r_ J_ hv_ => ?_)
  obtain ⟨a1_, hX, a3_, a4_⟩ := hv_
  rw [a1_, a3_, a4_]
  show Wq MX12_tells 26 [some (.ref 100), some (.int (nI s)), some (.int w), some (.int k), none, none, none, none, none, none] [.int (nI (lftN I b hn sn gn k))] X r J _
  refine x_istore (L2 := [some (.ref 100), some (.int (nI s)), some (.int w), some (.int k), some (.int (nI (lftN I b hn sn gn k))), none, none, none, none, none]) (q := 28) dX12_tells_26 rfl (by decide) rfl rfl ?_
  refine x_iload (q := 30) dX12_tells_28 rfl rfl ?_
  refine x_if_ne (t := 35) (q := 33) dX12_tells_30 (by decide) rfl (fun c30 => ?_) (fun c30 => absurd c30 (nI_ne0 (by omega) (by omega)))
  refine x_iconst (-1) (q := 36) dX12_tells_35 rfl (by decide) ?_
  refine x_istore (L2 := [some (.ref 100), some (.int (nI s)), some (.int w), some (.int k), some (.int (nI (lftN I b hn sn gn k))), some (.int (-1)), none, none, none, none]) (q := 38) dX12_tells_36 rfl (by decide) rfl rfl ?_
  refine x_iconst (0) (q := 39) dX12_tells_38 rfl (by decide) ?_
  refine x_istore (L2 := [some (.ref 100), some (.int (nI s)), some (.int w), some (.int k), some (.int (nI (lftN I b hn sn gn k))), some (.int (-1)), some (.int 0), none, none, none]) (q := 41) dX12_tells_39 rfl (by decide) rfl rfl ?_
  refine x_iconst (0) (q := 42) dX12_tells_41 rfl (by decide) ?_
  refine x_istore (L2 := [some (.ref 100), some (.int (nI s)), some (.int w), some (.int k), some (.int (nI (lftN I b hn sn gn k))), some (.int (-1)), some (.int 0), some (.int 0), none, none]) (q := 44) dX12_tells_42 rfl (by decide) rfl rfl ?_
  exact l_mt hb r J h hs (N := (lftN I b hn sn gn k)) (by omega) w k yn 0 X _ _ (by omega) hX (fun p hp => by cases hp)
set_option maxRecDepth 100000 in
theorem c_Mtells_1 {I : MI} {b yn wn hn sn st : Nat} (hb : b ≤ 28) (r : MR) (J : MJ) (h : RelL I b yn wn hn sn st) {gn : Nat} (g1 : gn ≤ 30) (g3 : I 100 72 = nI gn) (g4 : GlA I b yn hn sn gn) {sp w k : Int32} (hno : ¬ tlOk sp w (lftN I b hn sn gn k)) : Cq yX12_tells MX12_tells [.ref 100, .int sp, .int w, .int k] I r J (Rk (-1) I r J) := by
  have h8 : yn ≤ 8 := h.1.2.2.1
  have hs7 : sn ≤ 7 := h.2.1.2.2.2.1
  have hlt := lftN_lt (I := I) (b := b) (hn := hn) (gn := gn) (k := k) hs7
  refine cq_of [some (.ref 100), some (.int sp), some (.int w), some (.int k), none, none, none, none, none, none] 6 (by decide +kernel) rfl rfl (Nat.le_of_ble_eq_true rfl) rfl ?_
  refine x_iload_n (q := 1) dX12_tells_0 rfl rfl ?_
  refine x_iconst (0) (q := 2) dX12_tells_1 rfl (by decide) ?_
  refine x_bipush (72) (q := 4) dX12_tells_2 rfl (by decide) ?_
  refine q_callS (As := [.int sp, .int 0, .int 72]) (rest := []) (q := 7) dX12_tells_4 rfl okX12_isIn tw_1450 (c_isIn _ _ _ _ r J) rfl rfl (Nat.le_of_ble_eq_true rfl) ⟨by decide, by decide⟩ ⟨rfl, rfl⟩ (fun rv_ I_ r_ J_ hv_ => ?_)
  obtain ⟨a1_, a2_, a3_, a4_⟩ := hv_
  rw [a1_, a2_, a3_, a4_]
  show Wq MX12_tells 7 [some (.ref 100), some (.int sp), some (.int w), some (.int k), none, none, none, none, none, none] [.int (inF sp 0 72)] I r J _
  refine x_if_eq (t := 19) (q := 10) dX12_tells_7 (by decide) rfl (fun c7 => ?_) (fun c7 => ?_)
  · refine x_iconst (-1) (q := 20) dX12_tells_19 rfl (by decide) ?_
    refine q_iret dX12_tells_20 rfl ?_
    first | exact Rk_same | exact ⟨rfl, hX, rfl, rfl⟩
  · refine x_iload_n (q := 11) dX12_tells_10 rfl rfl ?_
    refine x_iconst (0) (q := 12) dX12_tells_11 rfl (by decide) ?_
    refine x_iconst (2) (q := 13) dX12_tells_12 rfl (by decide) ?_
    refine q_callS (As := [.int w, .int 0, .int 2]) (rest := []) (q := 16) dX12_tells_13 rfl okX12_isIn tw_1450 (c_isIn _ _ _ _ r J) rfl rfl (Nat.le_of_ble_eq_true rfl) ⟨by decide, by decide⟩ ⟨rfl, rfl⟩ (fun rv_ I_ r_ J_ hv_ => ?_)
    obtain ⟨a1_, a2_, a3_, a4_⟩ := hv_
    rw [a1_, a2_, a3_, a4_]
    show Wq MX12_tells 16 [some (.ref 100), some (.int sp), some (.int w), some (.int k), none, none, none, none, none, none] [.int (inF w 0 2)] I r J _
    refine x_if_ne (t := 21) (q := 19) dX12_tells_16 (by decide) rfl (fun c16 => ?_) (fun c16 => ?_)
    · refine x_aload_n (q := 22) dX12_tells_21 rfl rfl ?_
      refine x_iload_n (q := 23) dX12_tells_22 rfl rfl ?_
      refine q_callV (ci := 12) (N := 79) (T := TX12) (As := [.int k]) (rest := []) (q := 26) dX12_tells_23 rfl okX12_left tw_1532 rfl rfl (c_Mleft hb h g1 g3 g4 k r J) rfl rfl (Nat.le_of_ble_eq_true rfl) ⟨by decide, by decide⟩ ⟨rfl, rfl⟩ (fun rv_ X r_ J_ hv_ => ?_)
      obtain ⟨a1_, hX, a3_, a4_⟩ := hv_
      rw [a1_, a3_, a4_]
      show Wq MX12_tells 26 [some (.ref 100), some (.int sp), some (.int w), some (.int k), none, none, none, none, none, none] [.int (nI (lftN I b hn sn gn k))] X r J _
      refine x_istore (L2 := [some (.ref 100), some (.int sp), some (.int w), some (.int k), some (.int (nI (lftN I b hn sn gn k))), none, none, none, none, none]) (q := 28) dX12_tells_26 rfl (by decide) rfl rfl ?_
      refine x_iload (q := 30) dX12_tells_28 rfl rfl ?_
      refine x_if_ne (t := 35) (q := 33) dX12_tells_30 (by decide) rfl (fun c30 => ?_) (fun c30 => ?_)
      · exact absurd ⟨inF_1 c7, inF_1 c16, fun z => c30 (by rw [z]; rfl)⟩ hno
      · refine x_iconst (-1) (q := 34) dX12_tells_33 rfl (by decide) ?_
        refine q_iret dX12_tells_34 rfl ?_
        first | exact Rk_same | exact ⟨rfl, hX, rfl, rfl⟩
    · refine x_iconst (-1) (q := 20) dX12_tells_19 rfl (by decide) ?_
      refine q_iret dX12_tells_20 rfl ?_
      first | exact Rk_same | exact ⟨rfl, hX, rfl, rfl⟩
theorem Vt_k {I X : MI} {b yn hn s N sn : Nat} (hk : Kp I X) (hb : b ≤ 28) (y l : Nat) (hy : y < 8) : Vt X b hn s N sn y l = Vt I b hn s N sn y l := by
  unfold Vt
  have e : tvV X b hn s y l = tvV I b hn s y l := by
    funext k
    unfold tvV warmAt begG
    rw [hk.L hb (b + 8) ⟨by omega, by omega⟩, hk.L hb (b + 11 + 2 * y) ⟨by omega, by omega⟩, trajY_c (hk.L hb) hy]
  rw [e]
theorem inT_c {V V' : Nat → Nat → Nat} {y : Nat} (h : ∀ l, V y l = V' y l) (st : TS) : ∀ n, inT V y st n = inT V' y st n := by
  intro n
  induction n with
  | zero => rfl
  | succ n ih =>
    show updT (inT V y st n) y n (V y n) = updT (inT V' y st n) y n (V' y n)
    rw [ih, h n]
theorem ouT_c {V V' : Nat → Nat → Nat} {la la' : Nat → Nat} : ∀ n, (∀ y, y < n → la y = la' y ∧ ∀ l, V y l = V' y l) → ouT V la n = ouT V' la' n := by
  intro n
  induction n with
  | zero => intro _; rfl
  | succ n ih =>
    intro h
    show inT V n (ouT V la n) (la n) = inT V' n (ouT V' la' n) (la' n)
    rw [ih (fun y hy => h y (by omega)), (h n (by omega)).1, inT_c (h n (by omega)).2]
theorem op_tells (sp w k : Int32) : OpOk yX11_tells MX11_tells yX12_tells MX12_tells [.int sp, .int w, .int k] := by
  intro I r J hrel
  obtain ⟨b, yn, wn, hn, sn, st, hr, hl, hR, hJ⟩ := hrel
  have hb := (refs_L hr).2
  have h8 : yn ≤ 8 := hl.1.2.2.1
  obtain ⟨gn, g1, g2, g3, g4⟩ := hl.2.2.2.2.2.1
  by_cases h2 : tlOk sp w (lftN I b hn sn gn k)
  · obtain ⟨hsp, hw, h0⟩ := h2
    obtain ⟨s, hs, rfl⟩ := st_of (N := 72) (by decide) hsp
    have mm : ∀ X, Kp I X → RelL X b yn wn hn sn st → Cq yX12_tells MX12_tells [.ref 100, .int (nI s), .int w, .int k] X r J (Rk (tlV (ouT (Vt I b hn s (lftN I b hn sn gn k) sn) (laN I b) yn) w) X r J) := fun X hX q1 => by
      have q := c_Mtells_g hb r J q1 g1 (by rw [hX 100 72 (by unfold scr; omega)]; exact g3) (GlA_k hX hb h8 g4) hs hw (by rw [lftN_k hX hb h8 g4]; exact h0)
      rw [lftN_k hX hb h8 g4, ouT_c (V' := Vt I b hn s (lftN I b hn sn gn k) sn) (la' := laN I b) yn (fun y hy => ⟨laN_c (hX.L hb) (by omega), fun l => Vt_k (yn := yn) hX hb y l (by omega)⟩)] at q
      exact q
    by_cases hy0 : yn = 0
    · refine op_kp hr hl hR hJ (c_Xtells_0 J hr hl g1 g2 g4 hs hw h0 hy0) (fun X hX q1 q2 => ?_)
      have q := mm X hX q1
      rw [hy0] at q
      exact q
    · exact op_kp hr hl hR hJ (c_Xtells_g J hr hl g1 g2 g4 hs hw h0 (by omega)) (fun X hX q1 q2 => mm X hX q1)
  · exact op_kp hr hl hR hJ (c_Xtells_1 J hr hl g1 g2 g4 h2) (fun X hX q1 q2 => c_Mtells_1 hb r J q1 g1 (by rw [hX 100 72 (by unfold scr; omega)]; exact g3) (GlA_k hX hb h8 g4) (by rw [lftN_k hX hb h8 g4]; exact h2))
