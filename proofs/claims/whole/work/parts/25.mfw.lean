/-- the model's land is the class's -/
def RLd (I : MI) (b yn hn : Nat) : Prop := I 100 41 = nI yn ∧ I 100 43 = nI hn ∧ (∀ y, y < yn → I 114 y = I (b + 10 + 2 * y) 1 ∧ I 115 y = I (b + 10 + 2 * y) 2 ∧ I 116 y = I (b + 10 + 2 * y) 3 ∧ I 117 y = I (b + 10 + 2 * y) 4 ∧ ∀ j, j < laN I b y → I 118 (5 * y + j) = I (b + 11 + 2 * y) j) ∧ ∀ k, k < hn → I 120 k = I (b + 5) k ∧ I 121 k = I (b + 6) k ∧ I 122 k = I (b + 7) k
theorem m_env {I : MI} {b yn hn : Nat} (h : LOk I b yn hn) (hr : RLd I b yn hn) (s : Nat) : mT I hn (hourN s hn) = I (b + 6) (hourN s hn) ∧ mF I hn (hourN s hn) = I (b + 5) (hourN s hn) ∧ mW I hn (hourN s hn) = I (b + 7) (hourN s hn) := by
  unfold mT mF mW
  by_cases h0 : hn = 0
  · have e : hourN s hn = 0 := by unfold hourN; rw [if_pos h0]
    obtain ⟨z1, z2, z3⟩ := h.2.2.2.2.2.2.2 h0
    rw [if_pos h0, if_pos h0, if_pos h0, e, z1, z2, z3]
    exact ⟨rfl, rfl, rfl⟩
  · rw [if_neg h0, if_neg h0, if_neg h0]
    obtain ⟨k1, k2, k3⟩ := hr.2.2.2 _ (hourN_in s h0)
    exact ⟨k2, k1, k3⟩
theorem lesF_N {s hn : Nat} (hs : s ≤ 800) (h : hn ≤ 12) (h0 : ¬ hn = 0) : lesF (nI s / 6) (nI hn - 1) = nI (hourN s hn) := by
  rw [s6 hs, show nI hn - 1 = nI (hn - 1) from pk_sub (a := hn) (b := 1) (by omega)]
  unfold lesF hourN
  rw [if_neg h0]
  by_cases h2 : s / 6 < hn - 1
  · rw [if_pos h2, if_pos ((nI_ltI (by omega) (by omega)).mpr h2)]
  · rw [if_neg h2, if_neg (fun q => h2 ((nI_ltI (by omega) (by omega)).mp q))]
theorem c_mstep {I : MI} {b yn hn y n : Nat} (h : LOk I b yn hn) (hr : RLd I b yn hn) (hy : y < yn) {sh : Int32} (hsh : ShOk sh) {s : Nat} (hs : s ≤ 800) (hn9 : n ≤ 900) {G : GT} (hG : GB (laN I b y) n G) (r : MR) (J : MJ) : Cq yX12_goOn MX12_goOn [.ref 100, .int (nI y), .int (nI s), .int sh] (mPut I G) r J (Rt none (mPut I (stepY I b y hn sh s G)) r J) := by
  obtain ⟨m1, m2, m3⟩ := m_env h hr s
  obtain ⟨hb, e1, h8, e9, h12, hys, hh⟩ := h
  obtain ⟨so, la, q1, q2, q3, q4, q5, q6, q7, q8⟩ := hys y hy
  obtain ⟨r1, r2, r3, r4⟩ := hr
  obtain ⟨p1, p2, p3, p4, p5⟩ := r3 y hy
  unfold stepY
  rw [so_of q1 q2]
  rw [la_of (so := so) q3 q5] at hG ⊢
  have hst := GB_step q2 q4 q5 hn9 (envOk hh hsh s q7) hG
  have k := c_goOn y (by omega) q2 q4 q5 (nI s) sh I (hn := hn) (hh := hourN s hn) (by rw [p1]; exact q1) (by rw [p4]; exact q3) r2 h12 (fun h0 => lesF_N hs h12 h0) (hourN_lt s h12) G (by rw [m2, m3]; exact hst.2.1) (by rw [m2, m3]; exact hst.2.2.1) (by rw [m1, m2, m3]; exact hst.2.2.2.1) r J
  rw [m1, m2, m3, p3] at k
  exact k
def Rm (x : Int32) (I : MI) (r : MR) (J : MJ) : Option Value → MI → MR → MJ → Prop := fun v I' r' J' => v = some (.int x) ∧ (∃ G, I' = mPut I G) ∧ r' = r ∧ J' = J
set_option maxRecDepth 100000 in
theorem c_misWhite (I : MI) (r : MR) (J : MJ) : Cq yX12_isWhite MX12_isWhite [.ref 100] I r J (Rt (some (.int (whiteF (I 100 50)))) I r J) := by
  refine cq_of [some (.ref 100)] 0 (by decide +kernel) rfl rfl (Nat.le_of_ble_eq_true rfl) rfl ?_
  refine x_aload_n (q := 1) dX12_isWhite_0 rfl rfl ?_
  refine q_gi (K := 50) (q := 4) dX12_isWhite_1 rfl cl_12 (by decide) tw_1132 rfl rfl ?_
  refine x_bipush (10) (q := 6) dX12_isWhite_4 rfl (by decide) ?_
  refine x_icmp_lt (t := 13) (q := 9) dX12_isWhite_6 (by decide) rfl (fun c6 => ?_) (fun c6 => ?_)
  · refine x_iconst (0) (q := 14) dX12_isWhite_13 rfl (by decide) ?_
    refine q_zret dX12_isWhite_14 rfl (Or.inl rfl) ?_
    refine ⟨?_, rfl, rfl, rfl⟩
    simp [whiteF, *]
  · refine x_iconst (1) (q := 10) dX12_isWhite_9 rfl (by decide) ?_
    refine x_goto (t := 14) dX12_isWhite_10 (by decide) ?_
    refine q_zret dX12_isWhite_14 rfl (Or.inr rfl) ?_
    refine ⟨?_, rfl, rfl, rfl⟩
    simp [whiteF, *]
set_option maxRecDepth 100000 in
theorem c_misBlocked (y : Nat) (hy : y < 8) (I : MI) (r : MR) (J : MJ) : Cq yX12_isBlocked MX12_isBlocked [.ref 100, .int (nI y)] I r J (Rt (some (.int (blockedF (I 115 y) (I 100 50) (I 100 51)))) I r J) := by
  refine cq_of [some (.ref 100), some (.int (nI y))] 0 (by decide +kernel) rfl rfl (Nat.le_of_ble_eq_true rfl) rfl ?_
  refine x_aload_n (q := 1) dX12_isBlocked_0 rfl rfl ?_
  refine q_gr (K := 23) (b := 115) (q := 4) dX12_isBlocked_1 rfl cl_12 (by decide) tw_1105 rfl rfl rfl ?_
  refine x_iload_n (q := 5) dX12_isBlocked_4 rfl rfl ?_
  refine q_iald (q := 6) dX12_isBlocked_5 rfl rfl (vp_in_nI hy (by decide)) ?_
  refine x_aload_n (q := 7) dX12_isBlocked_6 rfl rfl ?_
  refine q_gi (K := 50) (q := 10) dX12_isBlocked_7 rfl cl_12 (by decide) tw_1132 rfl rfl ?_
  refine x_iconst (2) (q := 11) dX12_isBlocked_10 rfl (by decide) ?_
  refine x_aload_n (q := 12) dX12_isBlocked_11 rfl rfl ?_
  refine q_gi (K := 51) (q := 15) dX12_isBlocked_12 rfl cl_12 (by decide) tw_1133 rfl rfl ?_
  refine x_imul (q := 16) dX12_isBlocked_15 rfl ?_
  refine x_iadd (q := 17) dX12_isBlocked_16 rfl ?_
  refine x_imul (q := 18) dX12_isBlocked_17 rfl ?_
  refine x_sipush (1000) (q := 21) dX12_isBlocked_18 rfl (by decide) ?_
  refine x_icmp_lt (t := 28) (q := 24) dX12_isBlocked_21 (by decide) rfl (fun c21 => ?_) (fun c21 => ?_)
  · refine x_iconst (0) (q := 29) dX12_isBlocked_28 rfl (by decide) ?_
    refine q_zret dX12_isBlocked_29 rfl (Or.inl rfl) ?_
    refine ⟨?_, rfl, rfl, rfl⟩
    have hcy : (nI y).toNatClampNeg = y := nI_clamp (by omega)
    simp only [hcy] at *
    simp [blockedF, *]
  · refine x_iconst (1) (q := 25) dX12_isBlocked_24 rfl (by decide) ?_
    refine x_goto (t := 29) dX12_isBlocked_25 (by decide) ?_
    refine q_zret dX12_isBlocked_29 rfl (Or.inr rfl) ?_
    refine ⟨?_, rfl, rfl, rfl⟩
    have hcy : (nI y).toNatClampNeg = y := nI_clamp (by omega)
    simp only [hcy] at *
    simp [blockedF, *]
set_option maxRecDepth 100000 in
theorem l_mfw {I : MI} {b yn hn y n st : Nat} {c : Int} (h : LOk I b yn hn) (hr : RLd I b yn hn) (hy : y < yn) {sh : Int32} (hsh : ShOk sh) {much sat : Int32} {at0 : Nat} (hm : 0 ≤ much.toInt ∧ much.toInt ≤ 99) (hat : ∀ k, k ≤ 72 → (sat = nI k ↔ k = at0)) (hc : c + 99 ≤ 20000) {G : GT} (hG : GC (laN I b y) n c G) (hn8 : n ≤ 800) (est : I 100 55 = nI st) (hst : st ≤ 720) (r : MR) (J : MJ) : ∀ (f k : Nat), k + f = 72 → Wq MX12_firstWhite 23 [some (.ref 100), some (.int (nI y)), some (.int sh), some (.int sat), some (.int much), some (.int (nI (k + 1)))] [] (mPut I (sprG k at0 much (fwG I b y hn sh st much at0 G k))) r J (Rm (fstW (fun k => whB (fwG I b y hn sh st much at0 G k)) k f) I r J) := by
  have hy8 : y < 8 := by have := h.2.2.1; omega
  have e55 : ∀ F, mPut I F 100 55 = nI st := fun F => by rw [mPut_h _ _ _ (by decide)]; exact est
  intro f
  induction f with
  | zero =>
    intro k hkf
    refine x_iload (q := 25) dX12_firstWhite_23 rfl rfl ?_
    refine x_bipush (72) (q := 27) dX12_firstWhite_25 rfl (by decide) ?_
    refine x_icmp_gt (t := 78) (q := 30) dX12_firstWhite_27 (by decide) rfl (fun c27 => ?_) (fun c27 => absurd c27 (fun q => q ((nI_ltI (a := 72) (by omega) (by omega)).mpr (by omega))))
    refine x_iconst (-1) (q := 79) dX12_firstWhite_78 rfl (by decide) ?_
    refine q_iret dX12_firstWhite_79 rfl ?_
    exact ⟨rfl, ⟨_, rfl⟩, rfl, rfl⟩
  | succ f ih =>
    intro k hkf
    have hgb := (GC_fw h hy hsh (st := st) (at0 := at0) hm hc hG k (by omega)).2.1
    refine x_iload (q := 25) dX12_firstWhite_23 rfl rfl ?_
    refine x_bipush (72) (q := 27) dX12_firstWhite_25 rfl (by decide) ?_
    refine x_icmp_gt (t := 78) (q := 30) dX12_firstWhite_27 (by decide) rfl (fun c27 => absurd c27 (fun q => absurd ((nI_ltI (a := 72) (by omega) (by omega)).mp q) (by omega))) (fun c27 => ?_)
    refine x_aload_n (q := 31) dX12_firstWhite_30 rfl rfl ?_
    refine x_iload_n (q := 32) dX12_firstWhite_31 rfl rfl ?_
    refine x_aload_n (q := 33) dX12_firstWhite_32 rfl rfl ?_
    refine q_gi (K := 55) (q := 36) dX12_firstWhite_33 rfl cl_12 (by decide) tw_1137 rfl rfl ?_
    refine x_iload (q := 38) dX12_firstWhite_36 rfl rfl ?_
    refine x_iadd (q := 39) dX12_firstWhite_38 rfl ?_
    refine x_iconst (1) (q := 40) dX12_firstWhite_39 rfl (by decide) ?_
    refine x_isub (q := 41) dX12_firstWhite_40 rfl ?_
    rw [e55, nI_add, show nI (st + (k + 1)) - 1 = nI (st + k) from nI_pred (st + k)]
    refine x_iload_n (q := 42) dX12_firstWhite_41 rfl rfl ?_
    refine q_callV (ci := 12) (N := 79) (T := TX12) (As := [.int (nI y), .int (nI (st + k)), .int sh]) (rest := []) (q := 45) dX12_firstWhite_42 rfl okX12_goOn tw_1457 rfl rfl (c_mstep (s := st + k) (n := n + k) h hr hy hsh (by omega) (by omega) (G := (sprG k at0 much (fwG I b y hn sh st much at0 G k))) hgb r J) rfl rfl (Nat.le_of_ble_eq_true rfl) ⟨by decide, by decide⟩ ⟨rfl, rfl⟩ (fun rv_ I_ r_ J_ hv_ => ?_)
    obtain ⟨a1_, a2_, a3_, a4_⟩ := hv_
    rw [a1_, a2_, a3_, a4_]
    show Wq MX12_firstWhite 45 [some (.ref 100), some (.int (nI y)), some (.int sh), some (.int sat), some (.int much), some (.int (nI (k + 1)))] [] (mPut I (fwG I b y hn sh st much at0 G (k + 1))) r J _
    refine x_aload_n (q := 46) dX12_firstWhite_45 rfl rfl ?_
    refine q_callV (ci := 12) (N := 79) (T := TX12) (As := []) (rest := []) (q := 49) dX12_firstWhite_46 rfl okX12_isWhite tw_1493 rfl rfl (c_misWhite _ _ _) rfl rfl (Nat.le_of_ble_eq_true rfl) ⟨by decide, by decide⟩ ⟨rfl, rfl⟩ (fun rv_ I_ r_ J_ hv_ => ?_)
    obtain ⟨a1_, a2_, a3_, a4_⟩ := hv_
    rw [mPut_50] at a1_
    rw [a1_, a2_, a3_, a4_]
    show Wq MX12_firstWhite 49 [some (.ref 100), some (.int (nI y)), some (.int sh), some (.int sat), some (.int much), some (.int (nI (k + 1)))] [.int (whiteF ((fwG I b y hn sh st much at0 G (k + 1)) 6))] (mPut I (fwG I b y hn sh st much at0 G (k + 1))) r J _
    refine x_if_eq (t := 55) (q := 52) dX12_firstWhite_49 (by decide) rfl (fun c49 => ?_) (fun c49 => ?_)
    · refine x_iload_n (q := 56) dX12_firstWhite_55 rfl rfl ?_
      refine x_iload (q := 58) dX12_firstWhite_56 rfl rfl ?_
      refine x_icmp_ne (t := 72) (q := 61) dX12_firstWhite_58 (by decide) rfl (fun c58 => ?_) (fun c58 => ?_)
      · have hw : whB (fwG I b y hn sh st much at0 G (k + 1)) = false := by
          rw [whiteF_B] at c49
          cases hx : whB (fwG I b y hn sh st much at0 G (k + 1)) with
          | false => rfl
          | true => rw [hx] at c49; exact absurd c49 (by decide)
        have e : fstW (fun k => whB (fwG I b y hn sh st much at0 G k)) k (f + 1) = fstW (fun k => whB (fwG I b y hn sh st much at0 G k)) (k + 1) f := by
          show (if whB (fwG I b y hn sh st much at0 G (k + 1)) then nI (k + 1) else fstW (fun k => whB (fwG I b y hn sh st much at0 G k)) (k + 1) f) = _
          rw [hw]
          rfl
        have q : ¬ k + 1 = at0 := fun q => c58 ((hat (k + 1) (by omega)).mpr q)
        have e9 : mPut I (fwG I b y hn sh st much at0 G (k + 1)) = mPut I (sprG (k + 1) at0 much (fwG I b y hn sh st much at0 G (k + 1))) := congrArg (mPut I) (Eq.symm (if_neg q))
        rw [e, e9]
        refine x_iinc (v := nI (k + 1 + 1)) (L2 := [some (.ref 100), some (.int (nI y)), some (.int sh), some (.int sat), some (.int much), some (.int (nI (k + 1 + 1)))]) (q := 75) dX12_firstWhite_72 rfl (by decide) rfl rfl (nI_p1 (k + 1)) rfl ?_
        refine x_goto (t := 23) dX12_firstWhite_75 (by decide) ?_
        exact ih (k + 1) (by omega)
      · refine x_aload_n (q := 62) dX12_firstWhite_61 rfl rfl ?_
        refine x_dup (q := 63) dX12_firstWhite_62 rfl rfl ?_
        refine q_gi (K := 52) (q := 66) dX12_firstWhite_63 rfl cl_12 (by decide) tw_1134 rfl rfl ?_
        refine x_iload (q := 68) dX12_firstWhite_66 rfl rfl ?_
        refine x_iadd (q := 69) dX12_firstWhite_68 rfl ?_
        refine q_pi (K := 52) (q := 72) dX12_firstWhite_69 rfl cl_12 (by decide) tw_1134 rfl rfl rfl rfl (fun I1 eI1 => ?_)
        have hw : whB (fwG I b y hn sh st much at0 G (k + 1)) = false := by
          rw [whiteF_B] at c49
          cases hx : whB (fwG I b y hn sh st much at0 G (k + 1)) with
          | false => rfl
          | true => rw [hx] at c49; exact absurd c49 (by decide)
        have e : fstW (fun k => whB (fwG I b y hn sh st much at0 G k)) k (f + 1) = fstW (fun k => whB (fwG I b y hn sh st much at0 G k)) (k + 1) f := by
          show (if whB (fwG I b y hn sh st much at0 G (k + 1)) then nI (k + 1) else fstW (fun k => whB (fwG I b y hn sh st much at0 G k)) (k + 1) f) = _
          rw [hw]
          rfl
        have q : k + 1 = at0 := (hat (k + 1) (by omega)).mp c58
        have e9 : I1 = mPut I (sprG (k + 1) at0 much (fwG I b y hn sh st much at0 G (k + 1))) := by
          rw [eI1, mPut_52, mPut_u52]
          exact congrArg (mPut I) (Eq.symm (if_pos q))
        rw [e, e9]
        refine x_iinc (v := nI (k + 1 + 1)) (L2 := [some (.ref 100), some (.int (nI y)), some (.int sh), some (.int sat), some (.int much), some (.int (nI (k + 1 + 1)))]) (q := 75) dX12_firstWhite_72 rfl (by decide) rfl rfl (nI_p1 (k + 1)) rfl ?_
        refine x_goto (t := 23) dX12_firstWhite_75 (by decide) ?_
        exact ih (k + 1) (by omega)
    · refine x_iload (q := 54) dX12_firstWhite_52 rfl rfl ?_
      refine q_iret dX12_firstWhite_54 rfl ?_
      refine ⟨?_, ⟨_, rfl⟩, rfl, rfl⟩
      have hw : whB (fwG I b y hn sh st much at0 G (k + 1)) = true := by
        rw [whiteF_B] at c49
        cases hx : whB (fwG I b y hn sh st much at0 G (k + 1)) with
        | true => rfl
        | false => rw [hx] at c49; exact absurd rfl c49
      have e : fstW (fun k => whB (fwG I b y hn sh st much at0 G k)) k (f + 1) = nI (k + 1) := if_pos hw
      rw [e]
set_option maxRecDepth 100000 in
theorem c_mfw {I : MI} {b yn hn y n st : Nat} {c : Int} (h : LOk I b yn hn) (hr : RLd I b yn hn) (hy : y < yn) {sh : Int32} (hsh : ShOk sh) {much sat : Int32} {at0 : Nat} (hm : 0 ≤ much.toInt ∧ much.toInt ≤ 99) (hat : ∀ k, k ≤ 72 → (sat = nI k ↔ k = at0)) (hc : c + 99 ≤ 20000) (F : GT) (hG : GC (laN I b y) n c (yGet I y)) (hn8 : n ≤ 800) (est : I 100 55 = nI st) (hst : st ≤ 720) (r : MR) (J : MJ) : Cq yX12_firstWhite MX12_firstWhite [.ref 100, .int (nI y), .int sh, .int sat, .int much] (mPut I F) r J (Rm (fstW (fun k => whB (fwG I b y hn sh st much at0 (yGet I y) k)) 0 72) I r J) := by
  have hy8 : y < 8 := by have := h.2.2.1; omega
  have e55 : ∀ F, mPut I F 100 55 = nI st := fun F => by rw [mPut_h _ _ _ (by decide)]; exact est
  refine cq_of [some (.ref 100), some (.int (nI y)), some (.int sh), some (.int sat), some (.int much), none] 1 (by decide +kernel) rfl rfl (Nat.le_of_ble_eq_true rfl) rfl ?_
  refine x_aload_n (q := 1) dX12_firstWhite_0 rfl rfl ?_
  refine x_iload_n (q := 2) dX12_firstWhite_1 rfl rfl ?_
  refine q_callV (ci := 12) (N := 79) (T := TX12) (As := [.int (nI y)]) (rest := []) (q := 5) dX12_firstWhite_2 rfl okX12_bring tw_1453 rfl rfl (c_bring y hy8 I F r J) rfl rfl (Nat.le_of_ble_eq_true rfl) ⟨by decide, by decide⟩ ⟨rfl, rfl⟩ (fun rv_ I_ r_ J_ hv_ => ?_)
  obtain ⟨a1_, a2_, a3_, a4_⟩ := hv_
  rw [a1_, a2_, a3_, a4_]
  show Wq MX12_firstWhite 5 [some (.ref 100), some (.int (nI y)), some (.int sh), some (.int sat), some (.int much), none] [] (mPut I (yGet I y)) r J _
  refine x_iload_n (q := 6) dX12_firstWhite_5 rfl rfl ?_
  refine x_if_ne (t := 20) (q := 9) dX12_firstWhite_6 (by decide) rfl (fun c6 => ?_) (fun c6 => ?_)
  · have q : ¬ 0 = at0 := fun q => c6 ((hat 0 (by omega)).mpr q)
    have e9 : mPut I (yGet I y) = mPut I (sprG 0 at0 much (yGet I y)) := congrArg (mPut I) (Eq.symm (if_neg q))
    rw [e9]
    refine x_iconst (1) (q := 21) dX12_firstWhite_20 rfl (by decide) ?_
    refine x_istore (L2 := [some (.ref 100), some (.int (nI y)), some (.int sh), some (.int sat), some (.int much), some (.int 1)]) (q := 23) dX12_firstWhite_21 rfl (by decide) rfl rfl ?_
    exact l_mfw h hr hy hsh hm hat hc hG hn8 est hst r J 72 0 rfl
  · refine x_aload_n (q := 10) dX12_firstWhite_9 rfl rfl ?_
    refine x_dup (q := 11) dX12_firstWhite_10 rfl rfl ?_
    refine q_gi (K := 52) (q := 14) dX12_firstWhite_11 rfl cl_12 (by decide) tw_1134 rfl rfl ?_
    refine x_iload (q := 16) dX12_firstWhite_14 rfl rfl ?_
    refine x_iadd (q := 17) dX12_firstWhite_16 rfl ?_
    refine q_pi (K := 52) (q := 20) dX12_firstWhite_17 rfl cl_12 (by decide) tw_1134 rfl rfl rfl rfl (fun I1 eI1 => ?_)
    have q : 0 = at0 := (hat 0 (by omega)).mp c6
    have e9 : I1 = mPut I (sprG 0 at0 much (yGet I y)) := by
      rw [eI1, mPut_52, mPut_u52]
      exact congrArg (mPut I) (Eq.symm (if_pos q))
    rw [e9]
    refine x_iconst (1) (q := 21) dX12_firstWhite_20 rfl (by decide) ?_
    refine x_istore (L2 := [some (.ref 100), some (.int (nI y)), some (.int sh), some (.int sat), some (.int much), some (.int 1)]) (q := 23) dX12_firstWhite_21 rfl (by decide) rfl rfl ?_
    exact l_mfw h hr hy hsh hm hat hc hG hn8 est hst r J 72 0 rfl
/-- the two sides see the same -/
theorem GE.spr {la k at0 : Nat} {much : Int32} {G G' : GT} (h : GE la G G') : GE la (sprG k at0 much G) (sprG k at0 much G') := by
  unfold sprG
  split
  · exact h.put 8 (by rw [h.2 8 (by decide) (by decide)])
  · exact h
theorem GE_stepY {I : MI} {b yn hn y : Nat} (h : LOk I b yn hn) (hy : y < yn) {sh : Int32} {s : Nat} {G G' : GT} (hg : GE (laN I b y) G G') : GE (laN I b y) (stepY I b y hn sh s G) (stepY I b y hn sh s G') := by
  exact GE.step (so := soN I b y) (la := laN I b y) (T := I (b + 6) (hourN s hn) + sh) (fl := I (b + 5) (hourN s hn)) (wt := I (b + 7) (hourN s hn)) (tr := I (b + 10 + 2 * y) 3) hg (la5 h hy).1
theorem GE_fw {I : MI} {b yn hn y : Nat} (h : LOk I b yn hn) (hy : y < yn) {sh : Int32} {st : Nat} {much : Int32} {at0 : Nat} {G G' : GT} (hg : GE (laN I b y) G G') : ∀ k, GE (laN I b y) (fwG I b y hn sh st much at0 G k) (fwG I b y hn sh st much at0 G' k) := by
  intro k
  induction k with
  | zero => exact hg
  | succ k ih => exact GE_stepY h hy ih.spr
theorem fw_eq {I : MI} {b yn hn y : Nat} (h : LOk I b yn hn) (hy : y < yn) {sh : Int32} {st : Nat} {much : Int32} {at0 : Nat} {G G' : GT} (hg : GE (laN I b y) G G') : fstW (fun k => whB (fwG I b y hn sh st much at0 G k)) 0 72 = fstW (fun k => whB (fwG I b y hn sh st much at0 G' k)) 0 72 := by
  congr 1
  funext k
  unfold whB
  rw [(GE_fw h hy hg k).2 6 (by decide) (by decide)]
theorem GE.sym {la : Nat} {G G' : GT} (h : GE la G G') : GE la G' G := ⟨fun j hj => (h.1 j hj).symm, fun j h1 h2 => (h.2 j h1 h2).symm⟩
theorem GE_copy {la : Nat} {G F : GT} (h5 : la ≤ 5) : GE la (copyG G F) G := by
  refine ⟨fun j hj => ?_, fun j h1 h2 => ?_⟩
  · have : j < 9 := by omega
    simp [copyG, this]
  · simp [copyG, h2]
theorem spr_0 {k at0 : Nat} {G : GT} : sprG k at0 0 G = G := by
  unfold sprG
  split
  · funext j
    by_cases e : j = 8
    · subst e
      simp [upd]
    · simp [upd, e]
  · rfl
theorem fw_0 {I : MI} {b hn y : Nat} {sh : Int32} {st : Nat} {at0 at1 : Nat} {G : GT} : ∀ k, fwG I b y hn sh st 0 at0 G k = fwG I b y hn sh st 0 at1 G k := by
  intro k
  induction k with
  | zero => rfl
  | succ k ih =>
    unfold fwG
    rw [spr_0, spr_0, ih]
