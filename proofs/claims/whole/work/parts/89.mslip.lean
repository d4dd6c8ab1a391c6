theorem sk_en (T : Nat → Nat) (n p : Nat) : sk T n p ≤ en T n p := by
  unfold en enQ
  by_cases e1 : n ≤ sk T n p
  · rw [if_pos e1]; omega
  rw [if_neg e1]
  by_cases e2 : ltr (T (sk T n p)) = true
  · rw [if_pos e2]; exact (rlp_b (by omega)).1
  rw [if_neg e2]
  by_cases e3 : dgi (T (sk T n p)) = true
  · rw [if_pos e3]; exact (rlp_b (by omega)).1
  rw [if_neg e3]; omega
theorem en_3 {T : Nat → Nat} {n p : Nat} (h : kd T n p = 3) : sk T n p < en T n p := by
  have g := kd3 h
  unfold en
  rw [enQ_n g.1 g.2.1]
  unfold dge
  rw [rlp_1 g.1 g.2.1]
  have := rlp_b (g := dgi) (T := T) (n := n) (p := sk T n p + 1) (by have := g.1; omega)
  omega
theorem p_sk (T : Nat → Nat) (n p : Nat) : p ≤ sk T n p := (rl_ge (g := spc) (T := T) (n - p) p).1
theorem tva_p {T : Nat → Nat} {n m : Nat} {s : Nat × Nat × Nat} (h : (tvaT T n m s).1 = 0) : sk T n s.2.2 < sk T n (tvaT T n m s).2.2 := by
  have q := tvaT_0 h
  rw [q.2.2.2]
  show sk T n s.2.2 < sk T n (en T n (vS T n s).2.2)
  have h3 := en_3 q.2.1.2
  have h4 := p_sk T n (en T n (vS T n s).2.2)
  have h5 : sk T n s.2.2 ≤ sk T n (vS T n s).2.2 := by
    unfold vS
    by_cases z : kd T n s.2.2 = 5
    · rw [if_pos z]
      have a1 := sk_en T n s.2.2
      have a2 := p_sk T n (en T n s.2.2)
      show sk T n s.2.2 ≤ sk T n (en T n s.2.2)
      omega
    · rw [if_neg z]; omega
  omega
theorem sl_h {T : Nat → Nat} {n sn : Nat} {A : MI} {x : Int32} {t1 t2 : Nat × Nat × Nat} (hx : t2.1 = 0 → x = tvV_ T n t1) (e2 : t2 = tvaT T n 50 t1) (hh : hsF A x sn = true) : rf (if kd T n t2.2.2 = 1 ∧ sk T n t1.2.2 = sk T n t2.2.2 then 1 else 3) (sk T n t1.2.2) t2 = if hsF A (tvV_ T n t1) sn then rf 3 (sk T n t1.2.2) t2 else t2 := by
  by_cases z : t2.1 = 0
  · have hp := tva_p (by rw [e2] at z; exact z)
    rw [← e2] at hp
    rw [hx z] at hh
    rw [if_pos hh, if_neg (fun w => absurd w.2 (by omega))]
  · rw [rf_s z, rf_s z]
    by_cases w : hsF A (tvV_ T n t1) sn = true
    · rw [if_pos w]
    · rw [if_neg w]
theorem sl_n {T : Nat → Nat} {n sn : Nat} {A : MI} {x : Int32} {t1 t2 : Nat × Nat × Nat} (hx : t2.1 = 0 → x = tvV_ T n t1) (hh : ¬ hsF A x sn = true) : t2 = if hsF A (tvV_ T n t1) sn then rf 3 (sk T n t1.2.2) t2 else t2 := by
  by_cases z : t2.1 = 0
  · rw [hx z] at hh
    rw [if_neg hh]
  · rw [rf_s z]
    by_cases w : hsF A (tvV_ T n t1) sn = true
    · rw [if_pos w]
    · rw [if_neg w]
theorem MD_sl {T : Nat → Nat} {n : Nat} {A : MI} {yn wn hn sn : Nat} {M Y : MI} {J K : MJ} (h : MD T n A yn wn hn sn M J) (hf : sn < 7) {a b : Int32} (ha : Ib a (-50) 50) (hb : Ib b 1 99) (hd : DA (upI (upI (upI M 112 sn a) 113 sn b) 100 36 (nI (sn + 1))) Y) (hk : ∀ i, K 102 i = J 102 i) : MD T n (upI (upI (upI A 8 sn a) 9 sn b) 0 12 (nI (sn + 1))) yn wn hn (sn + 1) Y K := by
  obtain ⟨⟨k1, k5, k9, k12⟩, ⟨y8, w16, h12, s7⟩, ⟨m33, m34, m35, m36⟩, hMN, hMy, hMh, hMs, hMw, hMo⟩ := h
  have ea : ∀ c', ¬ c' = 0 → ¬ c' = 8 → ¬ c' = 9 → (upI (upI (upI A 8 sn a) 9 sn b) 0 12 (nI (sn + 1))) c' = A c' := fun c' z0 _ _ => by rw [upc (by omega), upc (by omega), upc (by omega)]
  have e0 : ∀ j, ¬ j = 12 → (upI (upI (upI A 8 sn a) 9 sn b) 0 12 (nI (sn + 1))) 0 j = A 0 j := fun j _ => by rw [ups (by omega), upc (by omega), upc (by omega)]
  have em : ∀ c', 103 ≤ c' → c' ≤ 113 → ¬ c' = 112 → ¬ c' = 113 → Y c' = M c' := fun c' z1 z2 _ _ => by rw [hd.1 c' z1 z2, upc (by omega), upc (by omega), upc (by omega)]
  have e1 : ∀ j, 33 ≤ j → j ≤ 40 → ¬ j = 36 → Y 100 j = M 100 j := fun j z1 z2 _ => by rw [hd.2 j z1 z2, ups (by omega), upc (by omega), upc (by omega)]
  refine ⟨⟨by rw [e0 1 (by omega)]; exact k1, by rw [e0 5 (by omega)]; exact k5, by rw [e0 9 (by omega)]; exact k9, by rw [upq]⟩, ⟨by omega, by omega, by omega, by omega⟩, ⟨by rw [e1 33 (by decide) (by decide) (by omega)]; exact m33, by rw [e1 34 (by decide) (by decide) (by omega)]; exact m34, by rw [e1 35 (by decide) (by decide) (by omega)]; exact m35, by rw [hd.2 36 (by decide) (by decide), upq]⟩, MN_c hMN (ea 26 (by omega) (by omega) (by omega)) hk, My_c hMy y8 (fun c' z1 z2 => ea c' (by omega) (by omega) (by omega)) (fun c' z1 z2 => em c' (by omega) (by omega) (by omega) (by omega)), Mh_c hMh (fun c' z1 z2 => ea c' (by omega) (by omega) (by omega)) (fun c' z1 z2 => em c' (by omega) (by omega) (by omega) (by omega)), ?_, Mw_c hMw (Nat.le_refl _) (fun c' z1 z2 => ea c' (by omega) (by omega) (by omega)) (em 108 (by decide) (by decide) (by omega) (by omega)), Mo_c hMo (Nat.le_refl _) (fun j z1 z2 => e0 j (by omega)) (fun j z1 z2 => e1 j (by omega) (by omega) (by omega))⟩
  · have a8 : (upI (upI (upI A 8 sn a) 9 sn b) 0 12 (nI (sn + 1))) 8 = upI A 8 sn a 8 := by rw [upc (by decide), upc (by decide)]
    have a9 : (upI (upI (upI A 8 sn a) 9 sn b) 0 12 (nI (sn + 1))) 9 = upI A 9 sn b 9 := by rw [upc (by decide)]; exact upx (upc (by decide))
    intro k hk'
    rw [a8, a9, hd.1 112 (by decide) (by decide), hd.1 113 (by decide) (by decide)]
    by_cases e : k = sn
    · rw [e, upq, upq]
      exact ⟨⟨by rw [upc (by decide), upc (by decide), upq], by rw [upc (by decide), upq]⟩, ha, hb⟩
    · rw [ups e, ups e]
      have q := hMs k (by omega)
      exact ⟨⟨by rw [upc (by decide), upc (by decide), ups e]; exact q.1.1, by rw [upc (by decide), ups e, upc (by decide)]; exact q.1.2⟩, q.2⟩
set_option maxRecDepth 100000 in
theorem l_slL (r : MR) {V : MI} {K : MJ} {A : MI} {sn : Nat} (h36 : V 100 36 = nI sn) (s7 : sn ≤ 7) (h8 : ∀ k, k < sn → V 112 k = A 8 k) (w x : Int32) (post : Option Value → MI → MR → MJ → Prop) (kx : Wq MX12_readSlip 57 [some (.ref 100), some (.int w), some (.int x), some (.int (if hsF A x sn then 1 else 0)), some (.int (nI sn))] [] V r K post) : ∀ (f : Nat) (k : Nat) (_ : k + f = sn), Wq MX12_readSlip 21 [some (.ref 100), some (.int w), some (.int x), some (.int (if hsF A x k then 1 else 0)), some (.int (nI k))] [] V r K (post) := by
  intro f
  induction f with
  | zero =>
    intro k hkf
    refine x_iload (q := 23) dX12_readSlip_21 rfl rfl ?_
    refine x_aload_n (q := 24) dX12_readSlip_23 rfl rfl ?_
    refine q_gi (K := 36) (q := 27) dX12_readSlip_24 rfl cl_12 (by decide) tw_1118 rfl rfl ?_
    refine x_icmp_ge (t := 57) (q := 30) dX12_readSlip_27 (by decide) rfl (fun c27 => ?_) (fun c27 => absurd c27 (fun q => q (by rw [h36]; exact nI_le (by omega) (by omega))))
    rw [show k = sn by omega]
    exact kx
  | succ f ih =>
    intro k hkf
    have e8 : V 112 (nI k).toNatClampNeg = A 8 k := by rw [nI_clamp (by omega)]; exact h8 k (by omega)
    refine x_iload (q := 23) dX12_readSlip_21 rfl rfl ?_
    refine x_aload_n (q := 24) dX12_readSlip_23 rfl rfl ?_
    refine q_gi (K := 36) (q := 27) dX12_readSlip_24 rfl cl_12 (by decide) tw_1118 rfl rfl ?_
    refine x_icmp_ge (t := 57) (q := 30) dX12_readSlip_27 (by decide) rfl (fun c27 => absurd c27 (by rw [h36]; exact nI_ge (by omega) (by omega))) (fun c27 => ?_)
    refine x_iload_n (q := 31) dX12_readSlip_30 rfl rfl ?_
    refine x_if_ne (t := 45) (q := 34) dX12_readSlip_31 (by decide) rfl (fun c31 => ?_) (fun c31 => ?_)
    · refine x_iconst (1) (q := 46) dX12_readSlip_45 rfl (by decide) ?_
      refine x_goto (t := 50) dX12_readSlip_46 (by decide) ?_
      refine x_istore_n (L2 := [some (.ref 100), some (.int w), some (.int x), some (.int 1), some (.int (nI k))]) (q := 51) dX12_readSlip_50 rfl (by decide) rfl rfl ?_
      obtain ⟨v1, ev1⟩ : ∃ y_ : Int32, y_ = (nI k) + 1 := ⟨_, rfl⟩
      refine x_iinc (v := v1) (L2 := [some (.ref 100), some (.int w), some (.int x), some (.int 1), some (.int v1)]) (q := 54) dX12_readSlip_51 rfl (by decide) rfl rfl (by rw [ev1]; rfl) rfl ?_
      refine x_goto (t := 21) dX12_readSlip_54 (by decide) ?_
      rw [show v1 = nI (k + 1) by rw [ev1, nI_p1]]
      have g := ih (k + 1) (by omega)
      have hs : hsF A x (k + 1) = true := by
        show (hsF A x k || decide (A 8 k = x)) = true
        first
        | (rw [bb_1 c31]; rfl)
        | (rw [decide_eq_true (show A 8 k = x by rw [← e8]; exact c42)]; exact Bool.or_true _)
      rw [hs, if_pos rfl] at g
      exact g
    · refine x_aload_n (q := 35) dX12_readSlip_34 rfl rfl ?_
      refine q_gr (K := 20) (b := 112) (q := 38) dX12_readSlip_35 rfl cl_12 (by decide) tw_1102 rfl rfl rfl ?_
      refine x_iload (q := 40) dX12_readSlip_38 rfl rfl ?_
      refine q_iald (q := 41) dX12_readSlip_40 rfl rfl (vp_in_nI (by omega) (by decide)) ?_
      refine x_iload_n (q := 42) dX12_readSlip_41 rfl rfl ?_
      refine x_icmp_ne (t := 49) (q := 45) dX12_readSlip_42 (by decide) rfl (fun c42 => ?_) (fun c42 => ?_)
      · refine x_iconst (0) (q := 50) dX12_readSlip_49 rfl (by decide) ?_
        refine x_istore_n (L2 := [some (.ref 100), some (.int w), some (.int x), some (.int 0), some (.int (nI k))]) (q := 51) dX12_readSlip_50 rfl (by decide) rfl rfl ?_
        obtain ⟨v2, ev2⟩ : ∃ y_ : Int32, y_ = (nI k) + 1 := ⟨_, rfl⟩
        refine x_iinc (v := v2) (L2 := [some (.ref 100), some (.int w), some (.int x), some (.int 0), some (.int v2)]) (q := 54) dX12_readSlip_51 rfl (by decide) rfl rfl (by rw [ev2]; rfl) rfl ?_
        refine x_goto (t := 21) dX12_readSlip_54 (by decide) ?_
        rw [show v2 = nI (k + 1) by rw [ev2, nI_p1]]
        have g := ih (k + 1) (by omega)
        have hs : hsF A x (k + 1) = false := by
          show (hsF A x k || decide (A 8 k = x)) = false
          rw [eq_false_of_ne_true (bb_0 c31), decide_eq_false (fun z => c42 (by rw [e8]; exact z))]; rfl
        rw [hs, if_neg (by decide)] at g
        exact g
      · refine x_iconst (1) (q := 46) dX12_readSlip_45 rfl (by decide) ?_
        refine x_goto (t := 50) dX12_readSlip_46 (by decide) ?_
        refine x_istore_n (L2 := [some (.ref 100), some (.int w), some (.int x), some (.int 1), some (.int (nI k))]) (q := 51) dX12_readSlip_50 rfl (by decide) rfl rfl ?_
        obtain ⟨v3, ev3⟩ : ∃ y_ : Int32, y_ = (nI k) + 1 := ⟨_, rfl⟩
        refine x_iinc (v := v3) (L2 := [some (.ref 100), some (.int w), some (.int x), some (.int 1), some (.int v3)]) (q := 54) dX12_readSlip_51 rfl (by decide) rfl rfl (by rw [ev3]; rfl) rfl ?_
        refine x_goto (t := 21) dX12_readSlip_54 (by decide) ?_
        rw [show v3 = nI (k + 1) by rw [ev3, nI_p1]]
        have g := ih (k + 1) (by omega)
        have hs : hsF A x (k + 1) = true := by
          show (hsF A x k || decide (A 8 k = x)) = true
          first
          | (rw [bb_1 c31]; rfl)
          | (rw [decide_eq_true (show A 8 k = x by rw [← e8]; exact c42)]; exact Bool.or_true _)
        rw [hs, if_pos rfl] at g
        exact g
set_option maxRecDepth 100000 in
theorem c_msl {T : Nat → Nat} {n : Nat} (r : MR) {M : MI} {J : MJ} {s : Nat × Nat × Nat} (h : PM T n s M J) (h0 : s.1 = 0) (hk1 : ¬ kd T n s.2.2 = 1) {A : MI} {yn wn hn sn : Nat} (hD : MD T n A yn wn hn sn M J) (hf : sn < 7) : Cq yX12_readSlip MX12_readSlip [.ref 100] M r J (RML T n (slS T n A sn s) (MD T n (slA T n s A sn) yn wn hn (sn + 1)) M J r) := by
  obtain ⟨⟨k1, k5, k9, k12⟩, ⟨y8, w16, h12, s7⟩, ⟨m33, m34, m35, m36⟩, hMN, hMy, hMh, hMs, hMw, hMo⟩ := id hD
  have pm0 := h
  have fl0 : FL M J M J := FL.rf
  have da0 : DA M M := DA.rf
  have kn0 : ∀ i, J 102 i = J 102 i := fun _ => rfl
  have hc0 : M 100 36 = nI sn := m36
  refine cq_of [some (.ref 100), none, none, none, none] 4 (by decide +kernel) rfl rfl (Nat.le_of_ble_eq_true rfl) rfl ?_
  refine x_aload_n (q := 1) dX12_readSlip_0 rfl rfl ?_
  refine q_callV (ci := 12) (N := 79) (T := TX12) (As := []) (rest := []) (q := 4) dX12_readSlip_1 rfl okX12_token tw_1340 rfl rfl (c_tokP r pm0 h0 hk1) rfl rfl (Nat.le_of_ble_eq_true rfl) ⟨by decide, by decide⟩ ⟨rfl, rfl⟩ (fun rv_ V1 r_ K1 hv_ => ?_)
  obtain ⟨a1_, pm1, fm1, a3_⟩ := hv_
  rw [a1_, a3_]
  obtain ⟨t1, et1⟩ : ∃ z, z = adv T n s := ⟨_, rfl⟩
  rw [← et1] at pm1
  have fl1 := fl0.tr fm1.l
  have da1 := DA_f da0 fm1
  have kn1 : ∀ i, K1 102 i = J 102 i := fun i => (fm1.2.2 102 i (by omega)).trans (kn0 i)
  have hc1 : V1 100 36 = nI sn := (fm1.2.1 36 (by decide) (by decide) (by decide) (by decide) (by decide) (by decide)).trans hc0
  show Wq MX12_readSlip 4 [some (.ref 100), none, none, none, none] [] V1 r K1 _
  refine x_aload_n (q := 5) dX12_readSlip_4 rfl rfl ?_
  refine q_gi (K := 7) (q := 8) dX12_readSlip_5 rfl cl_12 (by decide) tw_1089 rfl rfl ?_
  refine x_nmi (fun v1 ev1 => ?_)
  refine x_istore_n (L2 := [some (.ref 100), some (.int v1), none, none, none]) (q := 9) dX12_readSlip_8 rfl (by decide) rfl rfl ?_
  have ewp : v1 = nI (sk T n t1.2.2) := by rw [ev1]; exact (pm1.2.2.2.2.2.2 (by rw [et1]; exact h0)).2.2.1
  refine x_aload_n (q := 10) dX12_readSlip_9 rfl rfl ?_
  refine x_bipush (50) (q := 12) dX12_readSlip_10 rfl (by decide) ?_
  refine q_callV (ci := 12) (N := 79) (T := TX12) (As := [.int 50]) (rest := []) (q := 15) dX12_readSlip_12 rfl okX12_signed tw_1414 rfl rfl (c_sgn r pm1 (m := 50) (by decide)) rfl rfl (Nat.le_of_ble_eq_true rfl) ⟨by decide, by decide⟩ ⟨rfl, rfl⟩ (fun rv_ V2 r_ K2 hv_ => ?_)
  obtain ⟨x_12, a1_, hx_12, pm2, fm2, a3_⟩ := hv_
  rw [a1_, a3_]
  obtain ⟨t2, et2⟩ : ∃ z, z = tvaT T n 50 t1 := ⟨_, rfl⟩
  rw [← et2] at pm2
  have fl2 := fl1.tr fm2.l
  have da2 := DA_f da1 fm2
  have kn2 : ∀ i, K2 102 i = J 102 i := fun i => (fm2.2.2 102 i (by omega)).trans (kn1 i)
  have hc2 : V2 100 36 = nI sn := (fm2.2.1 36 (by decide) (by decide) (by decide) (by decide) (by decide) (by decide)).trans hc1
  rw [← et2] at hx_12
  show Wq MX12_readSlip 15 [some (.ref 100), some (.int v1), none, none, none] [.int x_12] V2 r K2 _
  refine x_istore_n (L2 := [some (.ref 100), some (.int v1), some (.int x_12), none, none]) (q := 16) dX12_readSlip_15 rfl (by decide) rfl rfl ?_
  refine x_iconst (0) (q := 17) dX12_readSlip_16 rfl (by decide) ?_
  refine x_istore_n (L2 := [some (.ref 100), some (.int v1), some (.int x_12), some (.int 0), none]) (q := 18) dX12_readSlip_17 rfl (by decide) rfl rfl ?_
  refine x_iconst (0) (q := 19) dX12_readSlip_18 rfl (by decide) ?_
  refine x_istore (L2 := [some (.ref 100), some (.int v1), some (.int x_12), some (.int 0), some (.int 0)]) (q := 21) dX12_readSlip_19 rfl (by decide) rfl rfl ?_
  refine l_slL r (A := A) (sn := sn) hc2 s7 (fun k hk => by rw [da2.1 112 (by decide) (by decide)]; exact (hMs k hk).1.1) _ _ _ ?_ sn 0 (by omega)
  refine x_iload_n (q := 58) dX12_readSlip_57 rfl rfl ?_
  refine x_if_eq (t := 67) (q := 61) dX12_readSlip_58 (by decide) rfl (fun c58 => ?_) (fun c58 => ?_)
  · obtain ⟨t3, et3⟩ : ∃ z, z = if hsF A (tvV_ T n t1) sn then rf 3 (sk T n t1.2.2) t2 else t2 := ⟨_, rfl⟩
    have ec : t2 = t3 := by rw [et3]; exact sl_n hx_12 (bb_0 c58)
    rw [ec] at pm2
    refine x_aload_n (q := 68) dX12_readSlip_67 rfl rfl ?_
    refine q_gr (K := 20) (b := 112) (q := 71) dX12_readSlip_68 rfl cl_12 (by decide) tw_1102 rfl rfl rfl ?_
    refine x_aload_n (q := 72) dX12_readSlip_71 rfl rfl ?_
    refine q_gi (K := 36) (q := 75) dX12_readSlip_72 rfl cl_12 (by decide) tw_1118 rfl rfl ?_
    refine x_iload_n (q := 76) dX12_readSlip_75 rfl rfl ?_
    refine q_iast (q := 77) dX12_readSlip_76 rfl rfl (by rw [hc2]; exact vp_in_nI (by omega) (by decide)) (fun I31 eI31 => ?_)
    rw [hc2, nI_clamp (by omega)] at eI31
    have pm3 : PM T n t3 I31 K2 := by rw [eI31]; exact PM_u pm2 (by decide) (by decide)
    have fl3 : FL M J I31 K2 := fl2.tr (by rw [eI31]; exact FL_u (by decide))
    have da3 : DA (upI M 112 sn x_12) I31 := by rw [eI31]; exact DA_u da2
    have kn3 := kn2
    have hc3 : I31 100 36 = nI sn := by rw [eI31, upc (by decide)]; exact hc2
    refine x_aload_n (q := 78) dX12_readSlip_77 rfl rfl ?_
    refine q_gr (K := 21) (b := 113) (q := 81) dX12_readSlip_78 rfl cl_12 (by decide) tw_1103 rfl rfl rfl ?_
    refine x_aload_n (q := 82) dX12_readSlip_81 rfl rfl ?_
    refine q_gi (K := 36) (q := 85) dX12_readSlip_82 rfl cl_12 (by decide) tw_1118 rfl rfl ?_
    refine x_aload_n (q := 86) dX12_readSlip_85 rfl rfl ?_
    refine x_ldc2 (v := 131277443786868) (q := 89) dX12_readSlip_86 rfl tw_1381 ?_
    refine x_iconst (1) (q := 90) dX12_readSlip_89 rfl (by decide) ?_
    refine x_bipush (99) (q := 92) dX12_readSlip_90 rfl (by decide) ?_
    refine q_callV (ci := 12) (N := 79) (T := TX12) (As := [.long 131277443786868, .int 1, .int 99]) (rest := [.int (I31 100 36), .ref 113]) (q := 95) dX12_readSlip_92 rfl okX12_told tw_1402 rfl rfl (c_tld r pm3 (i := 19) (by decide) rfl (lo := 1) (hi := 99) (by decide) (by decide)) rfl rfl (Nat.le_of_ble_eq_true rfl) ⟨by decide, by decide⟩ ⟨rfl, rfl⟩ (fun rv_ V4 r_ K4 hv_ => ?_)
    obtain ⟨x_92, a1_, hx_92, pm4, fm4, a3_⟩ := hv_
    rw [a1_, a3_]
    obtain ⟨t4, et4⟩ : ∃ z, z = tnuT T n 1 99 (tkw T n 19 t3) := ⟨_, rfl⟩
    rw [← et4] at pm4
    have fl4 := fl3.tr fm4.l
    have da4 := DA_f da3 fm4
    have kn4 : ∀ i, K4 102 i = J 102 i := fun i => (fm4.2.2 102 i (by omega)).trans (kn3 i)
    have hc4 : V4 100 36 = nI sn := (fm4.2.1 36 (by decide) (by decide) (by decide) (by decide) (by decide) (by decide)).trans hc3
    rw [← et4] at hx_92
    show Wq MX12_readSlip 95 [some (.ref 100), some (.int v1), some (.int x_12), some (.int (if hsF A x_12 sn then 1 else 0)), some (.int (nI sn))] [.int x_92, .int (I31 100 36), .ref 113] V4 r K4 _
    refine q_iast (q := 96) dX12_readSlip_95 rfl rfl (by rw [hc3]; exact vp_in_nI (by omega) (by decide)) (fun I41 eI41 => ?_)
    rw [hc3, nI_clamp (by omega)] at eI41
    have pm5 : PM T n t4 I41 K4 := by rw [eI41]; exact PM_u pm4 (by decide) (by decide)
    have fl5 : FL M J I41 K4 := fl4.tr (by rw [eI41]; exact FL_u (by decide))
    have da5 : DA (upI (upI M 112 sn x_12) 113 sn x_92) I41 := by rw [eI41]; exact DA_u da4
    have kn5 := kn4
    have hc5 : I41 100 36 = nI sn := by rw [eI41, upc (by decide)]; exact hc4
    refine x_aload_n (q := 97) dX12_readSlip_96 rfl rfl ?_
    refine q_gi (K := 2) (q := 100) dX12_readSlip_97 rfl cl_12 (by decide) tw_1084 rfl rfl ?_
    refine x_if_ne (t := 113) (q := 103) dX12_readSlip_100 (by decide) rfl (fun c100 => ?_) (fun c100 => ?_)
    · refine q_vret dX12_readSlip_113 rfl ?_
      have e3 : slC T n A sn s = t3 := by unfold slC; rw [← et1, ← et2, et3]
      have es : slS T n A sn s = t4 := by unfold slS; rw [e3, et4]
      rw [es]
      exact ⟨rfl, pm5, fl5, fun z => absurd (by rw [pm5.2.2.1, z]; rfl) c100, rfl⟩
    · refine x_aload_n (q := 104) dX12_readSlip_103 rfl rfl ?_
      refine x_dup (q := 105) dX12_readSlip_104 rfl rfl ?_
      refine q_gi (K := 36) (q := 108) dX12_readSlip_105 rfl cl_12 (by decide) tw_1118 rfl rfl ?_
      refine x_iconst (1) (q := 109) dX12_readSlip_108 rfl (by decide) ?_
      refine x_iadd (q := 110) dX12_readSlip_109 rfl ?_
      refine q_pi (K := 36) (q := 113) dX12_readSlip_110 rfl cl_12 (by decide) tw_1118 rfl rfl rfl rfl (fun I51 eI51 => ?_)
      refine q_vret dX12_readSlip_113 rfl ?_
      rw [hc5, nI_p1] at eI51
      have pm6 : PM T n t4 I51 K4 := by rw [eI51]; exact PM_0 pm5 (by decide)
      have fl6 : FL M J I51 K4 := fl5.tr (by rw [eI51]; exact FL_0 (by decide))
      have da6 : DA (upI (upI (upI M 112 sn x_12) 113 sn x_92) 100 36 (nI (sn + 1))) I51 := by rw [eI51]; exact DA_u da5
      have kn6 := kn5
      have e3 : slC T n A sn s = t3 := by unfold slC; rw [← et1, ← et2, et3]
      have es : slS T n A sn s = t4 := by unfold slS; rw [e3, et4]
      rw [es]
      refine ⟨rfl, pm6, fl6, fun z => ?_, rfl⟩
      have f_t4 := tnuT_0 (by rw [et4] at z; exact z)
      have z_t3 : t3.1 = 0 := (tkw_0 f_t4.1.1).1
      have f_t3 := cnd_0 (by rw [et3] at z_t3; exact z_t3) (by decide)
      have z_t2 : t2.1 = 0 := f_t3.2.1
      have f_t2 : (tvaT T n 50 t1).1 = 0 := by rw [et2] at z_t2; exact z_t2
      have z_t1 : t1.1 = 0 := (tvaT_0 f_t2).1
      have z_s : s.1 = 0 := by rw [et1] at z_t1; exact z_t1
      have eA : slA T n s A sn = upI (upI (upI A 8 sn x_12) 9 sn x_92) 0 12 (nI (sn + 1)) := by
        unfold slA
        rw [hx_12 z_t2, hx_92 z, ← et1, e3]
      rw [eA]
      refine MD_sl hD hf ?_ ?_ da6 kn6
      · rw [hx_12 z_t2]; exact tvV_b f_t2 (by decide)
      · rw [hx_92 z]; have g := f_t4.2.1; exact ibn_ (by omega) (by omega) (by omega)
  · refine x_aload_n (q := 62) dX12_readSlip_61 rfl rfl ?_
    refine x_iconst (3) (q := 63) dX12_readSlip_62 rfl (by decide) ?_
    refine x_iload_n (q := 64) dX12_readSlip_63 rfl rfl ?_
    refine q_callV (ci := 12) (N := 79) (T := TX12) (As := [.int 3, .int v1]) (rest := []) (q := 67) dX12_readSlip_64 rfl okX12_wrongAt tw_1394 rfl rfl (by rw [ewp]; exact c_wrA r pm2 (k := 3) (g := sk T n t1.2.2) (by decide) (sk_b pm1.2.2.2.2.1).2) rfl rfl (Nat.le_of_ble_eq_true rfl) ⟨by decide, by decide⟩ ⟨rfl, rfl⟩ (fun rv_ V3 r_ K3 hv_ => ?_)
    obtain ⟨a1_, pm3, fm3, a3_⟩ := hv_
    rw [a1_, a3_]
    obtain ⟨t3, et3⟩ : ∃ z, z = rf (if kd T n t2.2.2 = 1 ∧ sk T n t1.2.2 = sk T n t2.2.2 then 1 else 3) (sk T n t1.2.2) t2 := ⟨_, rfl⟩
    rw [← et3] at pm3
    have fl3 := fl2.tr fm3.l
    have da3 := DA_f da2 fm3
    have kn3 : ∀ i, K3 102 i = J 102 i := fun i => (fm3.2.2 102 i (by omega)).trans (kn2 i)
    have hc3 : V3 100 36 = nI sn := (fm3.2.1 36 (by decide) (by decide) (by decide) (by decide) (by decide) (by decide)).trans hc2
    show Wq MX12_readSlip 67 [some (.ref 100), some (.int v1), some (.int x_12), some (.int (if hsF A x_12 sn then 1 else 0)), some (.int (nI sn))] [] V3 r K3 _
    obtain ⟨t4, et4⟩ : ∃ z, z = if hsF A (tvV_ T n t1) sn then rf 3 (sk T n t1.2.2) t2 else t2 := ⟨_, rfl⟩
    have ec : t3 = t4 := by rw [et4, et3]; exact sl_h hx_12 et2 (bb_1 c58)
    rw [ec] at pm3
    refine x_aload_n (q := 68) dX12_readSlip_67 rfl rfl ?_
    refine q_gr (K := 20) (b := 112) (q := 71) dX12_readSlip_68 rfl cl_12 (by decide) tw_1102 rfl rfl rfl ?_
    refine x_aload_n (q := 72) dX12_readSlip_71 rfl rfl ?_
    refine q_gi (K := 36) (q := 75) dX12_readSlip_72 rfl cl_12 (by decide) tw_1118 rfl rfl ?_
    refine x_iload_n (q := 76) dX12_readSlip_75 rfl rfl ?_
    refine q_iast (q := 77) dX12_readSlip_76 rfl rfl (by rw [hc3]; exact vp_in_nI (by omega) (by decide)) (fun I31 eI31 => ?_)
    rw [hc3, nI_clamp (by omega)] at eI31
    have pm4 : PM T n t4 I31 K3 := by rw [eI31]; exact PM_u pm3 (by decide) (by decide)
    have fl4 : FL M J I31 K3 := fl3.tr (by rw [eI31]; exact FL_u (by decide))
    have da4 : DA (upI M 112 sn x_12) I31 := by rw [eI31]; exact DA_u da3
    have kn4 := kn3
    have hc4 : I31 100 36 = nI sn := by rw [eI31, upc (by decide)]; exact hc3
    refine x_aload_n (q := 78) dX12_readSlip_77 rfl rfl ?_
    refine q_gr (K := 21) (b := 113) (q := 81) dX12_readSlip_78 rfl cl_12 (by decide) tw_1103 rfl rfl rfl ?_
    refine x_aload_n (q := 82) dX12_readSlip_81 rfl rfl ?_
    refine q_gi (K := 36) (q := 85) dX12_readSlip_82 rfl cl_12 (by decide) tw_1118 rfl rfl ?_
    refine x_aload_n (q := 86) dX12_readSlip_85 rfl rfl ?_
    refine x_ldc2 (v := 131277443786868) (q := 89) dX12_readSlip_86 rfl tw_1381 ?_
    refine x_iconst (1) (q := 90) dX12_readSlip_89 rfl (by decide) ?_
    refine x_bipush (99) (q := 92) dX12_readSlip_90 rfl (by decide) ?_
    refine q_callV (ci := 12) (N := 79) (T := TX12) (As := [.long 131277443786868, .int 1, .int 99]) (rest := [.int (I31 100 36), .ref 113]) (q := 95) dX12_readSlip_92 rfl okX12_told tw_1402 rfl rfl (c_tld r pm4 (i := 19) (by decide) rfl (lo := 1) (hi := 99) (by decide) (by decide)) rfl rfl (Nat.le_of_ble_eq_true rfl) ⟨by decide, by decide⟩ ⟨rfl, rfl⟩ (fun rv_ V5 r_ K5 hv_ => ?_)
    obtain ⟨x_92, a1_, hx_92, pm5, fm5, a3_⟩ := hv_
    rw [a1_, a3_]
    obtain ⟨t5, et5⟩ : ∃ z, z = tnuT T n 1 99 (tkw T n 19 t4) := ⟨_, rfl⟩
    rw [← et5] at pm5
    have fl5 := fl4.tr fm5.l
    have da5 := DA_f da4 fm5
    have kn5 : ∀ i, K5 102 i = J 102 i := fun i => (fm5.2.2 102 i (by omega)).trans (kn4 i)
    have hc5 : V5 100 36 = nI sn := (fm5.2.1 36 (by decide) (by decide) (by decide) (by decide) (by decide) (by decide)).trans hc4
    rw [← et5] at hx_92
    show Wq MX12_readSlip 95 [some (.ref 100), some (.int v1), some (.int x_12), some (.int (if hsF A x_12 sn then 1 else 0)), some (.int (nI sn))] [.int x_92, .int (I31 100 36), .ref 113] V5 r K5 _
    refine q_iast (q := 96) dX12_readSlip_95 rfl rfl (by rw [hc4]; exact vp_in_nI (by omega) (by decide)) (fun I41 eI41 => ?_)
    rw [hc4, nI_clamp (by omega)] at eI41
    have pm6 : PM T n t5 I41 K5 := by rw [eI41]; exact PM_u pm5 (by decide) (by decide)
    have fl6 : FL M J I41 K5 := fl5.tr (by rw [eI41]; exact FL_u (by decide))
    have da6 : DA (upI (upI M 112 sn x_12) 113 sn x_92) I41 := by rw [eI41]; exact DA_u da5
    have kn6 := kn5
    have hc6 : I41 100 36 = nI sn := by rw [eI41, upc (by decide)]; exact hc5
    refine x_aload_n (q := 97) dX12_readSlip_96 rfl rfl ?_
    refine q_gi (K := 2) (q := 100) dX12_readSlip_97 rfl cl_12 (by decide) tw_1084 rfl rfl ?_
    refine x_if_ne (t := 113) (q := 103) dX12_readSlip_100 (by decide) rfl (fun c100 => ?_) (fun c100 => ?_)
    · refine q_vret dX12_readSlip_113 rfl ?_
      have e3 : slC T n A sn s = t4 := by unfold slC; rw [← et1, ← et2, et4]
      have es : slS T n A sn s = t5 := by unfold slS; rw [e3, et5]
      rw [es]
      exact ⟨rfl, pm6, fl6, fun z => absurd (by rw [pm6.2.2.1, z]; rfl) c100, rfl⟩
    · refine x_aload_n (q := 104) dX12_readSlip_103 rfl rfl ?_
      refine x_dup (q := 105) dX12_readSlip_104 rfl rfl ?_
      refine q_gi (K := 36) (q := 108) dX12_readSlip_105 rfl cl_12 (by decide) tw_1118 rfl rfl ?_
      refine x_iconst (1) (q := 109) dX12_readSlip_108 rfl (by decide) ?_
      refine x_iadd (q := 110) dX12_readSlip_109 rfl ?_
      refine q_pi (K := 36) (q := 113) dX12_readSlip_110 rfl cl_12 (by decide) tw_1118 rfl rfl rfl rfl (fun I51 eI51 => ?_)
      refine q_vret dX12_readSlip_113 rfl ?_
      rw [hc6, nI_p1] at eI51
      have pm7 : PM T n t5 I51 K5 := by rw [eI51]; exact PM_0 pm6 (by decide)
      have fl7 : FL M J I51 K5 := fl6.tr (by rw [eI51]; exact FL_0 (by decide))
      have da7 : DA (upI (upI (upI M 112 sn x_12) 113 sn x_92) 100 36 (nI (sn + 1))) I51 := by rw [eI51]; exact DA_u da6
      have kn7 := kn6
      have e3 : slC T n A sn s = t4 := by unfold slC; rw [← et1, ← et2, et4]
      have es : slS T n A sn s = t5 := by unfold slS; rw [e3, et5]
      rw [es]
      refine ⟨rfl, pm7, fl7, fun z => ?_, rfl⟩
      have f_t5 := tnuT_0 (by rw [et5] at z; exact z)
      have z_t4 : t4.1 = 0 := (tkw_0 f_t5.1.1).1
      have f_t4 := cnd_0 (by rw [et4] at z_t4; exact z_t4) (by decide)
      have z_t2 : t2.1 = 0 := f_t4.2.1
      have f_t2 : (tvaT T n 50 t1).1 = 0 := by rw [et2] at z_t2; exact z_t2
      have z_t1 : t1.1 = 0 := (tvaT_0 f_t2).1
      have z_s : s.1 = 0 := by rw [et1] at z_t1; exact z_t1
      have eA : slA T n s A sn = upI (upI (upI A 8 sn x_12) 9 sn x_92) 0 12 (nI (sn + 1)) := by
        unfold slA
        rw [hx_12 z_t2, hx_92 z, ← et1, e3]
      rw [eA]
      refine MD_sl hD hf ?_ ?_ da7 kn7
      · rw [hx_12 z_t2]; exact tvV_b f_t2 (by decide)
      · rw [hx_92 z]; have g := f_t5.2.1; exact ibn_ (by omega) (by omega) (by omega)
set_option maxRecDepth 100000 in
theorem c_rnM {T : Nat → Nat} {n : Nat} (r : MR) {M : MI} {J : MJ} {s : Nat × Nat × Nat} (h : PM T n s M J) (h0 : s.1 = 0) (hk1 : ¬ kd T n s.2.2 = 1) : Cq yX12_readNumber MX12_readNumber [.ref 100] M r J (RMv T n (tnuT T n 0 9999 (adv T n s)) (nI (vl T n (adv T n s).2.2)) M J r) := by
  refine cq_of [some (.ref 100)] 0 (by decide +kernel) rfl rfl (Nat.le_of_ble_eq_true rfl) rfl ?_
  refine x_aload_n (q := 1) dX12_readNumber_0 rfl rfl ?_
  refine q_callV (ci := 12) (N := 79) (T := TX12) (As := []) (rest := []) (q := 4) dX12_readNumber_1 rfl okX12_token tw_1340 rfl rfl (c_tokP r h h0 hk1) rfl rfl (Nat.le_of_ble_eq_true rfl) ⟨by decide, by decide⟩ ⟨rfl, rfl⟩ (fun rv_ V r_ K hv_ => ?_)
  obtain ⟨a1_, hV, hF, a3_⟩ := hv_
  rw [a1_, a3_]
  show Wq MX12_readNumber 4 [some (.ref 100)] [] V r K _
  refine x_aload_n (q := 5) dX12_readNumber_4 rfl rfl ?_
  refine x_iconst (0) (q := 6) dX12_readNumber_5 rfl (by decide) ?_
  refine x_sipush (9999) (q := 9) dX12_readNumber_6 rfl (by decide) ?_
  refine q_callV (ci := 12) (N := 79) (T := TX12) (As := [.int 0, .int 9999]) (rest := []) (q := 12) dX12_readNumber_9 rfl okX12_toldNumber tw_1410 rfl rfl (c_tnM r hV (lo := 0) (hi := 9999) (by decide) (by decide)) rfl rfl (Nat.le_of_ble_eq_true rfl) ⟨by decide, by decide⟩ ⟨rfl, rfl⟩ (fun rv_ V2 r_ K2 hv_ => ?_)
  obtain ⟨x1, a1_, hx1, hV2, hF2, a3_⟩ := hv_
  rw [a1_, a3_]
  show Wq MX12_readNumber 12 [some (.ref 100)] [.int x1] V2 r K2 _
  refine q_iret dX12_readNumber_12 rfl ?_
  exact ⟨_, rfl, hx1, hV2, hF.tr hF2, rfl⟩
set_option maxRecDepth 100000 in
theorem c_roM {T : Nat → Nat} {n : Nat} (r : MR) {M : MI} {J : MJ} {s : Nat × Nat × Nat} (h : PM T n s M J) (h0 : s.1 = 0) (hk1 : ¬ kd T n s.2.2 = 1) {A : MI} {yn : Nat} (hy : M 100 33 = nI yn) (y8 : yn ≤ 8) (hN : MN T n A yn J) : Cq yX12_readOld MX12_readOld [.ref 100] M r J (RMv T n (tyaT T n A yn (adv T n s)) (nI (nf T n A (w5 T n (adv T n s).2.2) yn 0)) M J r) := by
  refine cq_of [some (.ref 100)] 0 (by decide +kernel) rfl rfl (Nat.le_of_ble_eq_true rfl) rfl ?_
  refine x_aload_n (q := 1) dX12_readOld_0 rfl rfl ?_
  refine q_callV (ci := 12) (N := 79) (T := TX12) (As := []) (rest := []) (q := 4) dX12_readOld_1 rfl okX12_token tw_1340 rfl rfl (c_tokP r h h0 hk1) rfl rfl (Nat.le_of_ble_eq_true rfl) ⟨by decide, by decide⟩ ⟨rfl, rfl⟩ (fun rv_ V r_ K hv_ => ?_)
  obtain ⟨a1_, hV, hF, a3_⟩ := hv_
  rw [a1_, a3_]
  show Wq MX12_readOld 4 [some (.ref 100)] [] V r K _
  refine x_aload_n (q := 5) dX12_readOld_4 rfl rfl ?_
  refine q_callV (ci := 12) (N := 79) (T := TX12) (As := []) (rest := []) (q := 8) dX12_readOld_5 rfl okX12_old tw_1422 rfl rfl (c_old r hV (A := A) (yn := yn) ((hF.2.1 33 (by decide) (by decide) (by decide) (by decide) (by decide) (by decide)).trans hy) y8 (MN_c hN rfl (fun i => hF.2.2 102 i (by omega)))) rfl rfl (Nat.le_of_ble_eq_true rfl) ⟨by decide, by decide⟩ ⟨rfl, rfl⟩ (fun rv_ V2 r_ K2 hv_ => ?_)
  obtain ⟨x1, a1_, hx1, hV2, hF2, a3_⟩ := hv_
  rw [a1_, a3_]
  show Wq MX12_readOld 8 [some (.ref 100)] [.int x1] V2 r K2 _
  refine q_iret dX12_readOld_8 rfl ?_
  exact ⟨_, rfl, hx1, hV2, hF.tr hF2, rfl⟩
