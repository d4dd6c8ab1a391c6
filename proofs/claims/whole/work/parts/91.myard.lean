theorem tva_f {T : Nat → Nat} {n m : Nat} {s : Nat × Nat × Nat} (h : ¬ s.1 = 0) (h3 : s.2.2 ≤ n) : (tvaT T n m s).1 = s.1 ∧ (tvaT T n m s).2.1 = s.2.1 ∧ (tvaT T n m s).2.2 ≤ n := by
  have ev : tvaT T n m s = vS T n s := by
    unfold tvaT
    rw [if_neg (fun z => h (by rw [← vS_1 (T := T) (n := n) (s := s)]; exact z.1))]
    exact rfT_s (by rw [vS_1]; exact h)
  rw [ev]
  unfold vS
  by_cases z : kd T n s.2.2 = 5
  · rw [if_pos z]; exact ⟨rfl, rfl, (en_b h3).2⟩
  · rw [if_neg z]; exact ⟨rfl, rfl, h3⟩
theorem lyT_f {T : Nat → Nat} {n : Nat} {s : Nat × Nat × Nat} (h : ¬ s.1 = 0) (h3 : s.2.2 ≤ n) : ∀ k, (lyT T n s k).1 = s.1 ∧ (lyT T n s k).2.1 = s.2.1 ∧ (lyT T n s k).2.2 ≤ n := by
  intro k
  induction k with
  | zero => exact ⟨rfl, rfl, h3⟩
  | succ k ih =>
    have q := tva_f (T := T) (n := n) (m := 200) (show ¬ (lyT T n s k).1 = 0 by rw [ih.1]; exact h) ih.2.2
    exact ⟨q.1.trans ih.1, q.2.1.trans ih.2.1, q.2.2⟩
theorem laK_n {T : Nat → Nat} {n : Nat} {s : Nat × Nat × Nat} {k : Nat} (h : ¬ ((lyT T n s k).1 = 0 ∧ (kd T n (lyT T n s k).2.2 = 3 ∨ kd T n (lyT T n s k).2.2 = 5))) : ∀ f, laK T n s f k = k := by
  intro f
  cases f with
  | zero => rfl
  | succ f => unfold laK; exact if_neg h
theorem lyA_v {T : Nat → Nat} {n : Nat} {s : Nat × Nat × Nat} {A : MI} {c j : Nat} : ∀ k, j < k → lyA T n s A c k (c + 1) j = tvV_ T n (lyT T n s j) := by
  intro k
  induction k with
  | zero => intro z; omega
  | succ k ih =>
    intro z
    show upI (upI (lyA T n s A c k) (c + 1) k _) c 4 _ (c + 1) j = _
    rw [upc (by omega)]
    by_cases e : j = k
    · rw [e, upq]
    · rw [ups e]; exact ih (by omega)
theorem lyA_c {T : Nat → Nat} {n : Nat} {s : Nat × Nat × Nat} {A : MI} {c i : Nat} (h : ¬ i = 4) : ∀ k, lyA T n s A c k c i = A c i := by
  intro k
  induction k with
  | zero => rfl
  | succ k ih =>
    show upI (upI (lyA T n s A c k) (c + 1) k _) c 4 _ c i = _
    rw [ups h, upc (by omega)]; exact ih
theorem y9_f {T : Nat → Nat} {n : Nat} {A : MI} {yn : Nat} {t : Nat × Nat × Nat} (h : ¬ (tsoT T n (yC T n A yn t)).1 = 0) : y9 T n A yn t = tsoT T n (yC T n A yn t) := by
  unfold y9 y6 y4
  rw [tkw_f h, tnu_f h, tkw_f h, tnu_f h, tkw_f h]
/-- where the reading of a yard stands behind a fault -/
theorem ya_f {T : Nat → Nat} {n : Nat} {A : MI} {yn : Nat} {s u : Nat × Nat × Nat} (hu : ¬ u.1 = 0) (e1 : (y9 T n A yn (adv T n s)).1 = u.1) (e2 : (y9 T n A yn (adv T n s)).2.1 = u.2.1) (e3 : (y9 T n A yn (adv T n s)).2.2 ≤ n) : (yaS T n A yn s).1 = u.1 ∧ (yaS T n A yn s).2.1 = u.2.1 ∧ (yaS T n A yn s).2.2 ≤ n := by
  have q := lyT_f (T := T) (s := y9 T n A yn (adv T n s)) (show ¬ _ by rw [e1]; exact hu) e3 (laK T n (y9 T n A yn (adv T n s)) 4 1)
  unfold yaS
  exact ⟨q.1.trans e1, q.2.1.trans e2, q.2.2⟩
theorem MD_ya {T : Nat → Nat} {n : Nat} {A A' : MI} {yn wn hn sn : Nat} {M Z : MI} {J K : MJ} (h : MD T n A yn wn hn sn M J) (hy : yn < 8) {so k p : Nat} {x2 x3 : Int32} {W : Nat → Int32} (hA : ∀ c, ¬ c = 0 → ¬ c = 10 + 2 * yn → ¬ c = 11 + 2 * yn → ¬ c = 26 → A' c = A c) (h0 : ∀ j, ¬ j = 1 → A' 0 j = A 0 j) (h01 : A' 0 1 = nI (yn + 1)) (a1 : A' (10 + 2 * yn) 1 = nI so) (a2 : A' (10 + 2 * yn) 2 = x2) (a3 : A' (10 + 2 * yn) 3 = x3) (a4 : A' (10 + 2 * yn) 4 = nI k) (aw : ∀ j, j < k → A' (11 + 2 * yn) j = W j) (b1 : A' 26 yn = nI p) (b2 : ∀ y, ¬ y = yn → A' 26 y = A 26 y) (zm : ∀ c, 108 ≤ c → c ≤ 113 → Z c = M c) (z3 : Z 103 = upI M 103 yn (nI so) 103) (z4 : Z 104 = upI M 104 yn x2 104) (z5 : Z 105 = upI M 105 yn x3 105) (z6 : Z 106 = upI M 106 yn (nI k) 106) (z7 : ∀ j, j < 5 * yn → Z 107 j = M 107 j) (z8 : ∀ j, j < k → Z 107 (5 * yn + j) = W j) (z33 : Z 100 33 = nI (yn + 1)) (z34 : ∀ j, 34 ≤ j → j ≤ 40 → Z 100 j = M 100 j) (kk : ∀ i, ¬ i = yn → K 102 i = J 102 i) (ky : K 102 yn = lN (w8 T n p)) (s4 : so < 4) (k1 : 1 ≤ k) (k5 : k ≤ 5) (i2 : Ib x2 0 99) (i3 : Ib x3 0 99) (iw : ∀ j, j < k → Ib (W j) (-200) 200) (kp : kd T n p = 2) (p31 : p < 2 ^ 31) (fr : ∀ y, y < yn → ¬ NM T n A y = w5 T n p) : MD T n A' (yn + 1) wn hn sn Z K := by
  obtain ⟨⟨d1, d5, d9, d12⟩, ⟨y8, w16, h12, s7⟩, ⟨m33, m34, m35, m36⟩, hMN, hMy, hMh, hMs, hMw, hMo⟩ := h
  have nmo : ∀ y, ¬ y = yn → NM T n A' y = NM T n A y := fun y e => by unfold NM; rw [b2 y e]
  have nmn : NM T n A' yn = w5 T n p := by unfold NM; rw [b1, nI_clamp p31]
  refine ⟨⟨h01, by rw [h0 5 (by decide)]; exact d5, by rw [h0 9 (by decide)]; exact d9, by rw [h0 12 (by decide)]; exact d12⟩, ⟨by omega, w16, h12, s7⟩, ⟨z33, by rw [z34 34 (by decide) (by decide)]; exact m34, by rw [z34 35 (by decide) (by decide)]; exact m35, by rw [z34 36 (by decide) (by decide)]; exact m36⟩, ⟨fun y hyy => ?_, fun y z hyy hz e => ?_⟩, fun y hyy => ?_, Mh_c hMh (fun c q1 q2 => hA c (by omega) (by omega) (by omega) (by omega)) (fun c q1 q2 => zm c (by omega) (by omega)), Ms_c hMs (hA 8 (by decide) (by omega) (by omega) (by decide)) (hA 9 (by decide) (by omega) (by omega) (by decide)) (zm 112 (by decide) (by decide)) (zm 113 (by decide) (by decide)), Mw_c hMw (by omega) (fun c q1 q2 => hA c (by omega) (by omega) (by omega) (by omega)) (zm 108 (by decide) (by decide)), Mo_c hMo (by omega) (fun j q1 q2 => h0 j (by omega)) (fun j q1 q2 => z34 j (by omega) (by omega))⟩
  · by_cases e : y = yn
    · rw [e, b1, nI_clamp p31]; exact ⟨kp, ky⟩
    · rw [b2 y e, kk y e]; exact hMN.1 y (by omega)
  · by_cases e1 : y = yn
    · by_cases e2 : z = yn
      · rw [e1, e2]
      · rw [e1, nmn, nmo z e2] at e; exact absurd e.symm (fr z (by omega))
    · by_cases e2 : z = yn
      · rw [e2, nmn, nmo y e1] at e; exact absurd e (fr y (by omega))
      · rw [nmo y e1, nmo z e2] at e; exact hMN.2 y z (by omega) (by omega) e
  · by_cases e : y = yn
    · rw [e]
      refine ⟨⟨so, k, a1, s4, a4, k1, k5, by rw [a2]; exact i2, by rw [a3]; exact i3, fun j hj => by rw [aw j hj]; exact iw j hj⟩, by rw [z3, upq, a1], by rw [z4, upq, a2], by rw [z5, upq, a3], by rw [z6, upq, a4], fun j hj => ?_⟩
      rw [a4, nI_clamp (by omega)] at hj
      rw [z8 j hj, aw j hj]
    · have q := hMy y (by omega)
      have c1 := hA (10 + 2 * y) (by omega) (by omega) (by omega) (by omega)
      have c2 := hA (11 + 2 * y) (by omega) (by omega) (by omega) (by omega)
      unfold ydB yM at q ⊢
      rw [c1, c2, z3, z4, z5, z6, ups e, ups e, ups e, ups e]
      refine ⟨q.1, q.2.1, q.2.2.1, q.2.2.2.1, q.2.2.2.2.1, fun j hj => ?_⟩
      obtain ⟨so', la, g1, g2, g3, g4, g5, g6⟩ := q.1
      have hj2 := hj
      rw [g3, nI_clamp (by omega)] at hj2
      rw [z7 (5 * y + j) (by omega)]
      exact q.2.2.2.2.2 j hj
def YI (T : Nat → Nat) (n : Nat) (t9 : Nat × Nat × Nat) (yn so : Nat) (x2 x3 : Int32) (M : MI) (J : MJ) (k : Nat) (V : MI) (K : MJ) : Prop := FL M J V K ∧ (∀ i, K 102 i = J 102 i) ∧ V 103 = upI M 103 yn (nI so) 103 ∧ V 104 = upI M 104 yn x2 104 ∧ V 105 = upI M 105 yn x3 105 ∧ (∀ c, 106 ≤ c → c ≤ 113 → ¬ c = 107 → V c = M c) ∧ (∀ j, j < 5 * yn → V 107 j = M 107 j) ∧ (∀ j, j < k → V 107 (5 * yn + j) = tvV_ T n (lyT T n t9 j)) ∧ ∀ j, 33 ≤ j → j ≤ 40 → V 100 j = M 100 j
theorem YI_f {T : Nat → Nat} {n : Nat} {t9 : Nat × Nat × Nat} {yn so : Nat} {x2 x3 : Int32} {M : MI} {J : MJ} {k : Nat} {V Y : MI} {K L : MJ} (h : YI T n t9 yn so x2 x3 M J k V K) (hf : FM V K Y L) : YI T n t9 yn so x2 x3 M J k Y L := by
  obtain ⟨h1, h2, h3, h4, h5, h6, h7, h8, h9⟩ := h
  exact ⟨h1.tr hf.l, fun i => (hf.2.2 102 i (by omega)).trans (h2 i), (hf.1 103 (by decide)).trans h3, (hf.1 104 (by decide)).trans h4, (hf.1 105 (by decide)).trans h5, fun c a b d => (hf.1 c (by omega)).trans (h6 c a b d), fun j a => by rw [hf.1 107 (by decide)]; exact h7 j a, fun j a => by rw [hf.1 107 (by decide)]; exact h8 j a, fun j a b => (hf.2.1 j (by omega) (by omega) (by omega) (by omega) (by omega) (by omega)).trans (h9 j a b)⟩
theorem YI_u {T : Nat → Nat} {n : Nat} {t9 : Nat × Nat × Nat} {yn so : Nat} {x2 x3 : Int32} {M : MI} {J : MJ} {k : Nat} {V : MI} {K : MJ} {x : Int32} (h : YI T n t9 yn so x2 x3 M J k V K) (hx : x = tvV_ T n (lyT T n t9 k)) : YI T n t9 yn so x2 x3 M J (k + 1) (upI V 107 (5 * yn + k) x) K := by
  obtain ⟨h1, h2, h3, h4, h5, h6, h7, h8, h9⟩ := h
  refine ⟨h1.tr (FL_u (by decide)), h2, by rw [upc (by decide)]; exact h3, by rw [upc (by decide)]; exact h4, by rw [upc (by decide)]; exact h5, fun c a b d => by rw [upc d]; exact h6 c a b d, fun j a => by rw [ups (by omega)]; exact h7 j a, fun j a => ?_, fun j a b => by rw [upc (by decide)]; exact h9 j a b⟩
  by_cases e : j = k
  · rw [e, upq]; exact hx
  · rw [ups (by omega)]; exact h8 j (by omega)
def RMY (T : Nat → Nat) (n : Nat) (A : MI) (yn wn hn sn : Nat) (s : Nat × Nat × Nat) (M : MI) (J : MJ) (r : MR) : Option Value → MI → MR → MJ → Prop := fun v Y r' K => v = none ∧ FL M J Y K ∧ r' = r ∧ ((PM T n (yaS T n A yn s) Y K ∧ ((yaS T n A yn s).1 = 0 → MD T n (yaA T n s A yn) (yn + 1) wn hn sn Y K)) ∨ (PM T n (rfT T n (yaS T n A yn s)) Y K ∧ (yaS T n A yn s).1 = 0 ∧ (kd T n (yaS T n A yn s).2.2 = 3 ∨ kd T n (yaS T n A yn s).2.2 = 5)))
theorem i5 (f g : Nat) : (5 : Int32) * nI f + nI g = nI (5 * f + g) := by
  rw [show (5 : Int32) = nI 5 from rfl, pk_mul, nI_add]
set_option maxRecDepth 100000 in
theorem c_wrAf {T : Nat → Nat} {n : Nat} (r : MR) {M : MI} {J : MJ} {s : Nat × Nat × Nat} (h : PM T n s M J) (h0 : ¬ s.1 = 0) (k g : Int32) : Cq yX12_wrongAt MX12_wrongAt [.ref 100, .int k, .int g] M r J (RM none T n s M J r) := by
  have q1 := h.2.2.1
  have q2 := h.2.2.2.1
  have q3 := h.2.2.2.2.1
  have q4 := h.2.2.2.2.2.1
  have hn := h.1.1
  refine cq_of [some (.ref 100), some (.int k), some (.int g)] 0 (by decide +kernel) rfl rfl (Nat.le_of_ble_eq_true rfl) rfl ?_
  refine x_aload_n (q := 1) dX12_wrongAt_0 rfl rfl ?_
  refine q_gi (K := 2) (q := 4) dX12_wrongAt_1 rfl cl_12 (by decide) tw_1084 rfl rfl ?_
  refine x_if_le (t := 8) (q := 7) dX12_wrongAt_4 (by decide) rfl (fun c4 => absurd c4 (fun z => h0 ((f_le q1 q4).mp z))) (fun c4 => ?_)
  refine q_vret dX12_wrongAt_7 rfl ?_
  exact ⟨rfl, h, FM.rf, rfl⟩
set_option maxRecDepth 100000 in
theorem c_wrF {T : Nat → Nat} {n : Nat} (r : MR) {M : MI} {J : MJ} {s : Nat × Nat × Nat} (h : PM T n s M J) (h0 : ¬ s.1 = 0) (k : Int32) : Cq yX12_wrong MX12_wrong [.ref 100, .int k] M r J (RM none T n s M J r) := by
  refine cq_of [some (.ref 100), some (.int k)] 0 (by decide +kernel) rfl rfl (Nat.le_of_ble_eq_true rfl) rfl ?_
  refine x_aload_n (q := 1) dX12_wrong_0 rfl rfl ?_
  refine x_iload_n (q := 2) dX12_wrong_1 rfl rfl ?_
  refine x_aload_n (q := 3) dX12_wrong_2 rfl rfl ?_
  refine q_gi (K := 7) (q := 6) dX12_wrong_3 rfl cl_12 (by decide) tw_1089 rfl rfl ?_
  refine q_callV (ci := 12) (N := 79) (T := TX12) (As := [.int k, .int (M 100 7)]) (rest := []) (q := 9) dX12_wrong_6 rfl okX12_wrongAt tw_1394 rfl rfl (c_wrAf r h h0 _ _) rfl rfl (Nat.le_of_ble_eq_true rfl) ⟨by decide, by decide⟩ ⟨rfl, rfl⟩ (fun rv_ V r_ K hv_ => ?_)
  obtain ⟨a1_, hV, hF, a3_⟩ := hv_
  rw [a1_, a3_]
  show Wq MX12_wrong 9 [some (.ref 100), some (.int k)] [] V r K _
  refine q_vret dX12_wrong_9 rfl ?_
  exact ⟨rfl, hV, hF, rfl⟩
set_option maxRecDepth 100000 in
theorem c_isWx (r : MR) (M : MI) (J : MJ) (w : Int64) : Cq yX12_isWord MX12_isWord [.ref 100, .long w] M r J (fun v Y r' K => ∃ x : Int32, v = some (.int x) ∧ Y = M ∧ r' = r ∧ K = J) := by
  refine cq_of [some (.ref 100), some (.long w), none] 0 (by decide +kernel) rfl rfl (Nat.le_of_ble_eq_true rfl) rfl ?_
  refine x_aload_n (q := 1) dX12_isWord_0 rfl rfl ?_
  refine q_gi (K := 6) (q := 4) dX12_isWord_1 rfl cl_12 (by decide) tw_1088 rfl rfl ?_
  refine x_iconst (1) (q := 5) dX12_isWord_4 rfl (by decide) ?_
  refine x_icmp_ne (t := 21) (q := 8) dX12_isWord_5 (by decide) rfl (fun c5 => ?_) (fun c5 => ?_)
  · refine x_iconst (0) (q := 22) dX12_isWord_21 rfl (by decide) ?_
    refine q_zret dX12_isWord_22 rfl (Or.inl rfl) ?_
    exact ⟨_, rfl, rfl, rfl, rfl⟩
  · refine x_aload_n (q := 9) dX12_isWord_8 rfl rfl ?_
    refine q_gl (K := 9) (q := 12) dX12_isWord_9 rfl cl_12 (by decide) tw_1091 rfl rfl ?_
    refine x_lload_n (q := 13) dX12_isWord_12 rfl rfl ?_
    refine x_lcmp (q := 14) dX12_isWord_13 rfl ?_
    refine x_if_ne (t := 21) (q := 17) dX12_isWord_14 (by decide) rfl (fun c14 => ?_) (fun c14 => ?_)
    · refine x_iconst (0) (q := 22) dX12_isWord_21 rfl (by decide) ?_
      refine q_zret dX12_isWord_22 rfl (Or.inl rfl) ?_
      exact ⟨_, rfl, rfl, rfl, rfl⟩
    · refine x_iconst (1) (q := 18) dX12_isWord_17 rfl (by decide) ?_
      refine x_goto (t := 22) dX12_isWord_18 (by decide) ?_
      refine q_zret dX12_isWord_22 rfl (Or.inr rfl) ?_
      exact ⟨_, rfl, rfl, rfl, rfl⟩
set_option maxRecDepth 100000 in
theorem l_y104f {T : Nat → Nat} {n : Nat} (r : MR) {M : MI} {J : MJ} {A : MI} {yn wn hn sn : Nat} (hD : MD T n A yn wn hn sn M J) (hy7 : yn < 8) {s : Nat × Nat × Nat} {V : MI} {K : MJ} {u : Nat × Nat × Nat} (hu : ¬ u.1 = 0) (pm0 : PM T n u V K) (fl0 : FL M J V K) (hP : (yaS T n A yn s).1 = u.1 ∧ (yaS T n A yn s).2.1 = u.2.1 ∧ (yaS T n A yn s).2.2 ≤ n) (k : Int32) (w : Int64) (x3 x4 x5 x6 : Option Value) : Wq MX12_readYard 104 [some (.ref 100), some (.long w), none, x3, x4, x5, x6] [.int k] V r K (RMY T n A yn wn hn sn s M J r) := by
  refine x_istore_n (L2 := [some (.ref 100), some (.long w), none, some (.int k), x4, x5, x6]) (q := 105) dX12_readYard_104 rfl (by decide) rfl rfl ?_
  refine x_iload_n (q := 106) dX12_readYard_105 rfl rfl ?_
  refine x_if_ge (t := 114) (q := 109) dX12_readYard_106 (by decide) rfl (fun c106 => ?_) (fun c106 => ?_)
  · refine x_aload_n (q := 115) dX12_readYard_114 rfl rfl ?_
    refine q_gi (K := 2) (q := 118) dX12_readYard_115 rfl cl_12 (by decide) tw_1084 rfl rfl ?_
    refine x_if_le (t := 122) (q := 121) dX12_readYard_118 (by decide) rfl (fun c118 => absurd c118 (fun z => hu ((f_le pm0.2.2.1 pm0.2.2.2.2.2.1).mp z))) (fun c118 => ?_)
    refine q_vret dX12_readYard_121 rfl ?_
    exact ⟨rfl, fl0, rfl, Or.inl ⟨PM_p pm0 hu hP.1 hP.2.1 hP.2.2, fun z => absurd (hP.1.symm.trans z) hu⟩⟩
  · refine x_aload_n (q := 110) dX12_readYard_109 rfl rfl ?_
    refine x_iconst (2) (q := 111) dX12_readYard_110 rfl (by decide) ?_
    refine q_callV (ci := 12) (N := 79) (T := TX12) (As := [.int 2]) (rest := []) (q := 114) dX12_readYard_111 rfl okX12_wrong tw_1390 rfl rfl (c_wrF r pm0 hu _) rfl rfl (Nat.le_of_ble_eq_true rfl) ⟨by decide, by decide⟩ ⟨rfl, rfl⟩ (fun rv_ V1 r_ K1 hv_ => ?_)
    obtain ⟨a1_, pm1, fm1, a3_⟩ := hv_
    rw [a1_, a3_]
    show Wq MX12_readYard 114 [some (.ref 100), some (.long w), none, some (.int k), x4, x5, x6] [] V1 r K1 _
    refine x_aload_n (q := 115) dX12_readYard_114 rfl rfl ?_
    refine q_gi (K := 2) (q := 118) dX12_readYard_115 rfl cl_12 (by decide) tw_1084 rfl rfl ?_
    refine x_if_le (t := 122) (q := 121) dX12_readYard_118 (by decide) rfl (fun c118 => absurd c118 (fun z => hu ((f_le pm1.2.2.1 pm1.2.2.2.2.2.1).mp z))) (fun c118 => ?_)
    refine q_vret dX12_readYard_121 rfl ?_
    exact ⟨rfl, (fl0.tr fm1.l), rfl, Or.inl ⟨PM_p pm1 hu hP.1 hP.2.1 hP.2.2, fun z => absurd (hP.1.symm.trans z) hu⟩⟩
set_option maxRecDepth 100000 in
theorem l_y47f {T : Nat → Nat} {n : Nat} (r : MR) {M : MI} {J : MJ} {A : MI} {yn wn hn sn : Nat} (hD : MD T n A yn wn hn sn M J) (hy7 : yn < 8) {s : Nat × Nat × Nat} {V : MI} {K : MJ} {u : Nat × Nat × Nat} (hu : ¬ u.1 = 0) (pm0 : PM T n u V K) (fl0 : FL M J V K) (hP : (yaS T n A yn s).1 = u.1 ∧ (yaS T n A yn s).2.1 = u.2.1 ∧ (yaS T n A yn s).2.2 ≤ n) (w : Int64) (x3 x4 x5 x6 : Option Value) : Wq MX12_readYard 47 [some (.ref 100), some (.long w), none, x3, x4, x5, x6] [] V r K (RMY T n A yn wn hn sn s M J r) := by
  refine x_aload_n (q := 48) dX12_readYard_47 rfl rfl ?_
  refine x_ldc2 (v := 444300620659) (q := 51) dX12_readYard_48 rfl tw_1386 ?_
  refine q_callV (ci := 12) (N := 79) (T := TX12) (As := [.long 444300620659]) (rest := []) (q := 54) dX12_readYard_51 rfl okX12_isWord tw_1359 rfl rfl (c_isWx r _ _ _) rfl rfl (Nat.le_of_ble_eq_true rfl) ⟨by decide, by decide⟩ ⟨rfl, rfl⟩ (fun rv_ I_ r_ J_ hv_ => ?_)
  obtain ⟨b51, a1_, a2_, a3_, a4_⟩ := hv_
  rw [a1_, a2_, a3_, a4_]
  show Wq MX12_readYard 54 [some (.ref 100), some (.long w), none, x3, x4, x5, x6] [.int b51] V r K _
  refine x_if_eq (t := 61) (q := 57) dX12_readYard_54 (by decide) rfl (fun c54 => ?_) (fun c54 => ?_)
  · refine x_aload_n (q := 62) dX12_readYard_61 rfl rfl ?_
    refine x_ldc2 (v := 1919902052) (q := 65) dX12_readYard_62 rfl tw_1387 ?_
    refine q_callV (ci := 12) (N := 79) (T := TX12) (As := [.long 1919902052]) (rest := []) (q := 68) dX12_readYard_65 rfl okX12_isWord tw_1359 rfl rfl (c_isWx r _ _ _) rfl rfl (Nat.le_of_ble_eq_true rfl) ⟨by decide, by decide⟩ ⟨rfl, rfl⟩ (fun rv_ I_ r_ J_ hv_ => ?_)
    obtain ⟨b65, a1_, a2_, a3_, a4_⟩ := hv_
    rw [a1_, a2_, a3_, a4_]
    show Wq MX12_readYard 68 [some (.ref 100), some (.long w), none, x3, x4, x5, x6] [.int b65] V r K _
    refine x_if_eq (t := 75) (q := 71) dX12_readYard_68 (by decide) rfl (fun c68 => ?_) (fun c68 => ?_)
    · refine x_aload_n (q := 76) dX12_readYard_75 rfl rfl ?_
      refine x_ldc2 (v := 108243533981541) (q := 79) dX12_readYard_76 rfl tw_1388 ?_
      refine q_callV (ci := 12) (N := 79) (T := TX12) (As := [.long 108243533981541]) (rest := []) (q := 82) dX12_readYard_79 rfl okX12_isWord tw_1359 rfl rfl (c_isWx r _ _ _) rfl rfl (Nat.le_of_ble_eq_true rfl) ⟨by decide, by decide⟩ ⟨rfl, rfl⟩ (fun rv_ I_ r_ J_ hv_ => ?_)
      obtain ⟨b79, a1_, a2_, a3_, a4_⟩ := hv_
      rw [a1_, a2_, a3_, a4_]
      show Wq MX12_readYard 82 [some (.ref 100), some (.long w), none, x3, x4, x5, x6] [.int b79] V r K _
      refine x_if_eq (t := 89) (q := 85) dX12_readYard_82 (by decide) rfl (fun c82 => ?_) (fun c82 => ?_)
      · refine x_aload_n (q := 90) dX12_readYard_89 rfl rfl ?_
        refine x_ldc2 (v := 1919905638) (q := 93) dX12_readYard_90 rfl tw_1389 ?_
        refine q_callV (ci := 12) (N := 79) (T := TX12) (As := [.long 1919905638]) (rest := []) (q := 96) dX12_readYard_93 rfl okX12_isWord tw_1359 rfl rfl (c_isWx r _ _ _) rfl rfl (Nat.le_of_ble_eq_true rfl) ⟨by decide, by decide⟩ ⟨rfl, rfl⟩ (fun rv_ I_ r_ J_ hv_ => ?_)
        obtain ⟨b93, a1_, a2_, a3_, a4_⟩ := hv_
        rw [a1_, a2_, a3_, a4_]
        show Wq MX12_readYard 96 [some (.ref 100), some (.long w), none, x3, x4, x5, x6] [.int b93] V r K _
        refine x_if_eq (t := 103) (q := 99) dX12_readYard_96 (by decide) rfl (fun c96 => ?_) (fun c96 => ?_)
        · refine x_iconst (-1) (q := 104) dX12_readYard_103 rfl (by decide) ?_
          exact l_y104f r hD hy7 hu pm0 fl0 hP _ w x3 x4 x5 x6
        · refine x_iconst (3) (q := 100) dX12_readYard_99 rfl (by decide) ?_
          refine x_goto (t := 104) dX12_readYard_100 (by decide) ?_
          exact l_y104f r hD hy7 hu pm0 fl0 hP _ w x3 x4 x5 x6
      · refine x_iconst (2) (q := 86) dX12_readYard_85 rfl (by decide) ?_
        refine x_goto (t := 104) dX12_readYard_86 (by decide) ?_
        exact l_y104f r hD hy7 hu pm0 fl0 hP _ w x3 x4 x5 x6
    · refine x_iconst (1) (q := 72) dX12_readYard_71 rfl (by decide) ?_
      refine x_goto (t := 104) dX12_readYard_72 (by decide) ?_
      exact l_y104f r hD hy7 hu pm0 fl0 hP _ w x3 x4 x5 x6
  · refine x_iconst (0) (q := 58) dX12_readYard_57 rfl (by decide) ?_
    refine x_goto (t := 104) dX12_readYard_58 (by decide) ?_
    exact l_y104f r hD hy7 hu pm0 fl0 hP _ w x3 x4 x5 x6
set_option maxRecDepth 100000 in
theorem l_yB {T : Nat → Nat} {n : Nat} (r : MR) {M : MI} {J : MJ} {A : MI} {yn wn hn sn : Nat} (hD : MD T n A yn wn hn sn M J) (hy7 : yn < 8) {s : Nat × Nat × Nat} {V : MI} {K : MJ} {t9 : Nat × Nat × Nat} (e9 : t9 = y9 T n A yn (adv T n s)) {so : Nat} {x2 x3 : Int32} {k : Nat} (hk5 : k < 5) (pm0 : PM T n (lyT T n t9 k) V K) (yi : YI T n t9 yn so x2 x3 M J k V K) {w : Int64} (b3 : Int32) (x6 : Option Value) (kf : ¬ (lyT T n t9 (k + 1)).1 = 0 → laK T n t9 4 1 = k + 1) (kx0 : ∀ (Y : MI) (L : MJ) (x7 : Option Value), PM T n (lyT T n t9 (k + 1)) Y L → YI T n t9 yn so x2 x3 M J (k + 1) Y L → (lyT T n t9 (k + 1)).1 = 0 → ¬ (kd T n (lyT T n t9 (k + 1)).2.2 = 3 ∨ kd T n (lyT T n t9 (k + 1)).2.2 = 5) → Wq MX12_readYard 187 [some (.ref 100), some (.long w), none, some (.int b3), some (.int (nI (k + 1))), some (.int 0), x7] [] Y r L (RMY T n A yn wn hn sn s M J r)) (kx1 : ∀ (Y : MI) (L : MJ) (x7 : Option Value), PM T n (lyT T n t9 (k + 1)) Y L → YI T n t9 yn so x2 x3 M J (k + 1) Y L → (lyT T n t9 (k + 1)).1 = 0 → (kd T n (lyT T n t9 (k + 1)).2.2 = 3 ∨ kd T n (lyT T n t9 (k + 1)).2.2 = 5) → Wq MX12_readYard 187 [some (.ref 100), some (.long w), none, some (.int b3), some (.int (nI (k + 1))), some (.int 1), x7] [] Y r L (RMY T n A yn wn hn sn s M J r)) : Wq MX12_readYard 199 [some (.ref 100), some (.long w), none, some (.int b3), some (.int (nI k)), some (.int 1), x6] [] V r K (RMY T n A yn wn hn sn s M J r) := by
  have m33 := hD.2.2.1.1
  have y9_ := yi.2.2.2.2.2.2.2.2
  refine x_iload (q := 201) dX12_readYard_199 rfl rfl ?_
  refine x_iconst (5) (q := 202) dX12_readYard_201 rfl (by decide) ?_
  refine x_icmp_ne (t := 210) (q := 205) dX12_readYard_202 (by decide) rfl (fun c202 => ?_) (fun c202 => absurd c202 (fun z => absurd ((nI_eq (a := k) (b := 5) (by omega) (by decide)).mp z) (by omega)))
  refine x_aload_n (q := 211) dX12_readYard_210 rfl rfl ?_
  refine x_sipush (200) (q := 214) dX12_readYard_211 rfl (by decide) ?_
  refine q_callV (ci := 12) (N := 79) (T := TX12) (As := [.int 200]) (rest := []) (q := 217) dX12_readYard_214 rfl okX12_signed tw_1414 rfl rfl (c_sgn r pm0 (m := 200) (by decide)) rfl rfl (Nat.le_of_ble_eq_true rfl) ⟨by decide, by decide⟩ ⟨rfl, rfl⟩ (fun rv_ V1 r_ K1 hv_ => ?_)
  obtain ⟨x_214, a1_, hx_214, pm1, fm1, a3_⟩ := hv_
  rw [a1_, a3_]
  have pm1 : PM T n (lyT T n t9 (k + 1)) V1 K1 := pm1
  have hx_214 : (lyT T n t9 (k + 1)).1 = 0 → x_214 = tvV_ T n (lyT T n t9 k) := hx_214
  show Wq MX12_readYard 217 [some (.ref 100), some (.long w), none, some (.int b3), some (.int (nI k)), some (.int 1), x6] [.int x_214] V1 r K1 _
  refine x_istore (L2 := [some (.ref 100), some (.long w), none, some (.int b3), some (.int (nI k)), some (.int 1), some (.int x_214)]) (q := 219) dX12_readYard_217 rfl (by decide) rfl rfl ?_
  refine x_aload_n (q := 220) dX12_readYard_219 rfl rfl ?_
  refine q_gi (K := 2) (q := 223) dX12_readYard_220 rfl cl_12 (by decide) tw_1084 rfl rfl ?_
  refine x_if_le (t := 227) (q := 226) dX12_readYard_223 (by decide) rfl (fun c223 => ?_) (fun c223 => ?_)
  · have z1 := (f_le pm1.2.2.1 pm1.2.2.2.2.2.1).mp c223
    have yi1 := YI_f yi fm1
    have h33 : V1 100 33 = nI yn := (yi1.2.2.2.2.2.2.2.2 33 (by decide) (by decide)).trans m33
    refine x_aload_n (q := 228) dX12_readYard_227 rfl rfl ?_
    refine q_gr (K := 15) (b := 107) (q := 231) dX12_readYard_228 rfl cl_12 (by decide) tw_1097 rfl rfl rfl ?_
    refine x_iconst (5) (q := 232) dX12_readYard_231 rfl (by decide) ?_
    refine x_aload_n (q := 233) dX12_readYard_232 rfl rfl ?_
    refine q_gi (K := 33) (q := 236) dX12_readYard_233 rfl cl_12 (by decide) tw_1115 rfl rfl ?_
    refine x_imul (q := 237) dX12_readYard_236 rfl ?_
    refine x_iload (q := 239) dX12_readYard_237 rfl rfl ?_
    refine x_iadd (q := 240) dX12_readYard_239 rfl ?_
    refine x_iload (q := 242) dX12_readYard_240 rfl rfl ?_
    refine q_iast (q := 243) dX12_readYard_242 rfl rfl (by rw [h33, i5]; exact vp_in_nI (by omega) (by decide)) (fun I11 eI11 => ?_)
    rw [h33, i5, nI_clamp (by omega)] at eI11
    have yi2 : YI T n t9 yn so x2 x3 M J (k + 1) I11 K1 := by rw [eI11]; exact YI_u yi1 (hx_214 z1)
    have pm2 : PM T n (lyT T n t9 (k + 1)) I11 K1 := by rw [eI11]; exact PM_u pm1 (by decide) (by decide)
    have hL := pm2.2.2.2.2.2.2 z1
    obtain ⟨v21, ev21⟩ : ∃ y_ : Int32, y_ = (nI k) + 1 := ⟨_, rfl⟩
    refine x_iinc (v := v21) (L2 := [some (.ref 100), some (.long w), none, some (.int b3), some (.int v21), some (.int 1), some (.int x_214)]) (q := 246) dX12_readYard_243 rfl (by decide) rfl rfl (by rw [ev21]; rfl) rfl ?_
    refine x_aload_n (q := 247) dX12_readYard_246 rfl rfl ?_
    refine q_gi (K := 6) (q := 250) dX12_readYard_247 rfl cl_12 (by decide) tw_1088 rfl rfl ?_
    refine x_iconst (2) (q := 251) dX12_readYard_250 rfl (by decide) ?_
    refine x_icmp_eq (t := 263) (q := 254) dX12_readYard_251 (by decide) rfl (fun c251 => ?_) (fun c251 => ?_)
    · refine x_iconst (1) (q := 264) dX12_readYard_263 rfl (by decide) ?_
      refine x_goto (t := 268) dX12_readYard_264 (by decide) ?_
      refine x_istore (L2 := [some (.ref 100), some (.long w), none, some (.int b3), some (.int v21), some (.int 1), some (.int x_214)]) (q := 270) dX12_readYard_268 rfl (by decide) rfl rfl ?_
      refine x_goto (t := 187) dX12_readYard_270 (by decide) ?_
      rw [show v21 = nI (k + 1) by rw [ev21, nI_p1]]
      refine kx1 _ _ _ pm2 yi2 z1 ?_
      first
      | exact Or.inl ((ms_c 3 hL.2.1 (by decide) rfl).mp c251)
      | exact Or.inr ((ms_c 5 hL.2.1 (by decide) rfl).mp c260)
    · refine x_aload_n (q := 255) dX12_readYard_254 rfl rfl ?_
      refine q_gi (K := 6) (q := 258) dX12_readYard_255 rfl cl_12 (by decide) tw_1088 rfl rfl ?_
      refine x_bipush (45) (q := 260) dX12_readYard_258 rfl (by decide) ?_
      refine x_icmp_ne (t := 267) (q := 263) dX12_readYard_260 (by decide) rfl (fun c260 => ?_) (fun c260 => ?_)
      · refine x_iconst (0) (q := 268) dX12_readYard_267 rfl (by decide) ?_
        refine x_istore (L2 := [some (.ref 100), some (.long w), none, some (.int b3), some (.int v21), some (.int 0), some (.int x_214)]) (q := 270) dX12_readYard_268 rfl (by decide) rfl rfl ?_
        refine x_goto (t := 187) dX12_readYard_270 (by decide) ?_
        rw [show v21 = nI (k + 1) by rw [ev21, nI_p1]]
        refine kx0 _ _ _ pm2 yi2 z1 ?_
        rintro (z | z)
        · exact c251 ((ms_c 3 hL.2.1 (by decide) rfl).mpr z)
        · exact c260 ((ms_c 5 hL.2.1 (by decide) rfl).mpr z)
      · refine x_iconst (1) (q := 264) dX12_readYard_263 rfl (by decide) ?_
        refine x_goto (t := 268) dX12_readYard_264 (by decide) ?_
        refine x_istore (L2 := [some (.ref 100), some (.long w), none, some (.int b3), some (.int v21), some (.int 1), some (.int x_214)]) (q := 270) dX12_readYard_268 rfl (by decide) rfl rfl ?_
        refine x_goto (t := 187) dX12_readYard_270 (by decide) ?_
        rw [show v21 = nI (k + 1) by rw [ev21, nI_p1]]
        refine kx1 _ _ _ pm2 yi2 z1 ?_
        first
        | exact Or.inl ((ms_c 3 hL.2.1 (by decide) rfl).mp c251)
        | exact Or.inr ((ms_c 5 hL.2.1 (by decide) rfl).mp c260)
  · refine q_vret dX12_readYard_226 rfl ?_
    have nz : ¬ (lyT T n t9 (k + 1)).1 = 0 := fun z => c223 ((f_le pm1.2.2.1 pm1.2.2.2.2.2.1).mpr z)
    have es : yaS T n A yn s = lyT T n t9 (k + 1) := by unfold yaS; rw [← e9, kf nz]
    exact ⟨rfl, yi.1.tr fm1.l, rfl, Or.inl ⟨by rw [es]; exact pm1, fun z => absurd (by rw [es] at z; exact z) nz⟩⟩
set_option maxRecDepth 100000 in
theorem l_yX {T : Nat → Nat} {n : Nat} (r : MR) {M : MI} {J : MJ} {A : MI} {yn wn hn sn : Nat} (hD : MD T n A yn wn hn sn M J) (hy7 : yn < 8) {s : Nat × Nat × Nat} {V : MI} {K : MJ} {t9 : Nat × Nat × Nat} (e9 : t9 = y9 T n A yn (adv T n s)) {so : Nat} {x2 x3 : Int32} {k : Nat} (hk1 : 1 ≤ k) (hk5 : k ≤ 5) (pm0 : PM T n (lyT T n t9 k) V K) (yi : YI T n t9 yn so x2 x3 M J k V K) (zk : (lyT T n t9 k).1 = 0) (hla : laK T n t9 4 1 = k) {w : Int64} (b3 : Int32) (x6 : Option Value) (hw : w = lN (w8 T n (adv T n s).2.2)) (s4 : so < 4) (i2 : Ib x2 0 99) (i3 : Ib x3 0 99) (hc : naC T n (adv T n s)) (fr : ∀ y, y < yn → ¬ NM T n A y = w5 T n (adv T n s).2.2) (eA : yaA T n s A yn = upI (upI (lyA T n t9 (upI (upI (upI A (10 + 2 * yn) 1 (nI so)) (10 + 2 * yn) 2 x2) (10 + 2 * yn) 3 x3) (10 + 2 * yn) k) 0 1 (nI (yn + 1))) 26 yn (nI (adv T n s).2.2)) (p31 : (adv T n s).2.2 < 2 ^ 31) (iw : ∀ j, j < k → Ib (tvV_ T n (lyT T n t9 j)) (-200) 200) : Wq MX12_readYard 187 [some (.ref 100), some (.long w), none, some (.int b3), some (.int (nI k)), some (.int 0), x6] [] V r K (RMY T n A yn wn hn sn s M J r) := by
  have m33 := hD.2.2.1.1
  have y9_ := yi.2.2.2.2.2.2.2.2
  have h33 : V 100 33 = nI yn := (y9_ 33 (by decide) (by decide)).trans m33
  have es : yaS T n A yn s = lyT T n t9 k := by unfold yaS; rw [← e9, hla]
  refine x_iload (q := 189) dX12_readYard_187 rfl rfl ?_
  refine x_if_eq (t := 273) (q := 192) dX12_readYard_189 (by decide) rfl (fun c189 => ?_) (fun c189 => absurd c189 ((by decide)))
  refine x_aload_n (q := 274) dX12_readYard_273 rfl rfl ?_
  refine q_gi (K := 2) (q := 277) dX12_readYard_274 rfl cl_12 (by decide) tw_1084 rfl rfl ?_
  refine x_if_le (t := 281) (q := 280) dX12_readYard_277 (by decide) rfl (fun c277 => ?_) (fun c277 => absurd c277 (fun z => z ((f_le pm0.2.2.1 pm0.2.2.2.2.2.1).mpr zk)))
  refine x_aload_n (q := 282) dX12_readYard_281 rfl rfl ?_
  refine q_gr (K := 14) (b := 106) (q := 285) dX12_readYard_282 rfl cl_12 (by decide) tw_1096 rfl rfl rfl ?_
  refine x_aload_n (q := 286) dX12_readYard_285 rfl rfl ?_
  refine q_gi (K := 33) (q := 289) dX12_readYard_286 rfl cl_12 (by decide) tw_1115 rfl rfl ?_
  refine x_iload (q := 291) dX12_readYard_289 rfl rfl ?_
  refine q_iast (q := 292) dX12_readYard_291 rfl rfl (by rw [h33]; exact vp_in_nI (by omega) (by decide)) (fun I1 eI1 => ?_)
  have h33a : I1 100 33 = nI yn := by rw [eI1, upc (by decide)]; exact h33
  refine x_aload_n (q := 293) dX12_readYard_292 rfl rfl ?_
  refine q_gr (K := 10) (b := 102) (q := 296) dX12_readYard_293 rfl cl_12 (by decide) tw_1092 rfl rfl rfl ?_
  refine x_aload_n (q := 297) dX12_readYard_296 rfl rfl ?_
  refine q_gi (K := 33) (q := 300) dX12_readYard_297 rfl cl_12 (by decide) tw_1115 rfl rfl ?_
  refine x_lload_n (q := 301) dX12_readYard_300 rfl rfl ?_
  refine q_last (q := 302) dX12_readYard_301 rfl rfl (by rw [h33a]; exact vp_in_nI (by omega) (by decide)) (fun J21 eJ21 => ?_)
  refine x_aload_n (q := 303) dX12_readYard_302 rfl rfl ?_
  refine x_dup (q := 304) dX12_readYard_303 rfl rfl ?_
  refine q_gi (K := 33) (q := 307) dX12_readYard_304 rfl cl_12 (by decide) tw_1115 rfl rfl ?_
  refine x_iconst (1) (q := 308) dX12_readYard_307 rfl (by decide) ?_
  refine x_iadd (q := 309) dX12_readYard_308 rfl ?_
  refine q_pi (K := 33) (q := 312) dX12_readYard_309 rfl cl_12 (by decide) tw_1115 rfl rfl rfl rfl (fun I22 eI22 => ?_)
  refine q_vret dX12_readYard_312 rfl ?_
  rw [h33, nI_clamp (by omega)] at eI1
  have h33b : I1 100 33 = nI yn := by rw [eI1, upc (by decide)]; exact h33
  rw [h33b, nI_clamp (by omega)] at eJ21
  rw [h33b, nI_p1] at eI22
  have pmE : PM T n (lyT T n t9 k) I22 J21 := by rw [eI22, eI1, eJ21]; exact PM_0 (PM_n (PM_u pm0 (by decide) (by decide))) (by decide)
  have flE : FL M J I22 J21 := by rw [eI22, eI1, eJ21]; exact ((yi.1.tr (FL_u (by decide))).tr FL_n).tr (FL_0 (by decide))
  refine ⟨rfl, flE, rfl, Or.inl ⟨by rw [es]; exact pmE, fun _ => ?_⟩⟩
  obtain ⟨h1, h2, h3, h4, h5, h6, h7, h8, h9⟩ := yi
  rw [eA]
  have la4 : ∀ B : MI, lyA T n t9 B (10 + 2 * yn) k (10 + 2 * yn) 4 = nI k := fun B => by
    obtain ⟨k', ek⟩ : ∃ k', k = k' + 1 := ⟨k - 1, by omega⟩
    rw [ek]; exact lyA_4
  refine MD_ya (so := so) (k := k) (p := (adv T n s).2.2) (x2 := x2) (x3 := x3) (W := fun j => tvV_ T n (lyT T n t9 j)) hD hy7 ?_ ?_ ?_ ?_ ?_ ?_ ?_ ?_ ?_ ?_ ?_ ?_ ?_ ?_ ?_ ?_ ?_ ?_ ?_ ?_ ?_ s4 hk1 hk5 i2 i3 iw hc.2.1 p31 fr
  · intro c q0 q1 q2 q3; rw [upc q3, upc q0, lyA_o q1 (by omega), upc q1, upc q1, upc q1]
  · intro j q; rw [upc (by decide), ups q, lyA_o (by omega) (by omega), upc (by omega), upc (by omega), upc (by omega)]
  · rw [upc (by decide), upq]
  · rw [upc (by omega), upc (by omega), lyA_c (by decide), ups (by decide), ups (by decide), upq]
  · rw [upc (by omega), upc (by omega), lyA_c (by decide), ups (by decide), upq]
  · rw [upc (by omega), upc (by omega), lyA_c (by decide), upq]
  · rw [upc (by omega), upc (by omega), la4]
  · intro j hj; rw [upc (by omega), upc (by omega), show 11 + 2 * yn = 10 + 2 * yn + 1 by omega]; exact lyA_v k hj
  · rw [upq]
  · intro y q; rw [ups q, upc (by decide), lyA_o (by omega) (by omega), upc (by omega), upc (by omega), upc (by omega)]
  · intro c q1 q2; rw [eI22, upc (by omega), eI1, upc (by omega)]; exact h6 c (by omega) q2 (by omega)
  · rw [eI22, upc (by decide), eI1, upc (by decide)]; exact h3
  · rw [eI22, upc (by decide), eI1, upc (by decide)]; exact h4
  · rw [eI22, upc (by decide), eI1, upc (by decide)]; exact h5
  · rw [eI22, upc (by decide), eI1]; exact upx (h6 106 (by decide) (by decide) (by decide))
  · intro j q; rw [eI22, upc (by decide), eI1, upc (by decide)]; exact h7 j q
  · intro j q; rw [eI22, upc (by decide), eI1, upc (by decide)]; exact h8 j q
  · rw [eI22, upq]
  · intro j q1 q2; rw [eI22, ups (by omega), eI1, upc (by decide)]; exact h9 j (by omega) q2
  · intro i q; rw [eJ21, upJ_o (fun z => q z.2)]; exact h2 i
  · rw [eJ21, upJq]; exact hw
set_option maxRecDepth 100000 in
theorem l_y5 {T : Nat → Nat} {n : Nat} (r : MR) {M : MI} {J : MJ} {A : MI} {yn wn hn sn : Nat} (hD : MD T n A yn wn hn sn M J) (hy7 : yn < 8) {s : Nat × Nat × Nat} {V : MI} {K : MJ} {t9 : Nat × Nat × Nat} (e9 : t9 = y9 T n A yn (adv T n s)) {so : Nat} {x2 x3 : Int32} (pm0 : PM T n (lyT T n t9 5) V K) (yi : YI T n t9 yn so x2 x3 M J 5 V K) (zk : (lyT T n t9 5).1 = 0) (hla : laK T n t9 4 1 = 5) (h35 : kd T n (lyT T n t9 5).2.2 = 3 ∨ kd T n (lyT T n t9 5).2.2 = 5) {w : Int64} (b3 : Int32) (x6 : Option Value) : Wq MX12_readYard 187 [some (.ref 100), some (.long w), none, some (.int b3), some (.int 5), some (.int 1), x6] [] V r K (RMY T n A yn wn hn sn s M J r) := by
  have es : yaS T n A yn s = lyT T n t9 5 := by unfold yaS; rw [← e9, hla]
  refine x_iload (q := 189) dX12_readYard_187 rfl rfl ?_
  refine x_if_eq (t := 273) (q := 192) dX12_readYard_189 (by decide) rfl (fun c189 => absurd c189 ((by decide))) (fun c189 => ?_)
  refine x_aload_n (q := 193) dX12_readYard_192 rfl rfl ?_
  refine q_gi (K := 2) (q := 196) dX12_readYard_193 rfl cl_12 (by decide) tw_1084 rfl rfl ?_
  refine x_if_ne (t := 273) (q := 199) dX12_readYard_196 (by decide) rfl (fun c196 => absurd c196 (fun z => z (by rw [pm0.2.2.1, zk]; rfl))) (fun c196 => ?_)
  refine x_iload (q := 201) dX12_readYard_199 rfl rfl ?_
  refine x_iconst (5) (q := 202) dX12_readYard_201 rfl (by decide) ?_
  refine x_icmp_ne (t := 210) (q := 205) dX12_readYard_202 (by decide) rfl (fun c202 => absurd c202 ((by decide))) (fun c202 => ?_)
  refine x_aload_n (q := 206) dX12_readYard_205 rfl rfl ?_
  refine x_iconst (2) (q := 207) dX12_readYard_206 rfl (by decide) ?_
  refine q_callV (ci := 12) (N := 79) (T := TX12) (As := [.int 2]) (rest := []) (q := 210) dX12_readYard_207 rfl okX12_wrong tw_1390 rfl rfl (c_wr r pm0 (k := 2) (by decide) zk) rfl rfl (Nat.le_of_ble_eq_true rfl) ⟨by decide, by decide⟩ ⟨rfl, rfl⟩ (fun rv_ V1 r_ K1 hv_ => ?_)
  obtain ⟨a1_, pm1, fm1, a3_⟩ := hv_
  rw [a1_, a3_]
  have pm1 : PM T n (rfT T n (lyT T n t9 5)) V1 K1 := pm1
  show Wq MX12_readYard 210 [some (.ref 100), some (.long w), none, some (.int b3), some (.int 5), some (.int 1), x6] [] V1 r K1 _
  refine x_aload_n (q := 211) dX12_readYard_210 rfl rfl ?_
  refine x_sipush (200) (q := 214) dX12_readYard_211 rfl (by decide) ?_
  refine q_callV (ci := 12) (N := 79) (T := TX12) (As := [.int 200]) (rest := []) (q := 217) dX12_readYard_214 rfl okX12_signed tw_1414 rfl rfl (c_sgn_f r pm1 rfT_n (m := 200)) rfl rfl (Nat.le_of_ble_eq_true rfl) ⟨by decide, by decide⟩ ⟨rfl, rfl⟩ (fun rv_ V2 r_ K2 hv_ => ?_)
  obtain ⟨x_214, a1_, hx_214, pm2, fm2, a3_⟩ := hv_
  rw [a1_, a3_]
  have q2 := tva_f (T := T) (n := n) (m := 200) (s := rfT T n (lyT T n t9 5)) rfT_n pm1.2.2.2.2.1
  have n2 : ¬ (tvaT T n 200 (rfT T n (lyT T n t9 5))).1 = 0 := by rw [q2.1]; exact rfT_n
  show Wq MX12_readYard 217 [some (.ref 100), some (.long w), none, some (.int b3), some (.int 5), some (.int 1), x6] [.int x_214] V2 r K2 _
  refine x_istore (L2 := [some (.ref 100), some (.long w), none, some (.int b3), some (.int 5), some (.int 1), some (.int x_214)]) (q := 219) dX12_readYard_217 rfl (by decide) rfl rfl ?_
  refine x_aload_n (q := 220) dX12_readYard_219 rfl rfl ?_
  refine q_gi (K := 2) (q := 223) dX12_readYard_220 rfl cl_12 (by decide) tw_1084 rfl rfl ?_
  refine x_if_le (t := 227) (q := 226) dX12_readYard_223 (by decide) rfl (fun c223 => absurd c223 (fun z => n2 ((f_le pm2.2.2.1 pm2.2.2.2.2.2.1).mp z))) (fun c223 => ?_)
  refine q_vret dX12_readYard_226 rfl ?_
  exact ⟨rfl, (yi.1.tr fm1.l).tr fm2.l, rfl, Or.inr ⟨by rw [es]; exact PM_p pm2 n2 q2.1.symm q2.2.1.symm pm1.2.2.2.2.1, by rw [es]; exact zk, by rw [es]; exact h35⟩⟩
theorem ly_w2 {T : Nat → Nat} {n : Nat} {t9 : Nat × Nat × Nat} : ∀ k, (lyT T n t9 k).1 = 0 → ∀ j, j < k → Ib (tvV_ T n (lyT T n t9 j)) (-200) 200 := by
  intro k
  induction k with
  | zero => intro _ j z; omega
  | succ k ih =>
    intro h j hj
    by_cases e : j = k
    · rw [e]; exact tvV_b (m := 200) h (by decide)
    · exact ih (tvaT_0 h).1 j (by omega)
set_option maxRecDepth 100000 in
theorem l_yH {T : Nat → Nat} {n : Nat} (r : MR) {M : MI} {J : MJ} {A : MI} {yn wn hn sn : Nat} (hD : MD T n A yn wn hn sn M J) (hy7 : yn < 8) {s : Nat × Nat × Nat} {t9 : Nat × Nat × Nat} (e9 : t9 = y9 T n A yn (adv T n s)) {so : Nat} {x2 x3 : Int32} {w : Int64} (b3 : Int32) (hw : w = lN (w8 T n (adv T n s).2.2)) (s4 : so < 4) (i2 : Ib x2 0 99) (i3 : Ib x3 0 99) (hc : naC T n (adv T n s)) (fr : ∀ y, y < yn → ¬ NM T n A y = w5 T n (adv T n s).2.2) (eA : yaA T n s A yn = upI (upI (lyA T n t9 (upI (upI (upI A (10 + 2 * yn) 1 (nI so)) (10 + 2 * yn) 2 x2) (10 + 2 * yn) 3 x3) (10 + 2 * yn) (laK T n t9 4 1)) 0 1 (nI (yn + 1))) 26 yn (nI (adv T n s).2.2)) (p31 : (adv T n s).2.2 < 2 ^ 31) : ∀ (f : Nat) (k : Nat) (V : MI) (K : MJ) (x6 : Option Value) (_ : k + f = 5) (_ : 1 ≤ k) (_ : PM T n (lyT T n t9 k) V K) (_ : YI T n t9 yn so x2 x3 M J k V K) (_ : (lyT T n t9 k).1 = 0) (_ : kd T n (lyT T n t9 k).2.2 = 3 ∨ kd T n (lyT T n t9 k).2.2 = 5) (_ : laK T n t9 f k = laK T n t9 4 1), Wq MX12_readYard 187 [some (.ref 100), some (.long w), none, some (.int b3), some (.int (nI k)), some (.int 1), x6] [] V r K (RMY T n A yn wn hn sn s M J r) := by
  intro f
  induction f with
  | zero =>
    intro k V K x6 hk hk1 pm0 yi zk h35 hla
    obtain rfl : k = 5 := by omega
    exact l_y5 r hD hy7 e9 pm0 yi zk hla.symm h35 b3 x6
  | succ f ih =>
    intro k V K x6 hk hk1 pm0 yi zk h35 hla
    have hl2 : laK T n t9 f (k + 1) = laK T n t9 4 1 := by
      rw [← hla]
      show _ = if (lyT T n t9 k).1 = 0 ∧ (kd T n (lyT T n t9 k).2.2 = 3 ∨ kd T n (lyT T n t9 k).2.2 = 5) then laK T n t9 f (k + 1) else k
      rw [if_pos ⟨zk, h35⟩]
    refine x_iload (q := 189) dX12_readYard_187 rfl rfl ?_
    refine x_if_eq (t := 273) (q := 192) dX12_readYard_189 (by decide) rfl (fun c189 => absurd c189 ((by decide))) (fun c189 => ?_)
    refine x_aload_n (q := 193) dX12_readYard_192 rfl rfl ?_
    refine q_gi (K := 2) (q := 196) dX12_readYard_193 rfl cl_12 (by decide) tw_1084 rfl rfl ?_
    refine x_if_ne (t := 273) (q := 199) dX12_readYard_196 (by decide) rfl (fun c196 => absurd c196 (fun z => z (by rw [pm0.2.2.1, zk]; rfl))) (fun c196 => ?_)
    refine l_yB r hD hy7 e9 (k := k) (by omega) pm0 yi b3 x6 (fun z => ?_) (fun Y L x7 p y z h3 => ?_) (fun Y L x7 p y z h3 => ?_)
    · rw [← hl2]; exact laK_n (fun w => z w.1) _
    · have hl3 : laK T n t9 4 1 = k + 1 := by rw [← hl2]; exact laK_n (fun w => h3 w.2) _
      rw [hl3] at eA
      exact l_yX r hD hy7 e9 (by omega) (by omega) p y z hl3 b3 x7 hw s4 i2 i3 hc fr eA p31 (ly_w2 _ z)
    · exact ih (k + 1) Y L x7 (by omega) (by omega) p y z h3 hl2
set_option maxRecDepth 100000 in
theorem l_y122 {T : Nat → Nat} {n : Nat} (r : MR) {M : MI} {J : MJ} {A : MI} {yn wn hn sn : Nat} (hD : MD T n A yn wn hn sn M J) (hy7 : yn < 8) {s : Nat × Nat × Nat} {V : MI} {K : MJ} {t1 t2 : Nat × Nat × Nat} (et1 : t1 = adv T n s) (et2 : t2 = adv T n t1) (hc : naC T n t1) (hnf : ¬ nf T n A (w5 T n t1.2.2) yn 0 < 8) (pm0 : PM T n t2 V K) (fl0 : FL M J V K) (da0 : DA M V) (kn0 : ∀ i, K 102 i = J 102 i) (p1n : t1.2.2 ≤ n) {w : Int64} (hw : w = lN (w8 T n t1.2.2)) {so : Nat} (s4 : so < 4) (hso : kw T n t2.2.2 = 8 + so) : Wq MX12_readYard 122 [some (.ref 100), some (.long w), none, some (.int (nI so)), none, none, none] [] V r K (RMY T n A yn wn hn sn s M J r) := by
  obtain ⟨⟨k1, k5, k9, k12⟩, ⟨y8, w16, h12, s7⟩, ⟨m33, m34, m35, m36⟩, hMN, hMy, hMh, hMs, hMw, hMo⟩ := id hD
  have hc0 : V 100 33 = nI yn := (da0.2 33 (by decide) (by decide)).trans m33
  have z2 : t2.1 = 0 := by rw [et2]; exact hc.1
  have eyc : yC T n A yn t1 = t2 := by
    unfold yC
    rw [if_neg (fun z => hnf (of_decide_eq_true z)), show tnaT T n t1 = adv T n t1 from if_pos hc, et2]
  have hn17 := pm0.1.1
  have fr : ∀ y, y < yn → ¬ NM T n A y = w5 T n t1.2.2 := fun y hy e => by
    rcases nf_le (T := T) (n := n) (A := A) (w := w5 T n t1.2.2) yn 0 (by omega) with q | q
    · exact hnf (by omega)
    · exact q.2 y (Nat.zero_le _) (by omega) e
  refine x_aload_n (q := 123) dX12_readYard_122 rfl rfl ?_
  refine q_callV (ci := 12) (N := 79) (T := TX12) (As := []) (rest := []) (q := 126) dX12_readYard_123 rfl okX12_token tw_1340 rfl rfl (c_tokP r pm0 z2 (by rw [kw_2 (by omega)]; decide)) rfl rfl (Nat.le_of_ble_eq_true rfl) ⟨by decide, by decide⟩ ⟨rfl, rfl⟩ (fun rv_ V1 r_ K1 hv_ => ?_)
  obtain ⟨a1_, pm1, fm1, a3_⟩ := hv_
  rw [a1_, a3_]
  obtain ⟨t3, et3⟩ : ∃ z, z = adv T n t2 := ⟨_, rfl⟩
  rw [← et3] at pm1
  have fl1 := fl0.tr fm1.l
  have da1 := DA_f da0 fm1
  have kn1 : ∀ i, K1 102 i = J 102 i := fun i => (fm1.2.2 102 i (by omega)).trans (kn0 i)
  have hc1 : V1 100 33 = nI yn := (fm1.2.1 33 (by decide) (by decide) (by decide) (by decide) (by decide) (by decide)).trans hc0
  show Wq MX12_readYard 126 [some (.ref 100), some (.long w), none, some (.int (nI so)), none, none, none] [] V1 r K1 _
  refine x_aload_n (q := 127) dX12_readYard_126 rfl rfl ?_
  refine q_gr (K := 11) (b := 103) (q := 130) dX12_readYard_127 rfl cl_12 (by decide) tw_1093 rfl rfl rfl ?_
  refine x_aload_n (q := 131) dX12_readYard_130 rfl rfl ?_
  refine q_gi (K := 33) (q := 134) dX12_readYard_131 rfl cl_12 (by decide) tw_1115 rfl rfl ?_
  refine x_iload_n (q := 135) dX12_readYard_134 rfl rfl ?_
  refine q_iast (q := 136) dX12_readYard_135 rfl rfl (by rw [hc1]; exact vp_in_nI (by omega) (by decide)) (fun I1 eI1 => ?_)
  rw [hc1, nI_clamp (by omega)] at eI1
  have pm2 : PM T n t3 I1 K1 := by rw [eI1]; exact PM_u pm1 (by decide) (by decide)
  have fl2 : FL M J I1 K1 := fl1.tr (by rw [eI1]; exact FL_u (by decide))
  have da2 : DA (upI M 103 yn (nI so)) I1 := by rw [eI1]; exact DA_u da1
  have kn2 := kn1
  have hc2 : I1 100 33 = nI yn := by rw [eI1, upc (by decide)]; exact hc1
  refine x_aload_n (q := 137) dX12_readYard_136 rfl rfl ?_
  refine q_gr (K := 12) (b := 104) (q := 140) dX12_readYard_137 rfl cl_12 (by decide) tw_1094 rfl rfl rfl ?_
  refine x_aload_n (q := 141) dX12_readYard_140 rfl rfl ?_
  refine q_gi (K := 33) (q := 144) dX12_readYard_141 rfl cl_12 (by decide) tw_1115 rfl rfl ?_
  refine x_aload_n (q := 145) dX12_readYard_144 rfl rfl ?_
  refine x_ldc2 (v := 495740481637) (q := 148) dX12_readYard_145 rfl tw_1371 ?_
  refine x_iconst (0) (q := 149) dX12_readYard_148 rfl (by decide) ?_
  refine x_bipush (99) (q := 151) dX12_readYard_149 rfl (by decide) ?_
  refine q_callV (ci := 12) (N := 79) (T := TX12) (As := [.long 495740481637, .int 0, .int 99]) (rest := [.int (I1 100 33), .ref 104]) (q := 154) dX12_readYard_151 rfl okX12_told tw_1402 rfl rfl (c_tld r pm2 (i := 12) (by decide) rfl (lo := 0) (hi := 99) (by decide) (by decide)) rfl rfl (Nat.le_of_ble_eq_true rfl) ⟨by decide, by decide⟩ ⟨rfl, rfl⟩ (fun rv_ V3 r_ K3 hv_ => ?_)
  obtain ⟨x_151, a1_, hx_151, pm3, fm3, a3_⟩ := hv_
  rw [a1_, a3_]
  obtain ⟨t4, et4⟩ : ∃ z, z = tnuT T n 0 99 (tkw T n 12 t3) := ⟨_, rfl⟩
  rw [← et4] at pm3
  have fl3 := fl2.tr fm3.l
  have da3 := DA_f da2 fm3
  have kn3 : ∀ i, K3 102 i = J 102 i := fun i => (fm3.2.2 102 i (by omega)).trans (kn2 i)
  have hc3 : V3 100 33 = nI yn := (fm3.2.1 33 (by decide) (by decide) (by decide) (by decide) (by decide) (by decide)).trans hc2
  rw [← et4] at hx_151
  show Wq MX12_readYard 154 [some (.ref 100), some (.long w), none, some (.int (nI so)), none, none, none] [.int x_151, .int (I1 100 33), .ref 104] V3 r K3 _
  refine q_iast (q := 155) dX12_readYard_154 rfl rfl (by rw [hc2]; exact vp_in_nI (by omega) (by decide)) (fun I21 eI21 => ?_)
  rw [hc2, nI_clamp (by omega)] at eI21
  have pm4 : PM T n t4 I21 K3 := by rw [eI21]; exact PM_u pm3 (by decide) (by decide)
  have fl4 : FL M J I21 K3 := fl3.tr (by rw [eI21]; exact FL_u (by decide))
  have da4 : DA (upI (upI M 103 yn (nI so)) 104 yn x_151) I21 := by rw [eI21]; exact DA_u da3
  have kn4 := kn3
  have hc4 : I21 100 33 = nI yn := by rw [eI21, upc (by decide)]; exact hc3
  refine x_aload_n (q := 156) dX12_readYard_155 rfl rfl ?_
  refine q_gr (K := 13) (b := 105) (q := 159) dX12_readYard_156 rfl cl_12 (by decide) tw_1095 rfl rfl rfl ?_
  refine x_aload_n (q := 160) dX12_readYard_159 rfl rfl ?_
  refine q_gi (K := 33) (q := 163) dX12_readYard_160 rfl cl_12 (by decide) tw_1115 rfl rfl ?_
  refine x_aload_n (q := 164) dX12_readYard_163 rfl rfl ?_
  refine x_ldc2 (v := 32776859953817955) (q := 167) dX12_readYard_164 rfl tw_1372 ?_
  refine x_iconst (0) (q := 168) dX12_readYard_167 rfl (by decide) ?_
  refine x_bipush (99) (q := 170) dX12_readYard_168 rfl (by decide) ?_
  refine q_callV (ci := 12) (N := 79) (T := TX12) (As := [.long 32776859953817955, .int 0, .int 99]) (rest := [.int (I21 100 33), .ref 105]) (q := 173) dX12_readYard_170 rfl okX12_told tw_1402 rfl rfl (c_tld r pm4 (i := 13) (by decide) rfl (lo := 0) (hi := 99) (by decide) (by decide)) rfl rfl (Nat.le_of_ble_eq_true rfl) ⟨by decide, by decide⟩ ⟨rfl, rfl⟩ (fun rv_ V5 r_ K5 hv_ => ?_)
  obtain ⟨x_170, a1_, hx_170, pm5, fm5, a3_⟩ := hv_
  rw [a1_, a3_]
  obtain ⟨t5, et5⟩ : ∃ z, z = tnuT T n 0 99 (tkw T n 13 t4) := ⟨_, rfl⟩
  rw [← et5] at pm5
  have fl5 := fl4.tr fm5.l
  have da5 := DA_f da4 fm5
  have kn5 : ∀ i, K5 102 i = J 102 i := fun i => (fm5.2.2 102 i (by omega)).trans (kn4 i)
  have hc5 : V5 100 33 = nI yn := (fm5.2.1 33 (by decide) (by decide) (by decide) (by decide) (by decide) (by decide)).trans hc4
  rw [← et5] at hx_170
  show Wq MX12_readYard 173 [some (.ref 100), some (.long w), none, some (.int (nI so)), none, none, none] [.int x_170, .int (I21 100 33), .ref 105] V5 r K5 _
  refine q_iast (q := 174) dX12_readYard_173 rfl rfl (by rw [hc4]; exact vp_in_nI (by omega) (by decide)) (fun I41 eI41 => ?_)
  rw [hc4, nI_clamp (by omega)] at eI41
  have pm6 : PM T n t5 I41 K5 := by rw [eI41]; exact PM_u pm5 (by decide) (by decide)
  have fl6 : FL M J I41 K5 := fl5.tr (by rw [eI41]; exact FL_u (by decide))
  have da6 : DA (upI (upI (upI M 103 yn (nI so)) 104 yn x_151) 105 yn x_170) I41 := by rw [eI41]; exact DA_u da5
  have kn6 := kn5
  have hc6 : I41 100 33 = nI yn := by rw [eI41, upc (by decide)]; exact hc5
  refine x_aload_n (q := 175) dX12_readYard_174 rfl rfl ?_
  refine x_ldc2 (v := 2002874989) (q := 178) dX12_readYard_175 rfl tw_1373 ?_
  refine q_callV (ci := 12) (N := 79) (T := TX12) (As := [.long 2002874989]) (rest := []) (q := 181) dX12_readYard_178 rfl okX12_want tw_1406 rfl rfl (c_wanW r pm6 (i := 14) (by decide) rfl) rfl rfl (Nat.le_of_ble_eq_true rfl) ⟨by decide, by decide⟩ ⟨rfl, rfl⟩ (fun rv_ V7 r_ K7 hv_ => ?_)
  obtain ⟨a1_, pm7, fm7, a3_⟩ := hv_
  rw [a1_, a3_]
  obtain ⟨t6, et6⟩ : ∃ z, z = tkw T n 14 t5 := ⟨_, rfl⟩
  rw [← et6] at pm7
  have fl7 := fl6.tr fm7.l
  have da7 := DA_f da6 fm7
  have kn7 : ∀ i, K7 102 i = J 102 i := fun i => (fm7.2.2 102 i (by omega)).trans (kn6 i)
  have hc7 : V7 100 33 = nI yn := (fm7.2.1 33 (by decide) (by decide) (by decide) (by decide) (by decide) (by decide)).trans hc6
  show Wq MX12_readYard 181 [some (.ref 100), some (.long w), none, some (.int (nI so)), none, none, none] [] V7 r K7 _
  refine x_iconst (0) (q := 182) dX12_readYard_181 rfl (by decide) ?_
  refine x_istore (L2 := [some (.ref 100), some (.long w), none, some (.int (nI so)), some (.int 0), none, none]) (q := 184) dX12_readYard_182 rfl (by decide) rfl rfl ?_
  refine x_iconst (1) (q := 185) dX12_readYard_184 rfl (by decide) ?_
  refine x_istore (L2 := [some (.ref 100), some (.long w), none, some (.int (nI so)), some (.int 0), some (.int 1), none]) (q := 187) dX12_readYard_185 rfl (by decide) rfl rfl ?_
  have eso : tsoT T n t2 = t3 := by unfold tsoT; rw [if_pos ⟨z2, by omega, by omega⟩, et3]
  have e9 : t6 = y9 T n A yn (adv T n s) := by unfold y9 y6 y4; rw [← et1, eyc, eso, ← et4, ← et5, et6]
  by_cases z6 : t6.1 = 0
  · have f5 := tkw_0 (by rw [et6] at z6; exact z6)
    have f4 := tnuT_0 (by rw [et5] at f5; exact f5.1)
    have g4 := (tkw_0 f4.1.1).1
    have f3 := tnuT_0 (by rw [et4] at g4; exact g4)
    have v4 := hx_151 g4
    have v5 := hx_170 f5.1
    have r3 := f3.2.1
    have r4 := f4.2.1
    have yi : YI T n t6 yn so x_151 x_170 M J 0 V7 K7 := by
      refine ⟨fl7, kn7, ?_, ?_, ?_, fun c q1 q2 q3 => ?_, fun j q => ?_, fun j q => by omega, fun j q1 q2 => ?_⟩
      · rw [da7.1 103 (by decide) (by decide), upc (by decide), upc (by decide)]
      · rw [da7.1 104 (by decide) (by decide), upc (by decide)]; exact upx (upc (by decide))
      · rw [da7.1 105 (by decide) (by decide)]; exact upx ((upc (by decide)).trans (upc (by decide)))
      · rw [da7.1 c (by omega) q2, upc (by omega), upc (by omega), upc (by omega)]
      · rw [da7.1 107 (by decide) (by decide), upc (by decide), upc (by decide), upc (by decide)]
      · rw [da7.2 j q1 q2, upc (by decide), upc (by decide), upc (by decide)]
    have eA : yaA T n s A yn = upI (upI (lyA T n t6 (upI (upI (upI A (10 + 2 * yn) 1 (nI so)) (10 + 2 * yn) 2 x_151) (10 + 2 * yn) 3 x_170) (10 + 2 * yn) (laK T n t6 4 1)) 0 1 (nI (yn + 1))) 26 yn (nI (adv T n s).2.2) := by
      unfold yaA
      rw [← e9, show kw T n (yC T n A yn (adv T n s)).2.2 - 8 = so by rw [← et1, eyc]; omega, v4, v5, show y4 T n A yn (adv T n s) = tkw T n 12 t3 by unfold y4; rw [← et1, eyc, eso], show y6 T n A yn (adv T n s) = tkw T n 13 t4 by unfold y6 y4; rw [← et1, eyc, eso, ← et4]]
    rw [et1] at hc fr hw p1n
    have p31 : (adv T n s).2.2 < 2 ^ 31 := by omega
    have i2 : Ib x_151 0 99 := by rw [v4]; exact ibn_ (by omega) (by omega) (by omega)
    have i3 : Ib x_170 0 99 := by rw [v5]; exact ibn_ (by omega) (by omega) (by omega)
    have pm0 := pm7
    refine x_iload (q := 189) dX12_readYard_187 rfl rfl ?_
    refine x_if_eq (t := 273) (q := 192) dX12_readYard_189 (by decide) rfl (fun c189 => absurd c189 ((by decide))) (fun c189 => ?_)
    refine x_aload_n (q := 193) dX12_readYard_192 rfl rfl ?_
    refine q_gi (K := 2) (q := 196) dX12_readYard_193 rfl cl_12 (by decide) tw_1084 rfl rfl ?_
    refine x_if_ne (t := 273) (q := 199) dX12_readYard_196 (by decide) rfl (fun c196 => absurd c196 (fun z => z (by rw [pm7.2.2.1, z6]; rfl))) (fun c196 => ?_)
    refine l_yB r hD hy7 e9 (k := 0) (by omega) pm7 yi _ _ (fun z => ?_) (fun Y L x7 p y z h3 => ?_) (fun Y L x7 p y z h3 => ?_)
    · exact laK_n (fun w => z w.1) _
    · have hl3 : laK T n t6 4 1 = 0 + 1 := laK_n (fun w => h3 w.2) _
      rw [hl3] at eA
      exact l_yX r hD hy7 e9 (by omega) (by omega) p y z hl3 _ x7 hw (by omega) i2 i3 hc fr eA p31 (ly_w2 _ z)
    · exact l_yH r hD hy7 e9 _ hw (by omega) i2 i3 hc fr eA p31 4 1 Y L x7 rfl (by omega) p y z h3 rfl
  · refine x_iload (q := 189) dX12_readYard_187 rfl rfl ?_
    refine x_if_eq (t := 273) (q := 192) dX12_readYard_189 (by decide) rfl (fun c189 => absurd c189 ((by decide))) (fun c189 => ?_)
    refine x_aload_n (q := 193) dX12_readYard_192 rfl rfl ?_
    refine q_gi (K := 2) (q := 196) dX12_readYard_193 rfl cl_12 (by decide) tw_1084 rfl rfl ?_
    refine x_if_ne (t := 273) (q := 199) dX12_readYard_196 (by decide) rfl (fun c196 => ?_) (fun c196 => absurd c196 (fun z => z6 (f_0 pm7.2.2.1 pm7.2.2.2.2.2.1 z)))
    refine x_aload_n (q := 274) dX12_readYard_273 rfl rfl ?_
    refine q_gi (K := 2) (q := 277) dX12_readYard_274 rfl cl_12 (by decide) tw_1084 rfl rfl ?_
    refine x_if_le (t := 281) (q := 280) dX12_readYard_277 (by decide) rfl (fun c277 => absurd c277 (fun z => z6 ((f_le pm7.2.2.1 pm7.2.2.2.2.2.1).mp z))) (fun c277 => ?_)
    refine q_vret dX12_readYard_280 rfl ?_
    have hP := ya_f (T := T) (n := n) (A := A) (yn := yn) (s := s) (u := t6) z6 (by rw [← e9]) (by rw [← e9]) (by rw [← e9]; exact pm7.2.2.2.2.1)
    exact ⟨rfl, fl7, rfl, Or.inl ⟨PM_p pm7 z6 hP.1 hP.2.1 hP.2.2, fun z => absurd (hP.1.symm.trans z) z6⟩⟩
set_option maxRecDepth 100000 in
theorem l_y47_0 {T : Nat → Nat} {n : Nat} (r : MR) {M : MI} {J : MJ} {A : MI} {yn wn hn sn : Nat} (hD : MD T n A yn wn hn sn M J) (hy7 : yn < 8) {s : Nat × Nat × Nat} {V : MI} {K : MJ} {t1 t2 : Nat × Nat × Nat} (et1 : t1 = adv T n s) (et2 : t2 = adv T n t1) (hc : naC T n t1) (hnf : ¬ nf T n A (w5 T n t1.2.2) yn 0 < 8) (pm0 : PM T n t2 V K) (fl0 : FL M J V K) (da0 : DA M V) (kn0 : ∀ i, K 102 i = J 102 i) (p1n : t1.2.2 ≤ n) {w : Int64} (hw : w = lN (w8 T n t1.2.2)) (hso : kw T n t2.2.2 = 8) : Wq MX12_readYard 47 [some (.ref 100), some (.long w), none, none, none, none, none] [] V r K (RMY T n A yn wn hn sn s M J r) := by
  obtain ⟨⟨k1, k5, k9, k12⟩, ⟨y8, w16, h12, s7⟩, ⟨m33, m34, m35, m36⟩, hMN, hMy, hMh, hMs, hMw, hMo⟩ := id hD
  have hc0 : V 100 33 = nI yn := (da0.2 33 (by decide) (by decide)).trans m33
  have z2 : t2.1 = 0 := by rw [et2]; exact hc.1
  have eyc : yC T n A yn t1 = t2 := by
    unfold yC
    rw [if_neg (fun z => hnf (of_decide_eq_true z)), show tnaT T n t1 = adv T n t1 from if_pos hc, et2]
  have hn17 := pm0.1.1
  have fr : ∀ y, y < yn → ¬ NM T n A y = w5 T n t1.2.2 := fun y hy e => by
    rcases nf_le (T := T) (n := n) (A := A) (w := w5 T n t1.2.2) yn 0 (by omega) with q | q
    · exact hnf (by omega)
    · exact q.2 y (Nat.zero_le _) (by omega) e
  refine x_aload_n (q := 48) dX12_readYard_47 rfl rfl ?_
  refine x_ldc2 (v := 444300620659) (q := 51) dX12_readYard_48 rfl tw_1386 ?_
  refine q_callV (ci := 12) (N := 79) (T := TX12) (As := [.long 444300620659]) (rest := []) (q := 54) dX12_readYard_51 rfl okX12_isWord tw_1359 rfl rfl (c_isW_g r pm0 z2 (i := 8) (by decide) hso) rfl rfl (Nat.le_of_ble_eq_true rfl) ⟨by decide, by decide⟩ ⟨rfl, rfl⟩ (fun rv_ I_ r_ J_ hv_ => ?_)
  obtain ⟨a1_, a2_, a3_, a4_⟩ := hv_
  rw [a1_, a2_, a3_, a4_]
  show Wq MX12_readYard 54 [some (.ref 100), some (.long w), none, none, none, none, none] [.int 1] V r K _
  refine x_if_eq (t := 61) (q := 57) dX12_readYard_54 (by decide) rfl (fun c54 => absurd c54 ((by decide))) (fun c54 => ?_)
  refine x_iconst (0) (q := 58) dX12_readYard_57 rfl (by decide) ?_
  refine x_goto (t := 104) dX12_readYard_58 (by decide) ?_
  refine x_istore_n (L2 := [some (.ref 100), some (.long w), none, some (.int 0), none, none, none]) (q := 105) dX12_readYard_104 rfl (by decide) rfl rfl ?_
  refine x_iload_n (q := 106) dX12_readYard_105 rfl rfl ?_
  refine x_if_ge (t := 114) (q := 109) dX12_readYard_106 (by decide) rfl (fun c106 => ?_) (fun c106 => absurd c106 ((by decide)))
  refine x_aload_n (q := 115) dX12_readYard_114 rfl rfl ?_
  refine q_gi (K := 2) (q := 118) dX12_readYard_115 rfl cl_12 (by decide) tw_1084 rfl rfl ?_
  refine x_if_le (t := 122) (q := 121) dX12_readYard_118 (by decide) rfl (fun c118 => ?_) (fun c118 => absurd c118 (fun z => z ((f_le pm0.2.2.1 pm0.2.2.2.2.2.1).mpr z2)))
  exact l_y122 r hD hy7 et1 et2 hc hnf pm0 fl0 da0 kn0 p1n hw (so := 0) (by decide) hso
set_option maxRecDepth 100000 in
theorem l_y47_1 {T : Nat → Nat} {n : Nat} (r : MR) {M : MI} {J : MJ} {A : MI} {yn wn hn sn : Nat} (hD : MD T n A yn wn hn sn M J) (hy7 : yn < 8) {s : Nat × Nat × Nat} {V : MI} {K : MJ} {t1 t2 : Nat × Nat × Nat} (et1 : t1 = adv T n s) (et2 : t2 = adv T n t1) (hc : naC T n t1) (hnf : ¬ nf T n A (w5 T n t1.2.2) yn 0 < 8) (pm0 : PM T n t2 V K) (fl0 : FL M J V K) (da0 : DA M V) (kn0 : ∀ i, K 102 i = J 102 i) (p1n : t1.2.2 ≤ n) {w : Int64} (hw : w = lN (w8 T n t1.2.2)) (hso : kw T n t2.2.2 = 9) : Wq MX12_readYard 47 [some (.ref 100), some (.long w), none, none, none, none, none] [] V r K (RMY T n A yn wn hn sn s M J r) := by
  obtain ⟨⟨k1, k5, k9, k12⟩, ⟨y8, w16, h12, s7⟩, ⟨m33, m34, m35, m36⟩, hMN, hMy, hMh, hMs, hMw, hMo⟩ := id hD
  have hc0 : V 100 33 = nI yn := (da0.2 33 (by decide) (by decide)).trans m33
  have z2 : t2.1 = 0 := by rw [et2]; exact hc.1
  have eyc : yC T n A yn t1 = t2 := by
    unfold yC
    rw [if_neg (fun z => hnf (of_decide_eq_true z)), show tnaT T n t1 = adv T n t1 from if_pos hc, et2]
  have hn17 := pm0.1.1
  have fr : ∀ y, y < yn → ¬ NM T n A y = w5 T n t1.2.2 := fun y hy e => by
    rcases nf_le (T := T) (n := n) (A := A) (w := w5 T n t1.2.2) yn 0 (by omega) with q | q
    · exact hnf (by omega)
    · exact q.2 y (Nat.zero_le _) (by omega) e
  refine x_aload_n (q := 48) dX12_readYard_47 rfl rfl ?_
  refine x_ldc2 (v := 444300620659) (q := 51) dX12_readYard_48 rfl tw_1386 ?_
  refine q_callV (ci := 12) (N := 79) (T := TX12) (As := [.long 444300620659]) (rest := []) (q := 54) dX12_readYard_51 rfl okX12_isWord tw_1359 rfl rfl (c_isW_b r pm0 z2 (i := 8) (by decide) (by omega)) rfl rfl (Nat.le_of_ble_eq_true rfl) ⟨by decide, by decide⟩ ⟨rfl, rfl⟩ (fun rv_ I_ r_ J_ hv_ => ?_)
  obtain ⟨a1_, a2_, a3_, a4_⟩ := hv_
  rw [a1_, a2_, a3_, a4_]
  show Wq MX12_readYard 54 [some (.ref 100), some (.long w), none, none, none, none, none] [.int 0] V r K _
  refine x_if_eq (t := 61) (q := 57) dX12_readYard_54 (by decide) rfl (fun c54 => ?_) (fun c54 => absurd c54 ((by decide)))
  refine x_aload_n (q := 62) dX12_readYard_61 rfl rfl ?_
  refine x_ldc2 (v := 1919902052) (q := 65) dX12_readYard_62 rfl tw_1387 ?_
  refine q_callV (ci := 12) (N := 79) (T := TX12) (As := [.long 1919902052]) (rest := []) (q := 68) dX12_readYard_65 rfl okX12_isWord tw_1359 rfl rfl (c_isW_g r pm0 z2 (i := 9) (by decide) hso) rfl rfl (Nat.le_of_ble_eq_true rfl) ⟨by decide, by decide⟩ ⟨rfl, rfl⟩ (fun rv_ I_ r_ J_ hv_ => ?_)
  obtain ⟨a1_, a2_, a3_, a4_⟩ := hv_
  rw [a1_, a2_, a3_, a4_]
  show Wq MX12_readYard 68 [some (.ref 100), some (.long w), none, none, none, none, none] [.int 1] V r K _
  refine x_if_eq (t := 75) (q := 71) dX12_readYard_68 (by decide) rfl (fun c68 => absurd c68 ((by decide))) (fun c68 => ?_)
  refine x_iconst (1) (q := 72) dX12_readYard_71 rfl (by decide) ?_
  refine x_goto (t := 104) dX12_readYard_72 (by decide) ?_
  refine x_istore_n (L2 := [some (.ref 100), some (.long w), none, some (.int 1), none, none, none]) (q := 105) dX12_readYard_104 rfl (by decide) rfl rfl ?_
  refine x_iload_n (q := 106) dX12_readYard_105 rfl rfl ?_
  refine x_if_ge (t := 114) (q := 109) dX12_readYard_106 (by decide) rfl (fun c106 => ?_) (fun c106 => absurd c106 ((by decide)))
  refine x_aload_n (q := 115) dX12_readYard_114 rfl rfl ?_
  refine q_gi (K := 2) (q := 118) dX12_readYard_115 rfl cl_12 (by decide) tw_1084 rfl rfl ?_
  refine x_if_le (t := 122) (q := 121) dX12_readYard_118 (by decide) rfl (fun c118 => ?_) (fun c118 => absurd c118 (fun z => z ((f_le pm0.2.2.1 pm0.2.2.2.2.2.1).mpr z2)))
  exact l_y122 r hD hy7 et1 et2 hc hnf pm0 fl0 da0 kn0 p1n hw (so := 1) (by decide) hso
set_option maxRecDepth 100000 in
theorem l_y47_2 {T : Nat → Nat} {n : Nat} (r : MR) {M : MI} {J : MJ} {A : MI} {yn wn hn sn : Nat} (hD : MD T n A yn wn hn sn M J) (hy7 : yn < 8) {s : Nat × Nat × Nat} {V : MI} {K : MJ} {t1 t2 : Nat × Nat × Nat} (et1 : t1 = adv T n s) (et2 : t2 = adv T n t1) (hc : naC T n t1) (hnf : ¬ nf T n A (w5 T n t1.2.2) yn 0 < 8) (pm0 : PM T n t2 V K) (fl0 : FL M J V K) (da0 : DA M V) (kn0 : ∀ i, K 102 i = J 102 i) (p1n : t1.2.2 ≤ n) {w : Int64} (hw : w = lN (w8 T n t1.2.2)) (hso : kw T n t2.2.2 = 10) : Wq MX12_readYard 47 [some (.ref 100), some (.long w), none, none, none, none, none] [] V r K (RMY T n A yn wn hn sn s M J r) := by
  obtain ⟨⟨k1, k5, k9, k12⟩, ⟨y8, w16, h12, s7⟩, ⟨m33, m34, m35, m36⟩, hMN, hMy, hMh, hMs, hMw, hMo⟩ := id hD
  have hc0 : V 100 33 = nI yn := (da0.2 33 (by decide) (by decide)).trans m33
  have z2 : t2.1 = 0 := by rw [et2]; exact hc.1
  have eyc : yC T n A yn t1 = t2 := by
    unfold yC
    rw [if_neg (fun z => hnf (of_decide_eq_true z)), show tnaT T n t1 = adv T n t1 from if_pos hc, et2]
  have hn17 := pm0.1.1
  have fr : ∀ y, y < yn → ¬ NM T n A y = w5 T n t1.2.2 := fun y hy e => by
    rcases nf_le (T := T) (n := n) (A := A) (w := w5 T n t1.2.2) yn 0 (by omega) with q | q
    · exact hnf (by omega)
    · exact q.2 y (Nat.zero_le _) (by omega) e
  refine x_aload_n (q := 48) dX12_readYard_47 rfl rfl ?_
  refine x_ldc2 (v := 444300620659) (q := 51) dX12_readYard_48 rfl tw_1386 ?_
  refine q_callV (ci := 12) (N := 79) (T := TX12) (As := [.long 444300620659]) (rest := []) (q := 54) dX12_readYard_51 rfl okX12_isWord tw_1359 rfl rfl (c_isW_b r pm0 z2 (i := 8) (by decide) (by omega)) rfl rfl (Nat.le_of_ble_eq_true rfl) ⟨by decide, by decide⟩ ⟨rfl, rfl⟩ (fun rv_ I_ r_ J_ hv_ => ?_)
  obtain ⟨a1_, a2_, a3_, a4_⟩ := hv_
  rw [a1_, a2_, a3_, a4_]
  show Wq MX12_readYard 54 [some (.ref 100), some (.long w), none, none, none, none, none] [.int 0] V r K _
  refine x_if_eq (t := 61) (q := 57) dX12_readYard_54 (by decide) rfl (fun c54 => ?_) (fun c54 => absurd c54 ((by decide)))
  refine x_aload_n (q := 62) dX12_readYard_61 rfl rfl ?_
  refine x_ldc2 (v := 1919902052) (q := 65) dX12_readYard_62 rfl tw_1387 ?_
  refine q_callV (ci := 12) (N := 79) (T := TX12) (As := [.long 1919902052]) (rest := []) (q := 68) dX12_readYard_65 rfl okX12_isWord tw_1359 rfl rfl (c_isW_b r pm0 z2 (i := 9) (by decide) (by omega)) rfl rfl (Nat.le_of_ble_eq_true rfl) ⟨by decide, by decide⟩ ⟨rfl, rfl⟩ (fun rv_ I_ r_ J_ hv_ => ?_)
  obtain ⟨a1_, a2_, a3_, a4_⟩ := hv_
  rw [a1_, a2_, a3_, a4_]
  show Wq MX12_readYard 68 [some (.ref 100), some (.long w), none, none, none, none, none] [.int 0] V r K _
  refine x_if_eq (t := 75) (q := 71) dX12_readYard_68 (by decide) rfl (fun c68 => ?_) (fun c68 => absurd c68 ((by decide)))
  refine x_aload_n (q := 76) dX12_readYard_75 rfl rfl ?_
  refine x_ldc2 (v := 108243533981541) (q := 79) dX12_readYard_76 rfl tw_1388 ?_
  refine q_callV (ci := 12) (N := 79) (T := TX12) (As := [.long 108243533981541]) (rest := []) (q := 82) dX12_readYard_79 rfl okX12_isWord tw_1359 rfl rfl (c_isW_g r pm0 z2 (i := 10) (by decide) hso) rfl rfl (Nat.le_of_ble_eq_true rfl) ⟨by decide, by decide⟩ ⟨rfl, rfl⟩ (fun rv_ I_ r_ J_ hv_ => ?_)
  obtain ⟨a1_, a2_, a3_, a4_⟩ := hv_
  rw [a1_, a2_, a3_, a4_]
  show Wq MX12_readYard 82 [some (.ref 100), some (.long w), none, none, none, none, none] [.int 1] V r K _
  refine x_if_eq (t := 89) (q := 85) dX12_readYard_82 (by decide) rfl (fun c82 => absurd c82 ((by decide))) (fun c82 => ?_)
  refine x_iconst (2) (q := 86) dX12_readYard_85 rfl (by decide) ?_
  refine x_goto (t := 104) dX12_readYard_86 (by decide) ?_
  refine x_istore_n (L2 := [some (.ref 100), some (.long w), none, some (.int 2), none, none, none]) (q := 105) dX12_readYard_104 rfl (by decide) rfl rfl ?_
  refine x_iload_n (q := 106) dX12_readYard_105 rfl rfl ?_
  refine x_if_ge (t := 114) (q := 109) dX12_readYard_106 (by decide) rfl (fun c106 => ?_) (fun c106 => absurd c106 ((by decide)))
  refine x_aload_n (q := 115) dX12_readYard_114 rfl rfl ?_
  refine q_gi (K := 2) (q := 118) dX12_readYard_115 rfl cl_12 (by decide) tw_1084 rfl rfl ?_
  refine x_if_le (t := 122) (q := 121) dX12_readYard_118 (by decide) rfl (fun c118 => ?_) (fun c118 => absurd c118 (fun z => z ((f_le pm0.2.2.1 pm0.2.2.2.2.2.1).mpr z2)))
  exact l_y122 r hD hy7 et1 et2 hc hnf pm0 fl0 da0 kn0 p1n hw (so := 2) (by decide) hso
set_option maxRecDepth 100000 in
theorem l_y47_3 {T : Nat → Nat} {n : Nat} (r : MR) {M : MI} {J : MJ} {A : MI} {yn wn hn sn : Nat} (hD : MD T n A yn wn hn sn M J) (hy7 : yn < 8) {s : Nat × Nat × Nat} {V : MI} {K : MJ} {t1 t2 : Nat × Nat × Nat} (et1 : t1 = adv T n s) (et2 : t2 = adv T n t1) (hc : naC T n t1) (hnf : ¬ nf T n A (w5 T n t1.2.2) yn 0 < 8) (pm0 : PM T n t2 V K) (fl0 : FL M J V K) (da0 : DA M V) (kn0 : ∀ i, K 102 i = J 102 i) (p1n : t1.2.2 ≤ n) {w : Int64} (hw : w = lN (w8 T n t1.2.2)) (hso : kw T n t2.2.2 = 11) : Wq MX12_readYard 47 [some (.ref 100), some (.long w), none, none, none, none, none] [] V r K (RMY T n A yn wn hn sn s M J r) := by
  obtain ⟨⟨k1, k5, k9, k12⟩, ⟨y8, w16, h12, s7⟩, ⟨m33, m34, m35, m36⟩, hMN, hMy, hMh, hMs, hMw, hMo⟩ := id hD
  have hc0 : V 100 33 = nI yn := (da0.2 33 (by decide) (by decide)).trans m33
  have z2 : t2.1 = 0 := by rw [et2]; exact hc.1
  have eyc : yC T n A yn t1 = t2 := by
    unfold yC
    rw [if_neg (fun z => hnf (of_decide_eq_true z)), show tnaT T n t1 = adv T n t1 from if_pos hc, et2]
  have hn17 := pm0.1.1
  have fr : ∀ y, y < yn → ¬ NM T n A y = w5 T n t1.2.2 := fun y hy e => by
    rcases nf_le (T := T) (n := n) (A := A) (w := w5 T n t1.2.2) yn 0 (by omega) with q | q
    · exact hnf (by omega)
    · exact q.2 y (Nat.zero_le _) (by omega) e
  refine x_aload_n (q := 48) dX12_readYard_47 rfl rfl ?_
  refine x_ldc2 (v := 444300620659) (q := 51) dX12_readYard_48 rfl tw_1386 ?_
  refine q_callV (ci := 12) (N := 79) (T := TX12) (As := [.long 444300620659]) (rest := []) (q := 54) dX12_readYard_51 rfl okX12_isWord tw_1359 rfl rfl (c_isW_b r pm0 z2 (i := 8) (by decide) (by omega)) rfl rfl (Nat.le_of_ble_eq_true rfl) ⟨by decide, by decide⟩ ⟨rfl, rfl⟩ (fun rv_ I_ r_ J_ hv_ => ?_)
  obtain ⟨a1_, a2_, a3_, a4_⟩ := hv_
  rw [a1_, a2_, a3_, a4_]
  show Wq MX12_readYard 54 [some (.ref 100), some (.long w), none, none, none, none, none] [.int 0] V r K _
  refine x_if_eq (t := 61) (q := 57) dX12_readYard_54 (by decide) rfl (fun c54 => ?_) (fun c54 => absurd c54 ((by decide)))
  refine x_aload_n (q := 62) dX12_readYard_61 rfl rfl ?_
  refine x_ldc2 (v := 1919902052) (q := 65) dX12_readYard_62 rfl tw_1387 ?_
  refine q_callV (ci := 12) (N := 79) (T := TX12) (As := [.long 1919902052]) (rest := []) (q := 68) dX12_readYard_65 rfl okX12_isWord tw_1359 rfl rfl (c_isW_b r pm0 z2 (i := 9) (by decide) (by omega)) rfl rfl (Nat.le_of_ble_eq_true rfl) ⟨by decide, by decide⟩ ⟨rfl, rfl⟩ (fun rv_ I_ r_ J_ hv_ => ?_)
  obtain ⟨a1_, a2_, a3_, a4_⟩ := hv_
  rw [a1_, a2_, a3_, a4_]
  show Wq MX12_readYard 68 [some (.ref 100), some (.long w), none, none, none, none, none] [.int 0] V r K _
  refine x_if_eq (t := 75) (q := 71) dX12_readYard_68 (by decide) rfl (fun c68 => ?_) (fun c68 => absurd c68 ((by decide)))
  refine x_aload_n (q := 76) dX12_readYard_75 rfl rfl ?_
  refine x_ldc2 (v := 108243533981541) (q := 79) dX12_readYard_76 rfl tw_1388 ?_
  refine q_callV (ci := 12) (N := 79) (T := TX12) (As := [.long 108243533981541]) (rest := []) (q := 82) dX12_readYard_79 rfl okX12_isWord tw_1359 rfl rfl (c_isW_b r pm0 z2 (i := 10) (by decide) (by omega)) rfl rfl (Nat.le_of_ble_eq_true rfl) ⟨by decide, by decide⟩ ⟨rfl, rfl⟩ (fun rv_ I_ r_ J_ hv_ => ?_)
  obtain ⟨a1_, a2_, a3_, a4_⟩ := hv_
  rw [a1_, a2_, a3_, a4_]
  show Wq MX12_readYard 82 [some (.ref 100), some (.long w), none, none, none, none, none] [.int 0] V r K _
  refine x_if_eq (t := 89) (q := 85) dX12_readYard_82 (by decide) rfl (fun c82 => ?_) (fun c82 => absurd c82 ((by decide)))
  refine x_aload_n (q := 90) dX12_readYard_89 rfl rfl ?_
  refine x_ldc2 (v := 1919905638) (q := 93) dX12_readYard_90 rfl tw_1389 ?_
  refine q_callV (ci := 12) (N := 79) (T := TX12) (As := [.long 1919905638]) (rest := []) (q := 96) dX12_readYard_93 rfl okX12_isWord tw_1359 rfl rfl (c_isW_g r pm0 z2 (i := 11) (by decide) hso) rfl rfl (Nat.le_of_ble_eq_true rfl) ⟨by decide, by decide⟩ ⟨rfl, rfl⟩ (fun rv_ I_ r_ J_ hv_ => ?_)
  obtain ⟨a1_, a2_, a3_, a4_⟩ := hv_
  rw [a1_, a2_, a3_, a4_]
  show Wq MX12_readYard 96 [some (.ref 100), some (.long w), none, none, none, none, none] [.int 1] V r K _
  refine x_if_eq (t := 103) (q := 99) dX12_readYard_96 (by decide) rfl (fun c96 => absurd c96 ((by decide))) (fun c96 => ?_)
  refine x_iconst (3) (q := 100) dX12_readYard_99 rfl (by decide) ?_
  refine x_goto (t := 104) dX12_readYard_100 (by decide) ?_
  refine x_istore_n (L2 := [some (.ref 100), some (.long w), none, some (.int 3), none, none, none]) (q := 105) dX12_readYard_104 rfl (by decide) rfl rfl ?_
  refine x_iload_n (q := 106) dX12_readYard_105 rfl rfl ?_
  refine x_if_ge (t := 114) (q := 109) dX12_readYard_106 (by decide) rfl (fun c106 => ?_) (fun c106 => absurd c106 ((by decide)))
  refine x_aload_n (q := 115) dX12_readYard_114 rfl rfl ?_
  refine q_gi (K := 2) (q := 118) dX12_readYard_115 rfl cl_12 (by decide) tw_1084 rfl rfl ?_
  refine x_if_le (t := 122) (q := 121) dX12_readYard_118 (by decide) rfl (fun c118 => ?_) (fun c118 => absurd c118 (fun z => z ((f_le pm0.2.2.1 pm0.2.2.2.2.2.1).mpr z2)))
  exact l_y122 r hD hy7 et1 et2 hc hnf pm0 fl0 da0 kn0 p1n hw (so := 3) (by decide) hso
set_option maxRecDepth 100000 in
theorem l_y47_4 {T : Nat → Nat} {n : Nat} (r : MR) {M : MI} {J : MJ} {A : MI} {yn wn hn sn : Nat} (hD : MD T n A yn wn hn sn M J) (hy7 : yn < 8) {s : Nat × Nat × Nat} {V : MI} {K : MJ} {t1 t2 : Nat × Nat × Nat} (et1 : t1 = adv T n s) (et2 : t2 = adv T n t1) (hc : naC T n t1) (hnf : ¬ nf T n A (w5 T n t1.2.2) yn 0 < 8) (pm0 : PM T n t2 V K) (fl0 : FL M J V K) (da0 : DA M V) (kn0 : ∀ i, K 102 i = J 102 i) (p1n : t1.2.2 ≤ n) {w : Int64} (hw : w = lN (w8 T n t1.2.2)) (hso : ¬ (8 ≤ kw T n t2.2.2 ∧ kw T n t2.2.2 ≤ 11)) : Wq MX12_readYard 47 [some (.ref 100), some (.long w), none, none, none, none, none] [] V r K (RMY T n A yn wn hn sn s M J r) := by
  obtain ⟨⟨k1, k5, k9, k12⟩, ⟨y8, w16, h12, s7⟩, ⟨m33, m34, m35, m36⟩, hMN, hMy, hMh, hMs, hMw, hMo⟩ := id hD
  have hc0 : V 100 33 = nI yn := (da0.2 33 (by decide) (by decide)).trans m33
  have z2 : t2.1 = 0 := by rw [et2]; exact hc.1
  have eyc : yC T n A yn t1 = t2 := by
    unfold yC
    rw [if_neg (fun z => hnf (of_decide_eq_true z)), show tnaT T n t1 = adv T n t1 from if_pos hc, et2]
  have hn17 := pm0.1.1
  have fr : ∀ y, y < yn → ¬ NM T n A y = w5 T n t1.2.2 := fun y hy e => by
    rcases nf_le (T := T) (n := n) (A := A) (w := w5 T n t1.2.2) yn 0 (by omega) with q | q
    · exact hnf (by omega)
    · exact q.2 y (Nat.zero_le _) (by omega) e
  refine x_aload_n (q := 48) dX12_readYard_47 rfl rfl ?_
  refine x_ldc2 (v := 444300620659) (q := 51) dX12_readYard_48 rfl tw_1386 ?_
  refine q_callV (ci := 12) (N := 79) (T := TX12) (As := [.long 444300620659]) (rest := []) (q := 54) dX12_readYard_51 rfl okX12_isWord tw_1359 rfl rfl (c_isW_b r pm0 z2 (i := 8) (by decide) (by omega)) rfl rfl (Nat.le_of_ble_eq_true rfl) ⟨by decide, by decide⟩ ⟨rfl, rfl⟩ (fun rv_ I_ r_ J_ hv_ => ?_)
  obtain ⟨a1_, a2_, a3_, a4_⟩ := hv_
  rw [a1_, a2_, a3_, a4_]
  show Wq MX12_readYard 54 [some (.ref 100), some (.long w), none, none, none, none, none] [.int 0] V r K _
  refine x_if_eq (t := 61) (q := 57) dX12_readYard_54 (by decide) rfl (fun c54 => ?_) (fun c54 => absurd c54 ((by decide)))
  refine x_aload_n (q := 62) dX12_readYard_61 rfl rfl ?_
  refine x_ldc2 (v := 1919902052) (q := 65) dX12_readYard_62 rfl tw_1387 ?_
  refine q_callV (ci := 12) (N := 79) (T := TX12) (As := [.long 1919902052]) (rest := []) (q := 68) dX12_readYard_65 rfl okX12_isWord tw_1359 rfl rfl (c_isW_b r pm0 z2 (i := 9) (by decide) (by omega)) rfl rfl (Nat.le_of_ble_eq_true rfl) ⟨by decide, by decide⟩ ⟨rfl, rfl⟩ (fun rv_ I_ r_ J_ hv_ => ?_)
  obtain ⟨a1_, a2_, a3_, a4_⟩ := hv_
  rw [a1_, a2_, a3_, a4_]
  show Wq MX12_readYard 68 [some (.ref 100), some (.long w), none, none, none, none, none] [.int 0] V r K _
  refine x_if_eq (t := 75) (q := 71) dX12_readYard_68 (by decide) rfl (fun c68 => ?_) (fun c68 => absurd c68 ((by decide)))
  refine x_aload_n (q := 76) dX12_readYard_75 rfl rfl ?_
  refine x_ldc2 (v := 108243533981541) (q := 79) dX12_readYard_76 rfl tw_1388 ?_
  refine q_callV (ci := 12) (N := 79) (T := TX12) (As := [.long 108243533981541]) (rest := []) (q := 82) dX12_readYard_79 rfl okX12_isWord tw_1359 rfl rfl (c_isW_b r pm0 z2 (i := 10) (by decide) (by omega)) rfl rfl (Nat.le_of_ble_eq_true rfl) ⟨by decide, by decide⟩ ⟨rfl, rfl⟩ (fun rv_ I_ r_ J_ hv_ => ?_)
  obtain ⟨a1_, a2_, a3_, a4_⟩ := hv_
  rw [a1_, a2_, a3_, a4_]
  show Wq MX12_readYard 82 [some (.ref 100), some (.long w), none, none, none, none, none] [.int 0] V r K _
  refine x_if_eq (t := 89) (q := 85) dX12_readYard_82 (by decide) rfl (fun c82 => ?_) (fun c82 => absurd c82 ((by decide)))
  refine x_aload_n (q := 90) dX12_readYard_89 rfl rfl ?_
  refine x_ldc2 (v := 1919905638) (q := 93) dX12_readYard_90 rfl tw_1389 ?_
  refine q_callV (ci := 12) (N := 79) (T := TX12) (As := [.long 1919905638]) (rest := []) (q := 96) dX12_readYard_93 rfl okX12_isWord tw_1359 rfl rfl (c_isW_b r pm0 z2 (i := 11) (by decide) (by omega)) rfl rfl (Nat.le_of_ble_eq_true rfl) ⟨by decide, by decide⟩ ⟨rfl, rfl⟩ (fun rv_ I_ r_ J_ hv_ => ?_)
  obtain ⟨a1_, a2_, a3_, a4_⟩ := hv_
  rw [a1_, a2_, a3_, a4_]
  show Wq MX12_readYard 96 [some (.ref 100), some (.long w), none, none, none, none, none] [.int 0] V r K _
  refine x_if_eq (t := 103) (q := 99) dX12_readYard_96 (by decide) rfl (fun c96 => ?_) (fun c96 => absurd c96 ((by decide)))
  refine x_iconst (-1) (q := 104) dX12_readYard_103 rfl (by decide) ?_
  refine x_istore_n (L2 := [some (.ref 100), some (.long w), none, some (.int (-1)), none, none, none]) (q := 105) dX12_readYard_104 rfl (by decide) rfl rfl ?_
  refine x_iload_n (q := 106) dX12_readYard_105 rfl rfl ?_
  refine x_if_ge (t := 114) (q := 109) dX12_readYard_106 (by decide) rfl (fun c106 => absurd c106 ((by decide))) (fun c106 => ?_)
  refine x_aload_n (q := 110) dX12_readYard_109 rfl rfl ?_
  refine x_iconst (2) (q := 111) dX12_readYard_110 rfl (by decide) ?_
  refine q_callV (ci := 12) (N := 79) (T := TX12) (As := [.int 2]) (rest := []) (q := 114) dX12_readYard_111 rfl okX12_wrong tw_1390 rfl rfl (c_wr r pm0 (k := 2) (by decide) z2) rfl rfl (Nat.le_of_ble_eq_true rfl) ⟨by decide, by decide⟩ ⟨rfl, rfl⟩ (fun rv_ V1 r_ K1 hv_ => ?_)
  obtain ⟨a1_, pm1, fm1, a3_⟩ := hv_
  rw [a1_, a3_]
  have pm1 : PM T n (rfT T n t2) V1 K1 := pm1
  show Wq MX12_readYard 114 [some (.ref 100), some (.long w), none, some (.int (-1)), none, none, none] [] V1 r K1 _
  refine x_aload_n (q := 115) dX12_readYard_114 rfl rfl ?_
  refine q_gi (K := 2) (q := 118) dX12_readYard_115 rfl cl_12 (by decide) tw_1084 rfl rfl ?_
  refine x_if_le (t := 122) (q := 121) dX12_readYard_118 (by decide) rfl (fun c118 => absurd c118 (fun z => rfT_n ((f_le pm1.2.2.1 pm1.2.2.2.2.2.1).mp z))) (fun c118 => ?_)
  refine q_vret dX12_readYard_121 rfl ?_
  have eso : tsoT T n t2 = rfT T n t2 := by unfold tsoT; rw [if_neg (fun z => hso z.2)]
  have n2 : ¬ (tsoT T n (yC T n A yn t1)).1 = 0 := by rw [eyc, eso]; exact rfT_n
  have e9 : y9 T n A yn (adv T n s) = rfT T n t2 := by rw [← et1, y9_f n2, eyc, eso]
  have hP := ya_f (T := T) (n := n) (A := A) (yn := yn) (s := s) (u := rfT T n t2) rfT_n (by rw [e9]) (by rw [e9]) (by rw [e9]; exact pm1.2.2.2.2.1)
  exact ⟨rfl, fl0.tr fm1.l, rfl, Or.inl ⟨PM_p pm1 rfT_n hP.1 hP.2.1 hP.2.2, fun z => absurd (hP.1.symm.trans z) rfT_n⟩⟩
set_option maxRecDepth 100000 in
theorem l_y4a {T : Nat → Nat} {n : Nat} (r : MR) {M : MI} {J : MJ} {A : MI} {yn wn hn sn : Nat} (hD : MD T n A yn wn hn sn M J) (hy7 : yn < 8) {s : Nat × Nat × Nat} {V : MI} {K : MJ} {t1 : Nat × Nat × Nat} (et1 : t1 = adv T n s) (z1 : t1.1 = 0) (pm0 : PM T n t1 V K) (fl0 : FL M J V K) (da0 : DA M V) (kn0 : ∀ i, K 102 i = J 102 i) (hc : ¬ naC T n t1) : Wq MX12_readYard 4 [some (.ref 100), none, none, none, none, none, none] [] V r K (RMY T n A yn wn hn sn s M J r) := by
  obtain ⟨⟨k1, k5, k9, k12⟩, ⟨y8, w16, h12, s7⟩, ⟨m33, m34, m35, m36⟩, hMN, hMy, hMh, hMs, hMw, hMo⟩ := id hD
  have hy0 : V 100 33 = nI yn := (da0.2 33 (by decide) (by decide)).trans m33
  have hN0 : MN T n A yn K := MN_c hMN rfl kn0
  have eyc : yC T n A yn t1 = rfT T n t1 := by
    unfold yC
    rw [show tnaT T n t1 = rfT T n t1 from if_neg hc, rf_s rfT_n, ite_b]
  have n2 : ¬ (tsoT T n (yC T n A yn t1)).1 = 0 := by rw [eyc, tso_f rfT_n]; exact rfT_n
  have e9 : y9 T n A yn (adv T n s) = rfT T n t1 := by rw [← et1, y9_f n2, eyc, tso_f rfT_n]
  refine x_aload_n (q := 5) dX12_readYard_4 rfl rfl ?_
  refine q_callV (ci := 12) (N := 79) (T := TX12) (As := []) (rest := []) (q := 8) dX12_readYard_5 rfl okX12_isName tw_1367 rfl rfl (c_isN_b r pm0 z1 hc) rfl rfl (Nat.le_of_ble_eq_true rfl) ⟨by decide, by decide⟩ ⟨rfl, rfl⟩ (fun rv_ I_ r_ J_ hv_ => ?_)
  obtain ⟨a1_, a2_, a3_, a4_⟩ := hv_
  rw [a1_, a2_, a3_, a4_]
  show Wq MX12_readYard 8 [some (.ref 100), none, none, none, none, none, none] [.int 0] V r K _
  refine x_if_ne (t := 19) (q := 11) dX12_readYard_8 (by decide) rfl (fun c8 => absurd c8 ((by decide))) (fun c8 => ?_)
  refine x_aload_n (q := 12) dX12_readYard_11 rfl rfl ?_
  refine x_iconst (2) (q := 13) dX12_readYard_12 rfl (by decide) ?_
  refine q_callV (ci := 12) (N := 79) (T := TX12) (As := [.int 2]) (rest := []) (q := 16) dX12_readYard_13 rfl okX12_wrong tw_1390 rfl rfl (c_wr r pm0 (k := 2) (by decide) z1) rfl rfl (Nat.le_of_ble_eq_true rfl) ⟨by decide, by decide⟩ ⟨rfl, rfl⟩ (fun rv_ V1 r_ K1 hv_ => ?_)
  obtain ⟨a1_, pm1, fm1, a3_⟩ := hv_
  rw [a1_, a3_]
  have pm1 : PM T n (rfT T n t1) V1 K1 := pm1
  show Wq MX12_readYard 16 [some (.ref 100), none, none, none, none, none, none] [] V1 r K1 _
  refine x_goto (t := 31) dX12_readYard_16 (by decide) ?_
  refine x_aload_n (q := 32) dX12_readYard_31 rfl rfl ?_
  refine q_gl (K := 9) (q := 35) dX12_readYard_32 rfl cl_12 (by decide) tw_1091 rfl rfl ?_
  refine x_nml (fun v1 ev1 => ?_)
  refine x_lstore_n (L2 := [some (.ref 100), some (.long v1), none, none, none, none, none]) (q := 36) dX12_readYard_35 rfl (by decide) rfl rfl ?_
  refine x_aload_n (q := 37) dX12_readYard_36 rfl rfl ?_
  refine q_gi (K := 2) (q := 40) dX12_readYard_37 rfl cl_12 (by decide) tw_1084 rfl rfl ?_
  refine x_if_ne (t := 47) (q := 43) dX12_readYard_40 (by decide) rfl (fun c40 => ?_) (fun c40 => absurd c40 (fun z => rfT_n (f_0 pm1.2.2.1 pm1.2.2.2.2.2.1 z)))
  exact l_y47f r hD hy7 rfT_n pm1 (fl0.tr fm1.l) (ya_f rfT_n (by rw [e9]) (by rw [e9]) (by rw [e9]; exact pm1.2.2.2.2.1)) _ _ _ _ _
set_option maxRecDepth 100000 in
theorem l_y4b {T : Nat → Nat} {n : Nat} (r : MR) {M : MI} {J : MJ} {A : MI} {yn wn hn sn : Nat} (hD : MD T n A yn wn hn sn M J) (hy7 : yn < 8) {s : Nat × Nat × Nat} {V : MI} {K : MJ} {t1 : Nat × Nat × Nat} (et1 : t1 = adv T n s) (z1 : t1.1 = 0) (pm0 : PM T n t1 V K) (fl0 : FL M J V K) (da0 : DA M V) (kn0 : ∀ i, K 102 i = J 102 i) (hc : naC T n t1) (hnf : nf T n A (w5 T n t1.2.2) yn 0 < 8) : Wq MX12_readYard 4 [some (.ref 100), none, none, none, none, none, none] [] V r K (RMY T n A yn wn hn sn s M J r) := by
  obtain ⟨⟨k1, k5, k9, k12⟩, ⟨y8, w16, h12, s7⟩, ⟨m33, m34, m35, m36⟩, hMN, hMy, hMh, hMs, hMw, hMo⟩ := id hD
  have hy0 : V 100 33 = nI yn := (da0.2 33 (by decide) (by decide)).trans m33
  have hN0 : MN T n A yn K := MN_c hMN rfl kn0
  have hw : K 100 9 = lN (w8 T n t1.2.2) := (pm0.2.2.2.2.2.2 z1).2.2.2.2 hc.2.1
  have fe := fd_e hN0 y8 hc.2.1
  have est : rf (if kd T n t1.2.2 = 1 then 1 else 3) (sk T n t1.2.2) t1 = (3, sk T n t1.2.2, t1.2.2) := by rw [if_neg (fun z => absurd (hc.2.1.symm.trans z) (by decide))]; exact rf_p z1
  have n3 : ¬ ((3, sk T n t1.2.2, t1.2.2) : Nat × Nat × Nat).1 = 0 := show ¬ (3 = 0) by decide
  have eyc : yC T n A yn t1 = (3, sk T n t1.2.2, en T n t1.2.2) := by
    unfold yC
    rw [if_pos (decide_eq_true hnf), show tnaT T n t1 = adv T n t1 from if_pos hc, rf_p (show (adv T n t1).1 = 0 from z1)]; rfl
  have n4 : ¬ ((3, sk T n t1.2.2, en T n t1.2.2) : Nat × Nat × Nat).1 = 0 := show ¬ (3 = 0) by decide
  have n2 : ¬ (tsoT T n (yC T n A yn t1)).1 = 0 := by rw [eyc, tso_f n4]; exact n4
  have e9 : y9 T n A yn (adv T n s) = (3, sk T n t1.2.2, en T n t1.2.2) := by rw [← et1, y9_f n2, eyc, tso_f n4]
  refine x_aload_n (q := 5) dX12_readYard_4 rfl rfl ?_
  refine q_callV (ci := 12) (N := 79) (T := TX12) (As := []) (rest := []) (q := 8) dX12_readYard_5 rfl okX12_isName tw_1367 rfl rfl (c_isN_g r pm0 hc) rfl rfl (Nat.le_of_ble_eq_true rfl) ⟨by decide, by decide⟩ ⟨rfl, rfl⟩ (fun rv_ I_ r_ J_ hv_ => ?_)
  obtain ⟨a1_, a2_, a3_, a4_⟩ := hv_
  rw [a1_, a2_, a3_, a4_]
  show Wq MX12_readYard 8 [some (.ref 100), none, none, none, none, none, none] [.int 1] V r K _
  refine x_if_ne (t := 19) (q := 11) dX12_readYard_8 (by decide) rfl (fun c8 => ?_) (fun c8 => absurd c8 ((by decide)))
  refine x_aload_n (q := 20) dX12_readYard_19 rfl rfl ?_
  refine q_callV (ci := 12) (N := 79) (T := TX12) (As := []) (rest := []) (q := 23) dX12_readYard_20 rfl okX12_find tw_1398 rfl rfl (c_fnd r K hy0 y8) rfl rfl (Nat.le_of_ble_eq_true rfl) ⟨by decide, by decide⟩ ⟨rfl, rfl⟩ (fun rv_ I_ r_ J_ hv_ => ?_)
  obtain ⟨a1_, a2_, a3_, a4_⟩ := hv_
  rw [a1_, a2_, a3_, a4_]
  show Wq MX12_readYard 23 [some (.ref 100), none, none, none, none, none, none] [.int (fdV K (K 100 9) yn)] V r K _
  refine x_if_lt (t := 31) (q := 26) dX12_readYard_23 (by decide) rfl (fun c23 => absurd c23 (fun z => absurd z (by rw [hw, (fe.1 hnf).1]; exact nI_ge0 (by omega)))) (fun c23 => ?_)
  refine x_aload_n (q := 27) dX12_readYard_26 rfl rfl ?_
  refine x_iconst (3) (q := 28) dX12_readYard_27 rfl (by decide) ?_
  refine q_callV (ci := 12) (N := 79) (T := TX12) (As := [.int 3]) (rest := []) (q := 31) dX12_readYard_28 rfl okX12_wrong tw_1390 rfl rfl (c_wr r pm0 (k := 3) (by decide) z1) rfl rfl (Nat.le_of_ble_eq_true rfl) ⟨by decide, by decide⟩ ⟨rfl, rfl⟩ (fun rv_ V1 r_ K1 hv_ => ?_)
  obtain ⟨a1_, pm1, fm1, a3_⟩ := hv_
  rw [a1_, a3_]
  rw [est] at pm1
  show Wq MX12_readYard 31 [some (.ref 100), none, none, none, none, none, none] [] V1 r K1 _
  refine x_aload_n (q := 32) dX12_readYard_31 rfl rfl ?_
  refine q_gl (K := 9) (q := 35) dX12_readYard_32 rfl cl_12 (by decide) tw_1091 rfl rfl ?_
  refine x_nml (fun v1 ev1 => ?_)
  refine x_lstore_n (L2 := [some (.ref 100), some (.long v1), none, none, none, none, none]) (q := 36) dX12_readYard_35 rfl (by decide) rfl rfl ?_
  refine x_aload_n (q := 37) dX12_readYard_36 rfl rfl ?_
  refine q_gi (K := 2) (q := 40) dX12_readYard_37 rfl cl_12 (by decide) tw_1084 rfl rfl ?_
  refine x_if_ne (t := 47) (q := 43) dX12_readYard_40 (by decide) rfl (fun c40 => ?_) (fun c40 => absurd c40 (fun z => n3 (f_0 pm1.2.2.1 pm1.2.2.2.2.2.1 z)))
  exact l_y47f r hD hy7 n3 pm1 (fl0.tr fm1.l) (ya_f n3 (by rw [e9]) (by rw [e9]) (by rw [e9]; exact (en_b pm0.2.2.2.2.1).2)) _ _ _ _ _
set_option maxRecDepth 100000 in
theorem l_y4c {T : Nat → Nat} {n : Nat} (r : MR) {M : MI} {J : MJ} {A : MI} {yn wn hn sn : Nat} (hD : MD T n A yn wn hn sn M J) (hy7 : yn < 8) {s : Nat × Nat × Nat} {V : MI} {K : MJ} {t1 : Nat × Nat × Nat} (et1 : t1 = adv T n s) (z1 : t1.1 = 0) (pm0 : PM T n t1 V K) (fl0 : FL M J V K) (da0 : DA M V) (kn0 : ∀ i, K 102 i = J 102 i) (hc : naC T n t1) (hnf : ¬ nf T n A (w5 T n t1.2.2) yn 0 < 8) : Wq MX12_readYard 4 [some (.ref 100), none, none, none, none, none, none] [] V r K (RMY T n A yn wn hn sn s M J r) := by
  obtain ⟨⟨k1, k5, k9, k12⟩, ⟨y8, w16, h12, s7⟩, ⟨m33, m34, m35, m36⟩, hMN, hMy, hMh, hMs, hMw, hMo⟩ := id hD
  have hy0 : V 100 33 = nI yn := (da0.2 33 (by decide) (by decide)).trans m33
  have hN0 : MN T n A yn K := MN_c hMN rfl kn0
  have hw : K 100 9 = lN (w8 T n t1.2.2) := (pm0.2.2.2.2.2.2 z1).2.2.2.2 hc.2.1
  have fe := fd_e hN0 y8 hc.2.1
  refine x_aload_n (q := 5) dX12_readYard_4 rfl rfl ?_
  refine q_callV (ci := 12) (N := 79) (T := TX12) (As := []) (rest := []) (q := 8) dX12_readYard_5 rfl okX12_isName tw_1367 rfl rfl (c_isN_g r pm0 hc) rfl rfl (Nat.le_of_ble_eq_true rfl) ⟨by decide, by decide⟩ ⟨rfl, rfl⟩ (fun rv_ I_ r_ J_ hv_ => ?_)
  obtain ⟨a1_, a2_, a3_, a4_⟩ := hv_
  rw [a1_, a2_, a3_, a4_]
  show Wq MX12_readYard 8 [some (.ref 100), none, none, none, none, none, none] [.int 1] V r K _
  refine x_if_ne (t := 19) (q := 11) dX12_readYard_8 (by decide) rfl (fun c8 => ?_) (fun c8 => absurd c8 ((by decide)))
  refine x_aload_n (q := 20) dX12_readYard_19 rfl rfl ?_
  refine q_callV (ci := 12) (N := 79) (T := TX12) (As := []) (rest := []) (q := 23) dX12_readYard_20 rfl okX12_find tw_1398 rfl rfl (c_fnd r K hy0 y8) rfl rfl (Nat.le_of_ble_eq_true rfl) ⟨by decide, by decide⟩ ⟨rfl, rfl⟩ (fun rv_ I_ r_ J_ hv_ => ?_)
  obtain ⟨a1_, a2_, a3_, a4_⟩ := hv_
  rw [a1_, a2_, a3_, a4_]
  show Wq MX12_readYard 23 [some (.ref 100), none, none, none, none, none, none] [.int (fdV K (K 100 9) yn)] V r K _
  refine x_if_lt (t := 31) (q := 26) dX12_readYard_23 (by decide) rfl (fun c23 => ?_) (fun c23 => absurd c23 (fun z => z (by rw [hw, fe.2 hnf]; decide)))
  refine x_aload_n (q := 32) dX12_readYard_31 rfl rfl ?_
  refine q_gl (K := 9) (q := 35) dX12_readYard_32 rfl cl_12 (by decide) tw_1091 rfl rfl ?_
  refine x_nml (fun v1 ev1 => ?_)
  refine x_lstore_n (L2 := [some (.ref 100), some (.long v1), none, none, none, none, none]) (q := 36) dX12_readYard_35 rfl (by decide) rfl rfl ?_
  refine x_aload_n (q := 37) dX12_readYard_36 rfl rfl ?_
  refine q_gi (K := 2) (q := 40) dX12_readYard_37 rfl cl_12 (by decide) tw_1084 rfl rfl ?_
  refine x_if_ne (t := 47) (q := 43) dX12_readYard_40 (by decide) rfl (fun c40 => absurd c40 (fun z => z (by rw [pm0.2.2.1, z1]; rfl))) (fun c40 => ?_)
  refine x_aload_n (q := 44) dX12_readYard_43 rfl rfl ?_
  refine q_callV (ci := 12) (N := 79) (T := TX12) (As := []) (rest := []) (q := 47) dX12_readYard_44 rfl okX12_token tw_1340 rfl rfl (c_tokP r pm0 z1 (by rw [hc.2.1]; decide)) rfl rfl (Nat.le_of_ble_eq_true rfl) ⟨by decide, by decide⟩ ⟨rfl, rfl⟩ (fun rv_ V1 r_ K1 hv_ => ?_)
  obtain ⟨a1_, pm1, fm1, a3_⟩ := hv_
  rw [a1_, a3_]
  show Wq MX12_readYard 47 [some (.ref 100), some (.long v1), none, none, none, none, none] [] V1 r K1 _
  have hww : v1 = lN (w8 T n t1.2.2) := by rw [ev1]; exact hw
  by_cases h8 : kw T n (adv T n t1).2.2 = 8
  · exact l_y47_0 r hD hy7 et1 rfl hc hnf pm1 (fl0.tr fm1.l) (DA_f da0 fm1) (fun i => (fm1.2.2 102 i (by omega)).trans (kn0 i)) pm0.2.2.2.2.1 hww h8
  by_cases h9 : kw T n (adv T n t1).2.2 = 9
  · exact l_y47_1 r hD hy7 et1 rfl hc hnf pm1 (fl0.tr fm1.l) (DA_f da0 fm1) (fun i => (fm1.2.2 102 i (by omega)).trans (kn0 i)) pm0.2.2.2.2.1 hww h9
  by_cases h10 : kw T n (adv T n t1).2.2 = 10
  · exact l_y47_2 r hD hy7 et1 rfl hc hnf pm1 (fl0.tr fm1.l) (DA_f da0 fm1) (fun i => (fm1.2.2 102 i (by omega)).trans (kn0 i)) pm0.2.2.2.2.1 hww h10
  by_cases h11 : kw T n (adv T n t1).2.2 = 11
  · exact l_y47_3 r hD hy7 et1 rfl hc hnf pm1 (fl0.tr fm1.l) (DA_f da0 fm1) (fun i => (fm1.2.2 102 i (by omega)).trans (kn0 i)) pm0.2.2.2.2.1 hww h11
  exact l_y47_4 r hD hy7 et1 rfl hc hnf pm1 (fl0.tr fm1.l) (DA_f da0 fm1) (fun i => (fm1.2.2 102 i (by omega)).trans (kn0 i)) pm0.2.2.2.2.1 hww (by omega)
set_option maxRecDepth 100000 in
theorem c_mya {T : Nat → Nat} {n : Nat} (r : MR) {M : MI} {J : MJ} {s : Nat × Nat × Nat} (h : PM T n s M J) (h0 : s.1 = 0) (hk1 : ¬ kd T n s.2.2 = 1) {A : MI} {yn wn hn sn : Nat} (hD : MD T n A yn wn hn sn M J) (hf : yn < 8) : Cq yX12_readYard MX12_readYard [.ref 100] M r J (RMY T n A yn wn hn sn s M J r) := by
  obtain ⟨⟨k1, k5, k9, k12⟩, ⟨y8, w16, h12, s7⟩, ⟨m33, m34, m35, m36⟩, hMN, hMy, hMh, hMs, hMw, hMo⟩ := id hD
  have pm0 := h
  have fl0 : FL M J M J := FL.rf
  have da0 : DA M M := DA.rf
  have kn0 : ∀ i, J 102 i = J 102 i := fun _ => rfl
  have hc0 : M 100 33 = nI yn := m33
  refine cq_of [some (.ref 100), none, none, none, none, none, none] 6 (by decide +kernel) rfl rfl (Nat.le_of_ble_eq_true rfl) rfl ?_
  refine x_aload_n (q := 1) dX12_readYard_0 rfl rfl ?_
  refine q_callV (ci := 12) (N := 79) (T := TX12) (As := []) (rest := []) (q := 4) dX12_readYard_1 rfl okX12_token tw_1340 rfl rfl (c_tokP r pm0 h0 hk1) rfl rfl (Nat.le_of_ble_eq_true rfl) ⟨by decide, by decide⟩ ⟨rfl, rfl⟩ (fun rv_ V1 r_ K1 hv_ => ?_)
  obtain ⟨a1_, pm1, fm1, a3_⟩ := hv_
  rw [a1_, a3_]
  obtain ⟨t1, et1⟩ : ∃ z, z = adv T n s := ⟨_, rfl⟩
  rw [← et1] at pm1
  have fl1 := fl0.tr fm1.l
  have da1 := DA_f da0 fm1
  have kn1 : ∀ i, K1 102 i = J 102 i := fun i => (fm1.2.2 102 i (by omega)).trans (kn0 i)
  have hc1 : V1 100 33 = nI yn := (fm1.2.1 33 (by decide) (by decide) (by decide) (by decide) (by decide) (by decide)).trans hc0
  show Wq MX12_readYard 4 [some (.ref 100), none, none, none, none, none, none] [] V1 r K1 _
  have z1 : t1.1 = 0 := by rw [et1]; exact h0
  by_cases hc : naC T n t1
  · by_cases hnf : nf T n A (w5 T n t1.2.2) yn 0 < 8
    · exact l_y4b r hD hf et1 z1 pm1 fl1 da1 kn1 hc hnf
    · exact l_y4c r hD hf et1 z1 pm1 fl1 da1 kn1 hc hnf
  · exact l_y4a r hD hf et1 z1 pm1 fl1 da1 kn1 hc
