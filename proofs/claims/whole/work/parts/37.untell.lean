theorem RelL_g {I I' : MI} {b yn wn hn sn st : Nat} (hc : ∀ c, ¬ c = 100 → (regL b c ∨ regM c ∨ c = 58 ∨ (60 ≤ c ∧ c < 76) ∨ c = 126 ∨ c = 127 ∨ (96 ≤ c ∧ c ≤ 99) ∨ (142 ≤ c ∧ c ≤ 145)) → I' c = I c) (h100 : ∀ j, (41 ≤ j ∧ j ≤ 47) ∨ (55 ≤ j ∧ j ≤ 57) → I' 100 j = I 100 j) (hb : b ≤ 28) (hd : RGlass I' b yn hn sn) (hl : RelL I b yn wn hn sn st) : RelL I' b yn wn hn sn st := by
  obtain ⟨l1, l2, l3, l4, l5, l6, l7⟩ := hl
  have h8 := l1.2.2.1
  have hL : ∀ c, regL b c → I' c = I c := fun c q => hc c (by have := q.2; omega) (Or.inl q)
  have hM : ∀ c, regM c → I' c = I c := fun c q => hc c (by have := q.1; omega) (Or.inr (Or.inl q))
  exact ⟨LOk_c hL l1, LOk2_c hL l2, RLd_c hL hM (h100 41 (by omega)) (h100 43 (by omega)) h8 l3, RLe_c hL hM (fun j q1 q2 => h100 j (by omega)) l4, RDay_c hL (fun c q1 q2 => hc c (by omega) (by omega)) (hc 58 (by decide) (by omega)) (hc 126 (by decide) (by omega)) (hc 127 (by decide) (by omega)) (fun j q1 q2 => h100 j (by omega)) h8 l5, hd, RBox_c hL (fun c q1 q2 => hc c (by omega) (by omega)) (fun c q1 q2 => hc c (by omega) (by omega)) h8 l7⟩
/-- a glass, one -/
def Gl1 (I : MI) (b yn hn sn g : Nat) : Prop := I 139 g = I 89 g ∧ I 140 g = I 90 g ∧ (I 90 g = -1 ∨ 0 ≤ (I 90 g).toInt) ∧ ∃ y l s : Nat, y < yn ∧ l < laN I b y ∧ s ≤ 72 ∧ I 134 g = nI y ∧ I 135 g = nI l ∧ I 136 g = nI s ∧ Ib (I 137 g) (-999) 999 ∧ Ib (I 138 g) 0 99 ∧ I 91 g = nI (bitsN (fitB I b hn y l s (I 137 g) (I 138 g)) sn)
theorem Gl1_c {I I' : MI} {b yn hn sn g : Nat} (h : ∀ c, regL b c → I' c = I c) (hg : ∀ c, 89 ≤ c → c ≤ 91 → I' c g = I c g) (hm : ∀ c, 134 ≤ c → c ≤ 140 → I' c g = I c g) (h8 : yn ≤ 8) (hl : Gl1 I b yn hn sn g) : Gl1 I' b yn hn sn g := by
  obtain ⟨k1, k2, k3, y, l, s, p1, p2, p3, p4, p5, p6, p7, p8, p9⟩ := hl
  unfold Gl1
  rw [hg 89 (by decide) (by decide), hg 90 (by decide) (by decide), hg 91 (by decide) (by decide), hm 134 (by decide) (by decide), hm 135 (by decide) (by decide), hm 136 (by decide) (by decide), hm 137 (by decide) (by decide), hm 138 (by decide) (by decide), hm 139 (by decide) (by decide), hm 140 (by decide) (by decide)]
  refine ⟨k1, k2, k3, y, l, s, p1, by rw [laN_c h (by omega)]; exact p2, p3, p4, p5, p6, p7, p8, ?_⟩
  have e : fitB I' b hn y l s (I 137 g) (I 138 g) = fitB I b hn y l s (I 137 g) (I 138 g) := by
    funext k
    unfold fitB warmAt begG
    rw [h (b + 8) ⟨by omega, by omega⟩, h (b + 11 + 2 * y) ⟨by omega, by omega⟩, trajY_c h (by omega)]
  rw [e]
  exact p9
theorem neg1 {x : Int32} (h : ¬ x = -1) (h2 : x = -1 ∨ 0 ≤ x.toInt) : ¬ x < 0 := by
  rcases h2 with q | q
  · exact absurd q h
  · rw [Int32.lt_iff_toInt_lt, Int32.toInt_zero]
    omega
set_option maxRecDepth 100000 in
theorem c_tbk_g {I : MI} {gn : Nat} (h30 : gn ≤ 30) (e3 : I 88 3 = nI gn) (r : MR) (J : MJ) {k : Nat} (hk : k < gn) (t : Int32) (h1 : I 90 k = -1) : Cq yX2_takeBack MX2_takeBack [.ref 88, .int (nI k), .int t] I r J (Rt (some (.int 1)) (upI I 90 k t) r J) := by
  refine cq_of [some (.ref 88), some (.int (nI k)), some (.int t)] 0 (by decide +kernel) rfl rfl (Nat.le_of_ble_eq_true rfl) rfl ?_
  refine x_iload_n (q := 1) dX2_takeBack_0 rfl rfl ?_
  refine x_if_lt (t := 22) (q := 4) dX2_takeBack_1 (by decide) rfl (fun c1 => absurd c1 (nI_pos (by omega))) (fun c1 => ?_)
  refine x_iload_n (q := 5) dX2_takeBack_4 rfl rfl ?_
  refine x_aload_n (q := 6) dX2_takeBack_5 rfl rfl ?_
  refine q_gi (K := 3) (q := 9) dX2_takeBack_6 rfl cl_2 (by decide) tw_536 rfl rfl ?_
  refine x_icmp_ge (t := 22) (q := 12) dX2_takeBack_9 (by decide) rfl (fun c9 => absurd c9 (by rw [e3]; exact nI_ge hk (by omega))) (fun c9 => ?_)
  refine x_aload_n (q := 13) dX2_takeBack_12 rfl rfl ?_
  refine q_gr (K := 1) (b := 90) (q := 16) dX2_takeBack_13 rfl cl_2 (by decide) tw_534 rfl rfl rfl ?_
  refine x_iload_n (q := 17) dX2_takeBack_16 rfl rfl ?_
  refine q_iald (q := 18) dX2_takeBack_17 rfl rfl (vp_in_nI (by omega) (by decide)) ?_
  refine x_iconst (-1) (q := 19) dX2_takeBack_18 rfl (by decide) ?_
  refine x_icmp_eq (t := 24) (q := 22) dX2_takeBack_19 (by decide) rfl (fun c19 => ?_) (fun c19 => absurd c19 (fun q => q (by rw [nI_clamp (by omega)]; exact h1)))
  refine x_aload_n (q := 25) dX2_takeBack_24 rfl rfl ?_
  refine q_gr (K := 1) (b := 90) (q := 28) dX2_takeBack_25 rfl cl_2 (by decide) tw_534 rfl rfl rfl ?_
  refine x_iload_n (q := 29) dX2_takeBack_28 rfl rfl ?_
  refine x_iload_n (q := 30) dX2_takeBack_29 rfl rfl ?_
  refine q_iast (q := 31) dX2_takeBack_30 rfl rfl (vp_in_nI (by omega) (by decide)) (fun I1 eI1 => ?_)
  refine x_iconst (1) (q := 32) dX2_takeBack_31 rfl (by decide) ?_
  refine q_zret dX2_takeBack_32 rfl (Or.inr rfl) ?_
  rw [nI_clamp (by omega)] at eI1
  exact ⟨rfl, eI1, rfl, rfl⟩
set_option maxRecDepth 100000 in
theorem c_tbk_1 {I : MI} {gn : Nat} (h30 : gn ≤ 30) (e3 : I 88 3 = nI gn) (r : MR) (J : MJ) {k : Nat} (hk : k < gn) (t : Int32) (h1 : ¬ I 90 k = -1) : Cq yX2_takeBack MX2_takeBack [.ref 88, .int (nI k), .int t] I r J (Rt (some (.int 0)) I r J) := by
  refine cq_of [some (.ref 88), some (.int (nI k)), some (.int t)] 0 (by decide +kernel) rfl rfl (Nat.le_of_ble_eq_true rfl) rfl ?_
  refine x_iload_n (q := 1) dX2_takeBack_0 rfl rfl ?_
  refine x_if_lt (t := 22) (q := 4) dX2_takeBack_1 (by decide) rfl (fun c1 => absurd c1 (nI_pos (by omega))) (fun c1 => ?_)
  refine x_iload_n (q := 5) dX2_takeBack_4 rfl rfl ?_
  refine x_aload_n (q := 6) dX2_takeBack_5 rfl rfl ?_
  refine q_gi (K := 3) (q := 9) dX2_takeBack_6 rfl cl_2 (by decide) tw_536 rfl rfl ?_
  refine x_icmp_ge (t := 22) (q := 12) dX2_takeBack_9 (by decide) rfl (fun c9 => absurd c9 (by rw [e3]; exact nI_ge hk (by omega))) (fun c9 => ?_)
  refine x_aload_n (q := 13) dX2_takeBack_12 rfl rfl ?_
  refine q_gr (K := 1) (b := 90) (q := 16) dX2_takeBack_13 rfl cl_2 (by decide) tw_534 rfl rfl rfl ?_
  refine x_iload_n (q := 17) dX2_takeBack_16 rfl rfl ?_
  refine q_iald (q := 18) dX2_takeBack_17 rfl rfl (vp_in_nI (by omega) (by decide)) ?_
  refine x_iconst (-1) (q := 19) dX2_takeBack_18 rfl (by decide) ?_
  refine x_icmp_eq (t := 24) (q := 22) dX2_takeBack_19 (by decide) rfl (fun c19 => absurd c19 (by rw [nI_clamp (by omega)]; exact h1)) (fun c19 => ?_)
  refine x_iconst (0) (q := 23) dX2_takeBack_22 rfl (by decide) ?_
  refine q_zret dX2_takeBack_23 rfl (Or.inl rfl) ?_
  exact ⟨rfl, rfl, rfl, rfl⟩
set_option maxRecDepth 100000 in
theorem c_tbk_2 {I : MI} {gn : Nat} (h30 : gn ≤ 30) (e3 : I 88 3 = nI gn) (r : MR) (J : MJ) {x : Int32} (hno : ¬ ∃ k, k < gn ∧ x = nI k) (t : Int32) : Cq yX2_takeBack MX2_takeBack [.ref 88, .int x, .int t] I r J (Rt (some (.int 0)) I r J) := by
  refine cq_of [some (.ref 88), some (.int x), some (.int t)] 0 (by decide +kernel) rfl rfl (Nat.le_of_ble_eq_true rfl) rfl ?_
  refine x_iload_n (q := 1) dX2_takeBack_0 rfl rfl ?_
  refine x_if_lt (t := 22) (q := 4) dX2_takeBack_1 (by decide) rfl (fun c1 => ?_) (fun c1 => ?_)
  · refine x_iconst (0) (q := 23) dX2_takeBack_22 rfl (by decide) ?_
    refine q_zret dX2_takeBack_23 rfl (Or.inl rfl) ?_
    exact ⟨rfl, rfl, rfl, rfl⟩
  · refine x_iload_n (q := 5) dX2_takeBack_4 rfl rfl ?_
    refine x_aload_n (q := 6) dX2_takeBack_5 rfl rfl ?_
    refine q_gi (K := 3) (q := 9) dX2_takeBack_6 rfl cl_2 (by decide) tw_536 rfl rfl ?_
    refine x_icmp_ge (t := 22) (q := 12) dX2_takeBack_9 (by decide) rfl (fun c9 => ?_) (fun c9 => ?_)
    · refine x_iconst (0) (q := 23) dX2_takeBack_22 rfl (by decide) ?_
      refine q_zret dX2_takeBack_23 rfl (Or.inl rfl) ?_
      exact ⟨rfl, rfl, rfl, rfl⟩
    · exfalso
      rcases pk_ix x (n := gn) (by omega) with q | q | q
      · exact c1 q
      · rw [e3] at c9
        exact c9 q
      · exact hno q
set_option maxRecDepth 100000 in
theorem c_Xunt_g {I : MI} {gn : Nat} (h30 : gn ≤ 30) (e3 : I 88 3 = nI gn) (r : MR) (J : MJ) {k : Nat} (hk : k < gn) (h1 : I 90 k = -1) : Cq yX11_untell MX11_untell [.ref 0, .int (nI k)] I r J (Rt (some (.int 1)) (upI I 90 k (I 0 11)) r J) := by
  refine cq_of [some (.ref 0), some (.int (nI k))] 0 (by decide +kernel) rfl rfl (Nat.le_of_ble_eq_true rfl) rfl ?_
  refine x_aload_n (q := 1) dX11_untell_0 rfl rfl ?_
  refine q_gr (K := 10) (b := 88) (q := 4) dX11_untell_1 rfl cl_11 (by decide) tw_577 rfl rfl rfl ?_
  refine x_iload_n (q := 5) dX11_untell_4 rfl rfl ?_
  refine x_aload_n (q := 6) dX11_untell_5 rfl rfl ?_
  refine q_gi (K := 11) (q := 9) dX11_untell_6 rfl cl_11 (by decide) tw_578 rfl rfl ?_
  refine q_callV (ci := 2) (N := 9) (T := TX2) (As := [.int (nI k), .int (I 0 11)]) (rest := []) (q := 12) dX11_untell_9 rfl okX2_takeBack tw_1020 rfl rfl (c_tbk_g h30 e3 r J hk _ h1) rfl rfl (Nat.le_of_ble_eq_true rfl) ⟨by decide, by decide⟩ ⟨rfl, rfl⟩ (fun rv_ I_ r_ J_ hv_ => ?_)
  obtain ⟨a1_, a2_, a3_, a4_⟩ := hv_
  rw [a1_, a2_, a3_, a4_]
  show Wq MX11_untell 12 [some (.ref 0), some (.int (nI k))] [.int 1] (upI I 90 k (I 0 11)) r J _
  refine q_zret dX11_untell_12 rfl (Or.inr rfl) ?_
  exact ⟨rfl, rfl, rfl, rfl⟩
set_option maxRecDepth 100000 in
theorem c_Xunt_1 {I : MI} {gn : Nat} (h30 : gn ≤ 30) (e3 : I 88 3 = nI gn) (r : MR) (J : MJ) {k : Nat} (hk : k < gn) (h1 : ¬ I 90 k = -1) : Cq yX11_untell MX11_untell [.ref 0, .int (nI k)] I r J (Rt (some (.int 0)) I r J) := by
  refine cq_of [some (.ref 0), some (.int (nI k))] 0 (by decide +kernel) rfl rfl (Nat.le_of_ble_eq_true rfl) rfl ?_
  refine x_aload_n (q := 1) dX11_untell_0 rfl rfl ?_
  refine q_gr (K := 10) (b := 88) (q := 4) dX11_untell_1 rfl cl_11 (by decide) tw_577 rfl rfl rfl ?_
  refine x_iload_n (q := 5) dX11_untell_4 rfl rfl ?_
  refine x_aload_n (q := 6) dX11_untell_5 rfl rfl ?_
  refine q_gi (K := 11) (q := 9) dX11_untell_6 rfl cl_11 (by decide) tw_578 rfl rfl ?_
  refine q_callV (ci := 2) (N := 9) (T := TX2) (As := [.int (nI k), .int (I 0 11)]) (rest := []) (q := 12) dX11_untell_9 rfl okX2_takeBack tw_1020 rfl rfl (c_tbk_1 h30 e3 r J hk _ h1) rfl rfl (Nat.le_of_ble_eq_true rfl) ⟨by decide, by decide⟩ ⟨rfl, rfl⟩ (fun rv_ I_ r_ J_ hv_ => ?_)
  obtain ⟨a1_, a2_, a3_, a4_⟩ := hv_
  rw [a1_, a2_, a3_, a4_]
  show Wq MX11_untell 12 [some (.ref 0), some (.int (nI k))] [.int 0] I r J _
  refine q_zret dX11_untell_12 rfl (Or.inl rfl) ?_
  exact ⟨rfl, rfl, rfl, rfl⟩
set_option maxRecDepth 100000 in
theorem c_Xunt_2 {I : MI} {gn : Nat} (h30 : gn ≤ 30) (e3 : I 88 3 = nI gn) (r : MR) (J : MJ) {x : Int32} (hno : ¬ ∃ k, k < gn ∧ x = nI k) : Cq yX11_untell MX11_untell [.ref 0, .int x] I r J (Rt (some (.int 0)) I r J) := by
  refine cq_of [some (.ref 0), some (.int x)] 0 (by decide +kernel) rfl rfl (Nat.le_of_ble_eq_true rfl) rfl ?_
  refine x_aload_n (q := 1) dX11_untell_0 rfl rfl ?_
  refine q_gr (K := 10) (b := 88) (q := 4) dX11_untell_1 rfl cl_11 (by decide) tw_577 rfl rfl rfl ?_
  refine x_iload_n (q := 5) dX11_untell_4 rfl rfl ?_
  refine x_aload_n (q := 6) dX11_untell_5 rfl rfl ?_
  refine q_gi (K := 11) (q := 9) dX11_untell_6 rfl cl_11 (by decide) tw_578 rfl rfl ?_
  refine q_callV (ci := 2) (N := 9) (T := TX2) (As := [.int x, .int (I 0 11)]) (rest := []) (q := 12) dX11_untell_9 rfl okX2_takeBack tw_1020 rfl rfl (c_tbk_2 h30 e3 r J hno _) rfl rfl (Nat.le_of_ble_eq_true rfl) ⟨by decide, by decide⟩ ⟨rfl, rfl⟩ (fun rv_ I_ r_ J_ hv_ => ?_)
  obtain ⟨a1_, a2_, a3_, a4_⟩ := hv_
  rw [a1_, a2_, a3_, a4_]
  show Wq MX11_untell 12 [some (.ref 0), some (.int x)] [.int 0] I r J _
  refine q_zret dX11_untell_12 rfl (Or.inl rfl) ?_
  exact ⟨rfl, rfl, rfl, rfl⟩
set_option maxRecDepth 100000 in
theorem c_Munt_g {I : MI} {gn : Nat} (h30 : gn ≤ 30) (e3 : I 100 72 = nI gn) (r : MR) (J : MJ) {k : Nat} (hk : k < gn) (h1 : I 140 k = -1) : Cq yX12_untell MX12_untell [.ref 100, .int (nI k)] I r J (Rt (some (.int 1)) (upI I 140 k (I 100 73)) r J) := by
  refine cq_of [some (.ref 100), some (.int (nI k))] 0 (by decide +kernel) rfl rfl (Nat.le_of_ble_eq_true rfl) rfl ?_
  refine x_iload_n (q := 1) dX12_untell_0 rfl rfl ?_
  refine x_iconst (0) (q := 2) dX12_untell_1 rfl (by decide) ?_
  refine x_aload_n (q := 3) dX12_untell_2 rfl rfl ?_
  refine q_gi (K := 72) (q := 6) dX12_untell_3 rfl cl_12 (by decide) tw_1154 rfl rfl ?_
  refine x_iconst (1) (q := 7) dX12_untell_6 rfl (by decide) ?_
  refine x_isub (q := 8) dX12_untell_7 rfl ?_
  refine q_callS (As := [.int (nI k), .int 0, .int ((I 100 72) - 1)]) (rest := []) (q := 11) dX12_untell_8 rfl okX12_isIn tw_1450 (c_isIn_g I r J (nI_pos' (by omega)) (by rw [e3, nI_m1 (by omega)]; exact nI_le (by omega) (by omega))) rfl rfl (Nat.le_of_ble_eq_true rfl) ⟨by decide, by decide⟩ ⟨rfl, rfl⟩ (fun rv_ I_ r_ J_ hv_ => ?_)
  obtain ⟨a1_, a2_, a3_, a4_⟩ := hv_
  rw [a1_, a2_, a3_, a4_]
  show Wq MX12_untell 11 [some (.ref 100), some (.int (nI k))] [.int 1] I r J _
  refine x_if_eq (t := 23) (q := 14) dX12_untell_11 (by decide) rfl (fun c11 => absurd c11 ((by decide))) (fun c11 => ?_)
  refine x_aload_n (q := 15) dX12_untell_14 rfl rfl ?_
  refine q_gr (K := 71) (b := 140) (q := 18) dX12_untell_15 rfl cl_12 (by decide) tw_1153 rfl rfl rfl ?_
  refine x_iload_n (q := 19) dX12_untell_18 rfl rfl ?_
  refine q_iald (q := 20) dX12_untell_19 rfl rfl (vp_in_nI (by omega) (by decide)) ?_
  refine x_if_lt (t := 25) (q := 23) dX12_untell_20 (by decide) rfl (fun c20 => ?_) (fun c20 => absurd c20 (fun q => q (by rw [nI_clamp (by omega), h1]; decide)))
  refine x_aload_n (q := 26) dX12_untell_25 rfl rfl ?_
  refine q_gr (K := 71) (b := 140) (q := 29) dX12_untell_26 rfl cl_12 (by decide) tw_1153 rfl rfl rfl ?_
  refine x_iload_n (q := 30) dX12_untell_29 rfl rfl ?_
  refine x_aload_n (q := 31) dX12_untell_30 rfl rfl ?_
  refine q_gi (K := 73) (q := 34) dX12_untell_31 rfl cl_12 (by decide) tw_1155 rfl rfl ?_
  refine q_iast (q := 35) dX12_untell_34 rfl rfl (vp_in_nI (by omega) (by decide)) (fun I1 eI1 => ?_)
  refine x_iconst (1) (q := 36) dX12_untell_35 rfl (by decide) ?_
  refine q_zret dX12_untell_36 rfl (Or.inr rfl) ?_
  rw [nI_clamp (by omega)] at eI1
  exact ⟨rfl, eI1, rfl, rfl⟩
set_option maxRecDepth 100000 in
theorem c_Munt_1 {I : MI} {gn : Nat} (h30 : gn ≤ 30) (e3 : I 100 72 = nI gn) (r : MR) (J : MJ) {k : Nat} (hk : k < gn) (h1 : ¬ I 140 k < 0) : Cq yX12_untell MX12_untell [.ref 100, .int (nI k)] I r J (Rt (some (.int 0)) I r J) := by
  refine cq_of [some (.ref 100), some (.int (nI k))] 0 (by decide +kernel) rfl rfl (Nat.le_of_ble_eq_true rfl) rfl ?_
  refine x_iload_n (q := 1) dX12_untell_0 rfl rfl ?_
  refine x_iconst (0) (q := 2) dX12_untell_1 rfl (by decide) ?_
  refine x_aload_n (q := 3) dX12_untell_2 rfl rfl ?_
  refine q_gi (K := 72) (q := 6) dX12_untell_3 rfl cl_12 (by decide) tw_1154 rfl rfl ?_
  refine x_iconst (1) (q := 7) dX12_untell_6 rfl (by decide) ?_
  refine x_isub (q := 8) dX12_untell_7 rfl ?_
  refine q_callS (As := [.int (nI k), .int 0, .int ((I 100 72) - 1)]) (rest := []) (q := 11) dX12_untell_8 rfl okX12_isIn tw_1450 (c_isIn_g I r J (nI_pos' (by omega)) (by rw [e3, nI_m1 (by omega)]; exact nI_le (by omega) (by omega))) rfl rfl (Nat.le_of_ble_eq_true rfl) ⟨by decide, by decide⟩ ⟨rfl, rfl⟩ (fun rv_ I_ r_ J_ hv_ => ?_)
  obtain ⟨a1_, a2_, a3_, a4_⟩ := hv_
  rw [a1_, a2_, a3_, a4_]
  show Wq MX12_untell 11 [some (.ref 100), some (.int (nI k))] [.int 1] I r J _
  refine x_if_eq (t := 23) (q := 14) dX12_untell_11 (by decide) rfl (fun c11 => absurd c11 ((by decide))) (fun c11 => ?_)
  refine x_aload_n (q := 15) dX12_untell_14 rfl rfl ?_
  refine q_gr (K := 71) (b := 140) (q := 18) dX12_untell_15 rfl cl_12 (by decide) tw_1153 rfl rfl rfl ?_
  refine x_iload_n (q := 19) dX12_untell_18 rfl rfl ?_
  refine q_iald (q := 20) dX12_untell_19 rfl rfl (vp_in_nI (by omega) (by decide)) ?_
  refine x_if_lt (t := 25) (q := 23) dX12_untell_20 (by decide) rfl (fun c20 => absurd c20 (by rw [nI_clamp (by omega)]; exact h1)) (fun c20 => ?_)
  refine x_iconst (0) (q := 24) dX12_untell_23 rfl (by decide) ?_
  refine q_zret dX12_untell_24 rfl (Or.inl rfl) ?_
  exact ⟨rfl, rfl, rfl, rfl⟩
set_option maxRecDepth 100000 in
theorem c_Munt_2 {I : MI} {gn : Nat} (h30 : gn ≤ 30) (e3 : I 100 72 = nI gn) (r : MR) (J : MJ) {x : Int32} (hno : ¬ ∃ k, k < gn ∧ x = nI k) : Cq yX12_untell MX12_untell [.ref 100, .int x] I r J (Rt (some (.int 0)) I r J) := by
  refine cq_of [some (.ref 100), some (.int x)] 0 (by decide +kernel) rfl rfl (Nat.le_of_ble_eq_true rfl) rfl ?_
  refine x_iload_n (q := 1) dX12_untell_0 rfl rfl ?_
  refine x_iconst (0) (q := 2) dX12_untell_1 rfl (by decide) ?_
  refine x_aload_n (q := 3) dX12_untell_2 rfl rfl ?_
  refine q_gi (K := 72) (q := 6) dX12_untell_3 rfl cl_12 (by decide) tw_1154 rfl rfl ?_
  refine x_iconst (1) (q := 7) dX12_untell_6 rfl (by decide) ?_
  refine x_isub (q := 8) dX12_untell_7 rfl ?_
  refine q_callS (As := [.int x, .int 0, .int ((I 100 72) - 1)]) (rest := []) (q := 11) dX12_untell_8 rfl okX12_isIn tw_1450 (c_isIn_b I r J (by rw [e3]; exact in_no (by omega) hno)) rfl rfl (Nat.le_of_ble_eq_true rfl) ⟨by decide, by decide⟩ ⟨rfl, rfl⟩ (fun rv_ I_ r_ J_ hv_ => ?_)
  obtain ⟨a1_, a2_, a3_, a4_⟩ := hv_
  rw [a1_, a2_, a3_, a4_]
  show Wq MX12_untell 11 [some (.ref 100), some (.int x)] [.int 0] I r J _
  refine x_if_eq (t := 23) (q := 14) dX12_untell_11 (by decide) rfl (fun c11 => ?_) (fun c11 => absurd c11 ((by decide)))
  refine x_iconst (0) (q := 24) dX12_untell_23 rfl (by decide) ?_
  refine q_zret dX12_untell_24 rfl (Or.inl rfl) ?_
  exact ⟨rfl, rfl, rfl, rfl⟩
theorem op_untell (x : Int32) : OpOk yX11_untell MX11_untell yX12_untell MX12_untell [.int x] := by
  intro I r J hrel
  have hre2 := hrel
  obtain ⟨b, yn, wn, hn, sn, st, hr, hl, hR, hJ⟩ := hrel
  have hb := (refs_L hr).2
  have h8 : yn ≤ 8 := hl.1.2.2.1
  obtain ⟨gn, g1, g2, g3, g4⟩ := hl.2.2.2.2.2.1
  by_cases h1 : ∃ k, k < gn ∧ x = nI k
  · obtain ⟨k, hk, rfl⟩ := h1
    obtain ⟨k1, k2, k3, -⟩ := g4 k hk
    by_cases h2 : I 90 k = -1
    · refine op_put (I1 := upI I 90 k (I 0 11)) (I2 := upI (upI I 90 k (I 0 11)) 140 k (I 0 11)) (res := 1) (c_Xunt_g g1 g2 r J hk h2) ?_ ?_
      · have q := c_Munt_g (I := upI I 90 k (I 0 11)) g1 (by rw [upcj (by decide)]; exact g3) r J hk (by rw [upcj (by decide), k2]; exact h2)
        rw [upcj (by decide), hR.2.2.1.1] at q
        exact q
      · generalize hI2 : upI (upI I 90 k (I 0 11)) 140 k (I 0 11) = I2
        have fr : ∀ c j, ¬ (c = 90 ∧ j = k) → ¬ (c = 140 ∧ j = k) → I2 c j = I c j := fun c j q1 q2 => by
          rw [← hI2]
          unfold upI
          rw [if_neg q2, if_neg q1]
        have frc : ∀ c, ¬ c = 90 → ¬ c = 140 → I2 c = I c := fun c q1 q2 => funext fun j => fr c j (fun e => q1 e.1) (fun e => q2 e.1)
        have v1 : I2 90 k = I 0 11 := by rw [← hI2, upcj (by decide), upq]
        have v2 : I2 140 k = I 0 11 := by rw [← hI2, upq]
        refine ⟨b, yn, wn, hn, sn, st, hr, RelL_g (fun c q1 q2 => frc c (by unfold regL regM at q2; omega) (by unfold regL regM at q2; omega)) (fun j hj => by rw [frc 100 (by omega) (by omega)]) hb ⟨gn, g1, by rw [frc 88 (by omega) (by omega)]; exact g2, by rw [frc 100 (by omega) (by omega)]; exact g3, fun g hg => ?_⟩ hl, ?_, hJ⟩
        · have q := g4 g hg
          by_cases e : g = k
          · subst e
            obtain ⟨p1, p2, p3, y, l, s, p4⟩ := q
            have ef : ∀ wm sm, fitB I2 b hn y l s wm sm = fitB I b hn y l s wm sm := fun wm sm => by
              funext k
              unfold fitB warmAt begG
              rw [frc (b + 8) (by omega) (by omega), frc (b + 11 + 2 * y) (by omega) (by omega), trajY_c (fun c q => frc c (by unfold regL at q; omega) (by unfold regL at q; omega)) (by omega)]
            have el : laN I2 b y = laN I b y := laN_c (fun c q => frc c (by unfold regL at q; omega) (by unfold regL at q; omega)) (by omega)
            refine ⟨by rw [frc 139 (by omega) (by omega), frc 89 (by omega) (by omega)]; exact p1, by rw [v1, v2], by rw [v1]; exact Or.inr hR.2.2.1.2.1, y, l, s, ?_⟩
            rw [el, frc 134 (by omega) (by omega), frc 135 (by omega) (by omega), frc 136 (by omega) (by omega), frc 137 (by omega) (by omega), frc 138 (by omega) (by omega), frc 91 (by omega) (by omega), ef]
            exact p4
          · exact Gl1_c (I := I) (fun c q => frc c (by unfold regL at q; omega) (by unfold regL at q; omega)) (fun c q1 q2 => fr c g (by omega) (by omega)) (fun c q1 q2 => fr c g (by omega) (by omega)) h8 q
        · refine RelR_c ?_ ?_ ?_ ?_ ?_ ?_ ?_ ?_ (fun j _ => ?_) hR <;> rw [frc _ (by omega) (by omega)]
    · exact op_put (c_Xunt_1 g1 g2 r J hk h2) (c_Munt_1 g1 g3 r J hk (by rw [k2]; exact neg1 h2 k3)) hre2
  · exact op_put (c_Xunt_2 g1 g2 r J h1) (c_Munt_2 g1 g3 r J h1) hre2
def bX (v : Int32) (k : Nat) : Int32 := ([(v >>> (24 : Int32)).toInt8.toInt32, (v >>> (16 : Int32)).toInt8.toInt32, (v >>> (8 : Int32)).toInt8.toInt32, (v >>> (0 : Int32)).toInt8.toInt32] : List Int32).getD k 0
def bM (v : Int32) (k : Nat) : Int32 := ([(v >>> (24 : Int32)) &&& 255, (v >>> (16 : Int32)) &&& 255, (v >>> (8 : Int32)) &&& 255, (v >>> (0 : Int32)) &&& 255] : List Int32).getD k 0
theorem sh24 : (24 : Int32) &&& 31 = 24 := by decide
theorem sh16 : (16 : Int32) &&& 31 = 16 := by decide
theorem sh8 : (8 : Int32) &&& 31 = 8 := by decide
theorem sh0 : (0 : Int32) &&& 31 = 0 := by decide
def apI (I : MI) (a t tl : Nat) (f : Nat → Int32) : MI := fun c j => if c = a ∧ j = 1 then nI (tl + 4) else if c = t ∧ tl ≤ j ∧ j < tl + 4 then f (j - tl) else I c j
theorem toI8_and (x : Int32) : (x &&& 255).toInt8 = x.toInt8 := by
  apply Int8.toBitVec_inj.mp
  apply BitVec.eq_of_toNat_eq
  rw [pk_and x 8 (by decide)]
  show ((nI (x.toBitVec.toNat % 2 ^ 8)).toBitVec.signExtend 8).toNat = (x.toBitVec.signExtend 8).toNat
  rw [BitVec.signExtend_eq_setWidth_of_le _ (by decide), BitVec.signExtend_eq_setWidth_of_le _ (by decide), BitVec.toNat_setWidth, BitVec.toNat_setWidth, pk_tn (by omega)]
  omega
theorem byteI (x : Int32) : byteIs x.toInt8.toInt32 (x &&& 255) := by
  obtain ⟨c, hc, e⟩ := pk_andE x (m := 255) 8 (by decide)
  exact ⟨c, hc, e, by rw [← e, toI8_and]⟩
theorem byteOk (v : Int32) (k : Nat) (h : k < 4) : byteIs (bX v k) (bM v k) := by
  have : k = 0 ∨ k = 1 ∨ k = 2 ∨ k = 3 := by omega
  rcases this with rfl | rfl | rfl | rfl <;> exact byteI _
theorem ap_of {I : MI} {a t tl : Nat} {f : Nat → Int32} {x0 x1 x2 x3 : Int32} (h : t ≠ a) (h0 : f 0 = x0) (h1 : f 1 = x1) (h2 : f 2 = x2) (h3 : f 3 = x3) : upI (upI (upI (upI (upI (upI (upI (upI I t tl x0) a 1 (nI (tl + 1))) t (tl + 1) x1) a 1 (nI (tl + 2))) t (tl + 2) x2) a 1 (nI (tl + 3))) t (tl + 3) x3) a 1 (nI (tl + 4)) = apI I a t tl f := by
  funext c j
  unfold apI
  by_cases e : c = a ∧ j = 1
  · rw [if_pos e]
    obtain ⟨rfl, rfl⟩ := e
    exact upq
  · rw [if_neg e]
    have key : ∀ (I : MI) x, upI I a 1 x c j = I c j := fun I x => if_neg e
    rw [key]
    by_cases e1 : c = t
    · subst e1
      by_cases q3 : j = tl + 3
      · subst q3
        rw [upq, if_pos ⟨rfl, by omega, by omega⟩]
        have : tl + 3 - tl = 3 := by omega
        rw [this, h3]
      · rw [ups q3, key]
        by_cases q2 : j = tl + 2
        · subst q2
          rw [upq, if_pos ⟨rfl, by omega, by omega⟩]
          have : tl + 2 - tl = 2 := by omega
          rw [this, h2]
        · rw [ups q2, key]
          by_cases q1 : j = tl + 1
          · subst q1
            rw [upq, if_pos ⟨rfl, by omega, by omega⟩]
            have : tl + 1 - tl = 1 := by omega
            rw [this, h1]
          · rw [ups q1, key]
            by_cases q0 : j = tl
            · subst q0
              rw [upq, if_pos ⟨rfl, by omega, by omega⟩, Nat.sub_self, h0]
            · rw [ups q0, if_neg (fun q => by omega)]
    · rw [if_neg (fun q => e1 q.1), upcj e1, key, upcj e1, key, upcj e1, key, upcj e1]
set_option maxRecDepth 100000 in
theorem c_app {I : MI} {tl : Nat} (h : tl + 4 ≤ 1700) (e1 : I 0 1 = nI tl) (v : Int32) (r : MR) (J : MJ) : Cq yX11_append MX11_append [.ref 0, .int v] I r J (Rt none (apI I 0 1 tl (bX v)) r J) := by
  refine cq_of [some (.ref 0), some (.int v), none] 1 (by decide +kernel) rfl rfl (Nat.le_of_ble_eq_true rfl) rfl ?_
  refine x_bipush (24) (q := 2) dX11_append_0 rfl (by decide) ?_
  refine x_istore_n (L2 := [some (.ref 0), some (.int v), some (.int 24)]) (q := 3) dX11_append_2 rfl (by decide) rfl rfl ?_
  refine x_iload_n (q := 4) dX11_append_3 rfl rfl ?_
  refine x_if_lt (t := 46) (q := 7) dX11_append_4 (by decide) rfl (fun c4 => absurd c4 ((by decide))) (fun c4 => ?_)
  refine x_aload_n (q := 8) dX11_append_7 rfl rfl ?_
  refine q_gi (K := 1) (q := 11) dX11_append_8 rfl cl_11 (by decide) tw_568 rfl rfl ?_
  refine x_sipush (1700) (q := 14) dX11_append_11 rfl (by decide) ?_
  refine x_icmp_ge (t := 46) (q := 17) dX11_append_14 (by decide) rfl (fun c14 => absurd c14 (by first | (rw [e1]; exact nI_ge (a := tl) (b := 1700) (by omega) (by decide)) | (subst_vars; simp only [upq, upcj (show 0 ≠ 1 by decide), e1, nI_p1]; exact nI_ge (b := 1700) (by omega) (by decide)))) (fun c14 => ?_)
  refine x_aload_n (q := 18) dX11_append_17 rfl rfl ?_
  refine q_gr (K := 0) (b := 1) (q := 21) dX11_append_18 rfl cl_11 (by decide) tw_567 rfl rfl rfl ?_
  refine x_aload_n (q := 22) dX11_append_21 rfl rfl ?_
  refine q_gi (K := 1) (q := 25) dX11_append_22 rfl cl_11 (by decide) tw_568 rfl rfl ?_
  refine x_iload_n (q := 26) dX11_append_25 rfl rfl ?_
  refine x_iload_n (q := 27) dX11_append_26 rfl rfl ?_
  refine x_ishr (q := 28) dX11_append_27 rfl ?_
  refine x_i2b (q := 29) dX11_append_28 rfl ?_
  refine q_bast (q := 30) dX11_append_29 rfl rfl (by first | (rw [e1]; exact vp_in_nI (by omega) (by decide)) | (subst_vars; simp only [upq, upcj (show 0 ≠ 1 by decide), e1, nI_p1]; exact vp_in_nI (by omega) (by decide))) (fun I1 eI1 => ?_)
  refine x_aload_n (q := 31) dX11_append_30 rfl rfl ?_
  refine x_dup (q := 32) dX11_append_31 rfl rfl ?_
  refine q_gi (K := 1) (q := 35) dX11_append_32 rfl cl_11 (by decide) tw_568 rfl rfl ?_
  refine x_iconst (1) (q := 36) dX11_append_35 rfl (by decide) ?_
  refine x_iadd (q := 37) dX11_append_36 rfl ?_
  refine q_pi (K := 1) (q := 40) dX11_append_37 rfl cl_11 (by decide) tw_568 rfl rfl rfl rfl (fun I2 eI2 => ?_)
  refine x_iinc (v := 16) (L2 := [some (.ref 0), some (.int v), some (.int 16)]) (q := 43) dX11_append_40 rfl (by decide) rfl rfl (by decide) rfl ?_
  refine x_goto (t := 3) dX11_append_43 (by decide) ?_
  refine x_iload_n (q := 4) dX11_append_3 rfl rfl ?_
  refine x_if_lt (t := 46) (q := 7) dX11_append_4 (by decide) rfl (fun c4 => absurd c4 ((by decide))) (fun c4 => ?_)
  refine x_aload_n (q := 8) dX11_append_7 rfl rfl ?_
  refine q_gi (K := 1) (q := 11) dX11_append_8 rfl cl_11 (by decide) tw_568 rfl rfl ?_
  refine x_sipush (1700) (q := 14) dX11_append_11 rfl (by decide) ?_
  refine x_icmp_ge (t := 46) (q := 17) dX11_append_14 (by decide) rfl (fun c14 => absurd c14 (by first | (rw [e1]; exact nI_ge (a := tl) (b := 1700) (by omega) (by decide)) | (subst_vars; simp only [upq, upcj (show 0 ≠ 1 by decide), e1, nI_p1]; exact nI_ge (b := 1700) (by omega) (by decide)))) (fun c14 => ?_)
  refine x_aload_n (q := 18) dX11_append_17 rfl rfl ?_
  refine q_gr (K := 0) (b := 1) (q := 21) dX11_append_18 rfl cl_11 (by decide) tw_567 rfl rfl rfl ?_
  refine x_aload_n (q := 22) dX11_append_21 rfl rfl ?_
  refine q_gi (K := 1) (q := 25) dX11_append_22 rfl cl_11 (by decide) tw_568 rfl rfl ?_
  refine x_iload_n (q := 26) dX11_append_25 rfl rfl ?_
  refine x_iload_n (q := 27) dX11_append_26 rfl rfl ?_
  refine x_ishr (q := 28) dX11_append_27 rfl ?_
  refine x_i2b (q := 29) dX11_append_28 rfl ?_
  refine q_bast (q := 30) dX11_append_29 rfl rfl (by first | (rw [e1]; exact vp_in_nI (by omega) (by decide)) | (subst_vars; simp only [upq, upcj (show 0 ≠ 1 by decide), e1, nI_p1]; exact vp_in_nI (by omega) (by decide))) (fun I3 eI3 => ?_)
  refine x_aload_n (q := 31) dX11_append_30 rfl rfl ?_
  refine x_dup (q := 32) dX11_append_31 rfl rfl ?_
  refine q_gi (K := 1) (q := 35) dX11_append_32 rfl cl_11 (by decide) tw_568 rfl rfl ?_
  refine x_iconst (1) (q := 36) dX11_append_35 rfl (by decide) ?_
  refine x_iadd (q := 37) dX11_append_36 rfl ?_
  refine q_pi (K := 1) (q := 40) dX11_append_37 rfl cl_11 (by decide) tw_568 rfl rfl rfl rfl (fun I4 eI4 => ?_)
  refine x_iinc (v := 8) (L2 := [some (.ref 0), some (.int v), some (.int 8)]) (q := 43) dX11_append_40 rfl (by decide) rfl rfl (by decide) rfl ?_
  refine x_goto (t := 3) dX11_append_43 (by decide) ?_
  refine x_iload_n (q := 4) dX11_append_3 rfl rfl ?_
  refine x_if_lt (t := 46) (q := 7) dX11_append_4 (by decide) rfl (fun c4 => absurd c4 ((by decide))) (fun c4 => ?_)
  refine x_aload_n (q := 8) dX11_append_7 rfl rfl ?_
  refine q_gi (K := 1) (q := 11) dX11_append_8 rfl cl_11 (by decide) tw_568 rfl rfl ?_
  refine x_sipush (1700) (q := 14) dX11_append_11 rfl (by decide) ?_
  refine x_icmp_ge (t := 46) (q := 17) dX11_append_14 (by decide) rfl (fun c14 => absurd c14 (by first | (rw [e1]; exact nI_ge (a := tl) (b := 1700) (by omega) (by decide)) | (subst_vars; simp only [upq, upcj (show 0 ≠ 1 by decide), e1, nI_p1]; exact nI_ge (b := 1700) (by omega) (by decide)))) (fun c14 => ?_)
  refine x_aload_n (q := 18) dX11_append_17 rfl rfl ?_
  refine q_gr (K := 0) (b := 1) (q := 21) dX11_append_18 rfl cl_11 (by decide) tw_567 rfl rfl rfl ?_
  refine x_aload_n (q := 22) dX11_append_21 rfl rfl ?_
  refine q_gi (K := 1) (q := 25) dX11_append_22 rfl cl_11 (by decide) tw_568 rfl rfl ?_
  refine x_iload_n (q := 26) dX11_append_25 rfl rfl ?_
  refine x_iload_n (q := 27) dX11_append_26 rfl rfl ?_
  refine x_ishr (q := 28) dX11_append_27 rfl ?_
  refine x_i2b (q := 29) dX11_append_28 rfl ?_
  refine q_bast (q := 30) dX11_append_29 rfl rfl (by first | (rw [e1]; exact vp_in_nI (by omega) (by decide)) | (subst_vars; simp only [upq, upcj (show 0 ≠ 1 by decide), e1, nI_p1]; exact vp_in_nI (by omega) (by decide))) (fun I5 eI5 => ?_)
  refine x_aload_n (q := 31) dX11_append_30 rfl rfl ?_
  refine x_dup (q := 32) dX11_append_31 rfl rfl ?_
  refine q_gi (K := 1) (q := 35) dX11_append_32 rfl cl_11 (by decide) tw_568 rfl rfl ?_
  refine x_iconst (1) (q := 36) dX11_append_35 rfl (by decide) ?_
  refine x_iadd (q := 37) dX11_append_36 rfl ?_
  refine q_pi (K := 1) (q := 40) dX11_append_37 rfl cl_11 (by decide) tw_568 rfl rfl rfl rfl (fun I6 eI6 => ?_)
  refine x_iinc (v := 0) (L2 := [some (.ref 0), some (.int v), some (.int 0)]) (q := 43) dX11_append_40 rfl (by decide) rfl rfl (by decide) rfl ?_
  refine x_goto (t := 3) dX11_append_43 (by decide) ?_
  refine x_iload_n (q := 4) dX11_append_3 rfl rfl ?_
  refine x_if_lt (t := 46) (q := 7) dX11_append_4 (by decide) rfl (fun c4 => absurd c4 ((by decide))) (fun c4 => ?_)
  refine x_aload_n (q := 8) dX11_append_7 rfl rfl ?_
  refine q_gi (K := 1) (q := 11) dX11_append_8 rfl cl_11 (by decide) tw_568 rfl rfl ?_
  refine x_sipush (1700) (q := 14) dX11_append_11 rfl (by decide) ?_
  refine x_icmp_ge (t := 46) (q := 17) dX11_append_14 (by decide) rfl (fun c14 => absurd c14 (by first | (rw [e1]; exact nI_ge (a := tl) (b := 1700) (by omega) (by decide)) | (subst_vars; simp only [upq, upcj (show 0 ≠ 1 by decide), e1, nI_p1]; exact nI_ge (b := 1700) (by omega) (by decide)))) (fun c14 => ?_)
  refine x_aload_n (q := 18) dX11_append_17 rfl rfl ?_
  refine q_gr (K := 0) (b := 1) (q := 21) dX11_append_18 rfl cl_11 (by decide) tw_567 rfl rfl rfl ?_
  refine x_aload_n (q := 22) dX11_append_21 rfl rfl ?_
  refine q_gi (K := 1) (q := 25) dX11_append_22 rfl cl_11 (by decide) tw_568 rfl rfl ?_
  refine x_iload_n (q := 26) dX11_append_25 rfl rfl ?_
  refine x_iload_n (q := 27) dX11_append_26 rfl rfl ?_
  refine x_ishr (q := 28) dX11_append_27 rfl ?_
  refine x_i2b (q := 29) dX11_append_28 rfl ?_
  refine q_bast (q := 30) dX11_append_29 rfl rfl (by first | (rw [e1]; exact vp_in_nI (by omega) (by decide)) | (subst_vars; simp only [upq, upcj (show 0 ≠ 1 by decide), e1, nI_p1]; exact vp_in_nI (by omega) (by decide))) (fun I7 eI7 => ?_)
  refine x_aload_n (q := 31) dX11_append_30 rfl rfl ?_
  refine x_dup (q := 32) dX11_append_31 rfl rfl ?_
  refine q_gi (K := 1) (q := 35) dX11_append_32 rfl cl_11 (by decide) tw_568 rfl rfl ?_
  refine x_iconst (1) (q := 36) dX11_append_35 rfl (by decide) ?_
  refine x_iadd (q := 37) dX11_append_36 rfl ?_
  refine q_pi (K := 1) (q := 40) dX11_append_37 rfl cl_11 (by decide) tw_568 rfl rfl rfl rfl (fun I8 eI8 => ?_)
  refine x_iinc (v := (-8)) (L2 := [some (.ref 0), some (.int v), some (.int (-8))]) (q := 43) dX11_append_40 rfl (by decide) rfl rfl (by decide) rfl ?_
  refine x_goto (t := 3) dX11_append_43 (by decide) ?_
  refine x_iload_n (q := 4) dX11_append_3 rfl rfl ?_
  refine x_if_lt (t := 46) (q := 7) dX11_append_4 (by decide) rfl (fun c4 => ?_) (fun c4 => absurd c4 ((by decide)))
  refine q_vret dX11_append_46 rfl ?_
  refine ⟨rfl, ?_, rfl, rfl⟩
  subst_vars
  simp only [upq, upcj (show 0 ≠ 1 by decide), e1, nI_p1, nI_clamp (show tl < 2 ^ 31 by omega), nI_clamp (show tl + 1 < 2 ^ 31 by omega), nI_clamp (show tl + 1 + 1 < 2 ^ 31 by omega), nI_clamp (show tl + 1 + 1 + 1 < 2 ^ 31 by omega)]
  exact ap_of (by decide) (by simp [bX, sh24, sh16, sh8, sh0]) (by simp [bX, sh24, sh16, sh8, sh0]) (by simp [bX, sh24, sh16, sh8, sh0]) (by simp [bX, sh24, sh16, sh8, sh0])
set_option maxRecDepth 100000 in
theorem c_four {I : MI} {tl : Nat} (h : tl + 4 ≤ 1700) (e1 : I 100 1 = nI tl) (v : Int32) (r : MR) (J : MJ) : Cq yX12_four MX12_four [.ref 100, .int v] I r J (Rt none (apI I 100 101 tl (bM v)) r J) := by
  refine cq_of [some (.ref 100), some (.int v), none] 1 (by decide +kernel) rfl rfl (Nat.le_of_ble_eq_true rfl) rfl ?_
  refine x_bipush (24) (q := 2) dX12_four_0 rfl (by decide) ?_
  refine x_istore_n (L2 := [some (.ref 100), some (.int v), some (.int 24)]) (q := 3) dX12_four_2 rfl (by decide) rfl rfl ?_
  refine x_iload_n (q := 4) dX12_four_3 rfl rfl ?_
  refine x_if_lt (t := 39) (q := 7) dX12_four_4 (by decide) rfl (fun c4 => absurd c4 ((by decide))) (fun c4 => ?_)
  refine x_aload_n (q := 8) dX12_four_7 rfl rfl ?_
  refine q_gr (K := 0) (b := 101) (q := 11) dX12_four_8 rfl cl_12 (by decide) tw_1082 rfl rfl rfl ?_
  refine x_aload_n (q := 12) dX12_four_11 rfl rfl ?_
  refine q_gi (K := 1) (q := 15) dX12_four_12 rfl cl_12 (by decide) tw_1083 rfl rfl ?_
  refine x_iload_n (q := 16) dX12_four_15 rfl rfl ?_
  refine x_iload_n (q := 17) dX12_four_16 rfl rfl ?_
  refine x_ishr (q := 18) dX12_four_17 rfl ?_
  refine x_sipush (255) (q := 21) dX12_four_18 rfl (by decide) ?_
  refine x_iand (q := 22) dX12_four_21 rfl ?_
  refine q_iast (q := 23) dX12_four_22 rfl rfl (by first | (rw [e1]; exact vp_in_nI (by omega) (by decide)) | (subst_vars; simp only [upq, upcj (show 100 ≠ 101 by decide), e1, nI_p1]; exact vp_in_nI (by omega) (by decide))) (fun I1 eI1 => ?_)
  refine x_aload_n (q := 24) dX12_four_23 rfl rfl ?_
  refine x_dup (q := 25) dX12_four_24 rfl rfl ?_
  refine q_gi (K := 1) (q := 28) dX12_four_25 rfl cl_12 (by decide) tw_1083 rfl rfl ?_
  refine x_iconst (1) (q := 29) dX12_four_28 rfl (by decide) ?_
  refine x_iadd (q := 30) dX12_four_29 rfl ?_
  refine q_pi (K := 1) (q := 33) dX12_four_30 rfl cl_12 (by decide) tw_1083 rfl rfl rfl rfl (fun I2 eI2 => ?_)
  refine x_iinc (v := 16) (L2 := [some (.ref 100), some (.int v), some (.int 16)]) (q := 36) dX12_four_33 rfl (by decide) rfl rfl (by decide) rfl ?_
  refine x_goto (t := 3) dX12_four_36 (by decide) ?_
  refine x_iload_n (q := 4) dX12_four_3 rfl rfl ?_
  refine x_if_lt (t := 39) (q := 7) dX12_four_4 (by decide) rfl (fun c4 => absurd c4 ((by decide))) (fun c4 => ?_)
  refine x_aload_n (q := 8) dX12_four_7 rfl rfl ?_
  refine q_gr (K := 0) (b := 101) (q := 11) dX12_four_8 rfl cl_12 (by decide) tw_1082 rfl rfl rfl ?_
  refine x_aload_n (q := 12) dX12_four_11 rfl rfl ?_
  refine q_gi (K := 1) (q := 15) dX12_four_12 rfl cl_12 (by decide) tw_1083 rfl rfl ?_
  refine x_iload_n (q := 16) dX12_four_15 rfl rfl ?_
  refine x_iload_n (q := 17) dX12_four_16 rfl rfl ?_
  refine x_ishr (q := 18) dX12_four_17 rfl ?_
  refine x_sipush (255) (q := 21) dX12_four_18 rfl (by decide) ?_
  refine x_iand (q := 22) dX12_four_21 rfl ?_
  refine q_iast (q := 23) dX12_four_22 rfl rfl (by first | (rw [e1]; exact vp_in_nI (by omega) (by decide)) | (subst_vars; simp only [upq, upcj (show 100 ≠ 101 by decide), e1, nI_p1]; exact vp_in_nI (by omega) (by decide))) (fun I3 eI3 => ?_)
  refine x_aload_n (q := 24) dX12_four_23 rfl rfl ?_
  refine x_dup (q := 25) dX12_four_24 rfl rfl ?_
  refine q_gi (K := 1) (q := 28) dX12_four_25 rfl cl_12 (by decide) tw_1083 rfl rfl ?_
  refine x_iconst (1) (q := 29) dX12_four_28 rfl (by decide) ?_
  refine x_iadd (q := 30) dX12_four_29 rfl ?_
  refine q_pi (K := 1) (q := 33) dX12_four_30 rfl cl_12 (by decide) tw_1083 rfl rfl rfl rfl (fun I4 eI4 => ?_)
  refine x_iinc (v := 8) (L2 := [some (.ref 100), some (.int v), some (.int 8)]) (q := 36) dX12_four_33 rfl (by decide) rfl rfl (by decide) rfl ?_
  refine x_goto (t := 3) dX12_four_36 (by decide) ?_
  refine x_iload_n (q := 4) dX12_four_3 rfl rfl ?_
  refine x_if_lt (t := 39) (q := 7) dX12_four_4 (by decide) rfl (fun c4 => absurd c4 ((by decide))) (fun c4 => ?_)
  refine x_aload_n (q := 8) dX12_four_7 rfl rfl ?_
  refine q_gr (K := 0) (b := 101) (q := 11) dX12_four_8 rfl cl_12 (by decide) tw_1082 rfl rfl rfl ?_
  refine x_aload_n (q := 12) dX12_four_11 rfl rfl ?_
  refine q_gi (K := 1) (q := 15) dX12_four_12 rfl cl_12 (by decide) tw_1083 rfl rfl ?_
  refine x_iload_n (q := 16) dX12_four_15 rfl rfl ?_
  refine x_iload_n (q := 17) dX12_four_16 rfl rfl ?_
  refine x_ishr (q := 18) dX12_four_17 rfl ?_
  refine x_sipush (255) (q := 21) dX12_four_18 rfl (by decide) ?_
  refine x_iand (q := 22) dX12_four_21 rfl ?_
  refine q_iast (q := 23) dX12_four_22 rfl rfl (by first | (rw [e1]; exact vp_in_nI (by omega) (by decide)) | (subst_vars; simp only [upq, upcj (show 100 ≠ 101 by decide), e1, nI_p1]; exact vp_in_nI (by omega) (by decide))) (fun I5 eI5 => ?_)
  refine x_aload_n (q := 24) dX12_four_23 rfl rfl ?_
  refine x_dup (q := 25) dX12_four_24 rfl rfl ?_
  refine q_gi (K := 1) (q := 28) dX12_four_25 rfl cl_12 (by decide) tw_1083 rfl rfl ?_
  refine x_iconst (1) (q := 29) dX12_four_28 rfl (by decide) ?_
  refine x_iadd (q := 30) dX12_four_29 rfl ?_
  refine q_pi (K := 1) (q := 33) dX12_four_30 rfl cl_12 (by decide) tw_1083 rfl rfl rfl rfl (fun I6 eI6 => ?_)
  refine x_iinc (v := 0) (L2 := [some (.ref 100), some (.int v), some (.int 0)]) (q := 36) dX12_four_33 rfl (by decide) rfl rfl (by decide) rfl ?_
  refine x_goto (t := 3) dX12_four_36 (by decide) ?_
  refine x_iload_n (q := 4) dX12_four_3 rfl rfl ?_
  refine x_if_lt (t := 39) (q := 7) dX12_four_4 (by decide) rfl (fun c4 => absurd c4 ((by decide))) (fun c4 => ?_)
  refine x_aload_n (q := 8) dX12_four_7 rfl rfl ?_
  refine q_gr (K := 0) (b := 101) (q := 11) dX12_four_8 rfl cl_12 (by decide) tw_1082 rfl rfl rfl ?_
  refine x_aload_n (q := 12) dX12_four_11 rfl rfl ?_
  refine q_gi (K := 1) (q := 15) dX12_four_12 rfl cl_12 (by decide) tw_1083 rfl rfl ?_
  refine x_iload_n (q := 16) dX12_four_15 rfl rfl ?_
  refine x_iload_n (q := 17) dX12_four_16 rfl rfl ?_
  refine x_ishr (q := 18) dX12_four_17 rfl ?_
  refine x_sipush (255) (q := 21) dX12_four_18 rfl (by decide) ?_
  refine x_iand (q := 22) dX12_four_21 rfl ?_
  refine q_iast (q := 23) dX12_four_22 rfl rfl (by first | (rw [e1]; exact vp_in_nI (by omega) (by decide)) | (subst_vars; simp only [upq, upcj (show 100 ≠ 101 by decide), e1, nI_p1]; exact vp_in_nI (by omega) (by decide))) (fun I7 eI7 => ?_)
  refine x_aload_n (q := 24) dX12_four_23 rfl rfl ?_
  refine x_dup (q := 25) dX12_four_24 rfl rfl ?_
  refine q_gi (K := 1) (q := 28) dX12_four_25 rfl cl_12 (by decide) tw_1083 rfl rfl ?_
  refine x_iconst (1) (q := 29) dX12_four_28 rfl (by decide) ?_
  refine x_iadd (q := 30) dX12_four_29 rfl ?_
  refine q_pi (K := 1) (q := 33) dX12_four_30 rfl cl_12 (by decide) tw_1083 rfl rfl rfl rfl (fun I8 eI8 => ?_)
  refine x_iinc (v := (-8)) (L2 := [some (.ref 100), some (.int v), some (.int (-8))]) (q := 36) dX12_four_33 rfl (by decide) rfl rfl (by decide) rfl ?_
  refine x_goto (t := 3) dX12_four_36 (by decide) ?_
  refine x_iload_n (q := 4) dX12_four_3 rfl rfl ?_
  refine x_if_lt (t := 39) (q := 7) dX12_four_4 (by decide) rfl (fun c4 => ?_) (fun c4 => absurd c4 ((by decide)))
  refine q_vret dX12_four_39 rfl ?_
  refine ⟨rfl, ?_, rfl, rfl⟩
  subst_vars
  simp only [upq, upcj (show 100 ≠ 101 by decide), e1, nI_p1, nI_clamp (show tl < 2 ^ 31 by omega), nI_clamp (show tl + 1 < 2 ^ 31 by omega), nI_clamp (show tl + 1 + 1 < 2 ^ 31 by omega), nI_clamp (show tl + 1 + 1 + 1 < 2 ^ 31 by omega)]
  exact ap_of (by decide) (by simp [bM, sh24, sh16, sh8, sh0]) (by simp [bM, sh24, sh16, sh8, sh0]) (by simp [bM, sh24, sh16, sh8, sh0]) (by simp [bM, sh24, sh16, sh8, sh0])
set_option maxRecDepth 100000 in
theorem c_Xfeed_g {I : MI} {tl : Nat} (h : tl + 20 ≤ 1700) (e1 : I 0 1 = nI tl) (a b c d e : Int32) (r : MR) (J : MJ) : Cq yX11_feed MX11_feed [.ref 0, .int a, .int b, .int c, .int d, .int e] I r J (Rt (some (.int (nI (tl + 20)))) (apI (apI (apI (apI (apI I 0 1 tl (bX a)) 0 1 (tl + 4) (bX b)) 0 1 (tl + 8) (bX c)) 0 1 (tl + 12) (bX d)) 0 1 (tl + 16) (bX e)) r J) := by
  refine cq_of [some (.ref 0), some (.int a), some (.int b), some (.int c), some (.int d), some (.int e)] 0 (by decide +kernel) rfl rfl (Nat.le_of_ble_eq_true rfl) rfl ?_
  refine x_aload_n (q := 1) dX11_feed_0 rfl rfl ?_
  refine q_gi (K := 1) (q := 4) dX11_feed_1 rfl cl_11 (by decide) tw_568 rfl rfl ?_
  refine x_bipush (20) (q := 6) dX11_feed_4 rfl (by decide) ?_
  refine x_iadd (q := 7) dX11_feed_6 rfl ?_
  refine x_sipush (1700) (q := 10) dX11_feed_7 rfl (by decide) ?_
  refine x_icmp_le (t := 15) (q := 13) dX11_feed_10 (by decide) rfl (fun c10 => ?_) (fun c10 => absurd c10 (fun q => q (by rw [e1]; show nI tl + nI 20 ≤ nI 1700; rw [nI_add]; exact nI_le (by omega) (by decide))))
  refine x_aload_n (q := 16) dX11_feed_15 rfl rfl ?_
  refine x_iload_n (q := 17) dX11_feed_16 rfl rfl ?_
  refine q_callV (ci := 11) (N := 14) (T := TX11) (As := [.int a]) (rest := []) (q := 20) dX11_feed_17 rfl okX11_append tw_615 rfl rfl (c_app (tl := tl) (by omega) (e1) a r J) rfl rfl (Nat.le_of_ble_eq_true rfl) ⟨by decide, by decide⟩ ⟨rfl, rfl⟩ (fun rv_ I_ r_ J_ hv_ => ?_)
  obtain ⟨a1_, a2_, a3_, a4_⟩ := hv_
  rw [a1_, a2_, a3_, a4_]
  show Wq MX11_feed 20 [some (.ref 0), some (.int a), some (.int b), some (.int c), some (.int d), some (.int e)] [] (apI I 0 1 tl (bX a)) r J _
  refine x_aload_n (q := 21) dX11_feed_20 rfl rfl ?_
  refine x_iload_n (q := 22) dX11_feed_21 rfl rfl ?_
  refine q_callV (ci := 11) (N := 14) (T := TX11) (As := [.int b]) (rest := []) (q := 25) dX11_feed_22 rfl okX11_append tw_615 rfl rfl (c_app (tl := tl + 4) (by omega) (rfl) b r J) rfl rfl (Nat.le_of_ble_eq_true rfl) ⟨by decide, by decide⟩ ⟨rfl, rfl⟩ (fun rv_ I_ r_ J_ hv_ => ?_)
  obtain ⟨a1_, a2_, a3_, a4_⟩ := hv_
  rw [a1_, a2_, a3_, a4_]
  show Wq MX11_feed 25 [some (.ref 0), some (.int a), some (.int b), some (.int c), some (.int d), some (.int e)] [] (apI (apI I 0 1 tl (bX a)) 0 1 (tl + 4) (bX b)) r J _
  refine x_aload_n (q := 26) dX11_feed_25 rfl rfl ?_
  refine x_iload_n (q := 27) dX11_feed_26 rfl rfl ?_
  refine q_callV (ci := 11) (N := 14) (T := TX11) (As := [.int c]) (rest := []) (q := 30) dX11_feed_27 rfl okX11_append tw_615 rfl rfl (c_app (tl := tl + 8) (by omega) (rfl) c r J) rfl rfl (Nat.le_of_ble_eq_true rfl) ⟨by decide, by decide⟩ ⟨rfl, rfl⟩ (fun rv_ I_ r_ J_ hv_ => ?_)
  obtain ⟨a1_, a2_, a3_, a4_⟩ := hv_
  rw [a1_, a2_, a3_, a4_]
  show Wq MX11_feed 30 [some (.ref 0), some (.int a), some (.int b), some (.int c), some (.int d), some (.int e)] [] (apI (apI (apI I 0 1 tl (bX a)) 0 1 (tl + 4) (bX b)) 0 1 (tl + 8) (bX c)) r J _
  refine x_aload_n (q := 31) dX11_feed_30 rfl rfl ?_
  refine x_iload (q := 33) dX11_feed_31 rfl rfl ?_
  refine q_callV (ci := 11) (N := 14) (T := TX11) (As := [.int d]) (rest := []) (q := 36) dX11_feed_33 rfl okX11_append tw_615 rfl rfl (c_app (tl := tl + 12) (by omega) (rfl) d r J) rfl rfl (Nat.le_of_ble_eq_true rfl) ⟨by decide, by decide⟩ ⟨rfl, rfl⟩ (fun rv_ I_ r_ J_ hv_ => ?_)
  obtain ⟨a1_, a2_, a3_, a4_⟩ := hv_
  rw [a1_, a2_, a3_, a4_]
  show Wq MX11_feed 36 [some (.ref 0), some (.int a), some (.int b), some (.int c), some (.int d), some (.int e)] [] (apI (apI (apI (apI I 0 1 tl (bX a)) 0 1 (tl + 4) (bX b)) 0 1 (tl + 8) (bX c)) 0 1 (tl + 12) (bX d)) r J _
  refine x_aload_n (q := 37) dX11_feed_36 rfl rfl ?_
  refine x_iload (q := 39) dX11_feed_37 rfl rfl ?_
  refine q_callV (ci := 11) (N := 14) (T := TX11) (As := [.int e]) (rest := []) (q := 42) dX11_feed_39 rfl okX11_append tw_615 rfl rfl (c_app (tl := tl + 16) (by omega) (rfl) e r J) rfl rfl (Nat.le_of_ble_eq_true rfl) ⟨by decide, by decide⟩ ⟨rfl, rfl⟩ (fun rv_ I_ r_ J_ hv_ => ?_)
  obtain ⟨a1_, a2_, a3_, a4_⟩ := hv_
  rw [a1_, a2_, a3_, a4_]
  show Wq MX11_feed 42 [some (.ref 0), some (.int a), some (.int b), some (.int c), some (.int d), some (.int e)] [] (apI (apI (apI (apI (apI I 0 1 tl (bX a)) 0 1 (tl + 4) (bX b)) 0 1 (tl + 8) (bX c)) 0 1 (tl + 12) (bX d)) 0 1 (tl + 16) (bX e)) r J _
  refine x_aload_n (q := 43) dX11_feed_42 rfl rfl ?_
  refine q_gi (K := 1) (q := 46) dX11_feed_43 rfl cl_11 (by decide) tw_568 rfl rfl ?_
  refine q_iret dX11_feed_46 rfl ?_
  exact ⟨rfl, rfl, rfl, rfl⟩
set_option maxRecDepth 100000 in
theorem c_Xfeed_b {I : MI} {tl : Nat} (h : 1700 < tl + 20) (ht : tl ≤ 1700) (e1 : I 0 1 = nI tl) (a b c d e : Int32) (r : MR) (J : MJ) : Cq yX11_feed MX11_feed [.ref 0, .int a, .int b, .int c, .int d, .int e] I r J (Rt (some (.int (-1))) I r J) := by
  refine cq_of [some (.ref 0), some (.int a), some (.int b), some (.int c), some (.int d), some (.int e)] 0 (by decide +kernel) rfl rfl (Nat.le_of_ble_eq_true rfl) rfl ?_
  refine x_aload_n (q := 1) dX11_feed_0 rfl rfl ?_
  refine q_gi (K := 1) (q := 4) dX11_feed_1 rfl cl_11 (by decide) tw_568 rfl rfl ?_
  refine x_bipush (20) (q := 6) dX11_feed_4 rfl (by decide) ?_
  refine x_iadd (q := 7) dX11_feed_6 rfl ?_
  refine x_sipush (1700) (q := 10) dX11_feed_7 rfl (by decide) ?_
  refine x_icmp_le (t := 15) (q := 13) dX11_feed_10 (by decide) rfl (fun c10 => absurd c10 (by rw [e1]; show ¬ nI tl + nI 20 ≤ nI 1700; rw [nI_add]; exact nI_ge (by omega) (by omega))) (fun c10 => ?_)
  refine x_iconst (-1) (q := 14) dX11_feed_13 rfl (by decide) ?_
  refine q_iret dX11_feed_14 rfl ?_
  exact ⟨rfl, rfl, rfl, rfl⟩
set_option maxRecDepth 100000 in
theorem c_Mfeed_g {I : MI} {tl : Nat} (h : tl + 20 ≤ 1700) (e1 : I 100 1 = nI tl) (a b c d e : Int32) (r : MR) (J : MJ) : Cq yX12_feed MX12_feed [.ref 100, .int a, .int b, .int c, .int d, .int e] I r J (Rt (some (.int (nI (tl + 20)))) (apI (apI (apI (apI (apI I 100 101 tl (bM a)) 100 101 (tl + 4) (bM b)) 100 101 (tl + 8) (bM c)) 100 101 (tl + 12) (bM d)) 100 101 (tl + 16) (bM e)) r J) := by
  refine cq_of [some (.ref 100), some (.int a), some (.int b), some (.int c), some (.int d), some (.int e)] 0 (by decide +kernel) rfl rfl (Nat.le_of_ble_eq_true rfl) rfl ?_
  refine x_aload_n (q := 1) dX12_feed_0 rfl rfl ?_
  refine q_gi (K := 1) (q := 4) dX12_feed_1 rfl cl_12 (by decide) tw_1083 rfl rfl ?_
  refine x_bipush (20) (q := 6) dX12_feed_4 rfl (by decide) ?_
  refine x_iadd (q := 7) dX12_feed_6 rfl ?_
  refine x_sipush (1700) (q := 10) dX12_feed_7 rfl (by decide) ?_
  refine x_icmp_le (t := 15) (q := 13) dX12_feed_10 (by decide) rfl (fun c10 => ?_) (fun c10 => absurd c10 (fun q => q (by rw [e1]; show nI tl + nI 20 ≤ nI 1700; rw [nI_add]; exact nI_le (by omega) (by decide))))
  refine x_aload_n (q := 16) dX12_feed_15 rfl rfl ?_
  refine x_iload_n (q := 17) dX12_feed_16 rfl rfl ?_
  refine q_callV (ci := 12) (N := 79) (T := TX12) (As := [.int a]) (rest := []) (q := 20) dX12_feed_17 rfl okX12_four tw_1324 rfl rfl (c_four (tl := tl) (by omega) (e1) a r J) rfl rfl (Nat.le_of_ble_eq_true rfl) ⟨by decide, by decide⟩ ⟨rfl, rfl⟩ (fun rv_ I_ r_ J_ hv_ => ?_)
  obtain ⟨a1_, a2_, a3_, a4_⟩ := hv_
  rw [a1_, a2_, a3_, a4_]
  show Wq MX12_feed 20 [some (.ref 100), some (.int a), some (.int b), some (.int c), some (.int d), some (.int e)] [] (apI I 100 101 tl (bM a)) r J _
  refine x_aload_n (q := 21) dX12_feed_20 rfl rfl ?_
  refine x_iload_n (q := 22) dX12_feed_21 rfl rfl ?_
  refine q_callV (ci := 12) (N := 79) (T := TX12) (As := [.int b]) (rest := []) (q := 25) dX12_feed_22 rfl okX12_four tw_1324 rfl rfl (c_four (tl := tl + 4) (by omega) (rfl) b r J) rfl rfl (Nat.le_of_ble_eq_true rfl) ⟨by decide, by decide⟩ ⟨rfl, rfl⟩ (fun rv_ I_ r_ J_ hv_ => ?_)
  obtain ⟨a1_, a2_, a3_, a4_⟩ := hv_
  rw [a1_, a2_, a3_, a4_]
  show Wq MX12_feed 25 [some (.ref 100), some (.int a), some (.int b), some (.int c), some (.int d), some (.int e)] [] (apI (apI I 100 101 tl (bM a)) 100 101 (tl + 4) (bM b)) r J _
  refine x_aload_n (q := 26) dX12_feed_25 rfl rfl ?_
  refine x_iload_n (q := 27) dX12_feed_26 rfl rfl ?_
  refine q_callV (ci := 12) (N := 79) (T := TX12) (As := [.int c]) (rest := []) (q := 30) dX12_feed_27 rfl okX12_four tw_1324 rfl rfl (c_four (tl := tl + 8) (by omega) (rfl) c r J) rfl rfl (Nat.le_of_ble_eq_true rfl) ⟨by decide, by decide⟩ ⟨rfl, rfl⟩ (fun rv_ I_ r_ J_ hv_ => ?_)
  obtain ⟨a1_, a2_, a3_, a4_⟩ := hv_
  rw [a1_, a2_, a3_, a4_]
  show Wq MX12_feed 30 [some (.ref 100), some (.int a), some (.int b), some (.int c), some (.int d), some (.int e)] [] (apI (apI (apI I 100 101 tl (bM a)) 100 101 (tl + 4) (bM b)) 100 101 (tl + 8) (bM c)) r J _
  refine x_aload_n (q := 31) dX12_feed_30 rfl rfl ?_
  refine x_iload (q := 33) dX12_feed_31 rfl rfl ?_
  refine q_callV (ci := 12) (N := 79) (T := TX12) (As := [.int d]) (rest := []) (q := 36) dX12_feed_33 rfl okX12_four tw_1324 rfl rfl (c_four (tl := tl + 12) (by omega) (rfl) d r J) rfl rfl (Nat.le_of_ble_eq_true rfl) ⟨by decide, by decide⟩ ⟨rfl, rfl⟩ (fun rv_ I_ r_ J_ hv_ => ?_)
  obtain ⟨a1_, a2_, a3_, a4_⟩ := hv_
  rw [a1_, a2_, a3_, a4_]
  show Wq MX12_feed 36 [some (.ref 100), some (.int a), some (.int b), some (.int c), some (.int d), some (.int e)] [] (apI (apI (apI (apI I 100 101 tl (bM a)) 100 101 (tl + 4) (bM b)) 100 101 (tl + 8) (bM c)) 100 101 (tl + 12) (bM d)) r J _
  refine x_aload_n (q := 37) dX12_feed_36 rfl rfl ?_
  refine x_iload (q := 39) dX12_feed_37 rfl rfl ?_
  refine q_callV (ci := 12) (N := 79) (T := TX12) (As := [.int e]) (rest := []) (q := 42) dX12_feed_39 rfl okX12_four tw_1324 rfl rfl (c_four (tl := tl + 16) (by omega) (rfl) e r J) rfl rfl (Nat.le_of_ble_eq_true rfl) ⟨by decide, by decide⟩ ⟨rfl, rfl⟩ (fun rv_ I_ r_ J_ hv_ => ?_)
  obtain ⟨a1_, a2_, a3_, a4_⟩ := hv_
  rw [a1_, a2_, a3_, a4_]
  show Wq MX12_feed 42 [some (.ref 100), some (.int a), some (.int b), some (.int c), some (.int d), some (.int e)] [] (apI (apI (apI (apI (apI I 100 101 tl (bM a)) 100 101 (tl + 4) (bM b)) 100 101 (tl + 8) (bM c)) 100 101 (tl + 12) (bM d)) 100 101 (tl + 16) (bM e)) r J _
  refine x_aload_n (q := 43) dX12_feed_42 rfl rfl ?_
  refine q_gi (K := 1) (q := 46) dX12_feed_43 rfl cl_12 (by decide) tw_1083 rfl rfl ?_
  refine q_iret dX12_feed_46 rfl ?_
  exact ⟨rfl, rfl, rfl, rfl⟩
set_option maxRecDepth 100000 in
theorem c_Mfeed_b {I : MI} {tl : Nat} (h : 1700 < tl + 20) (ht : tl ≤ 1700) (e1 : I 100 1 = nI tl) (a b c d e : Int32) (r : MR) (J : MJ) : Cq yX12_feed MX12_feed [.ref 100, .int a, .int b, .int c, .int d, .int e] I r J (Rt (some (.int (-1))) I r J) := by
  refine cq_of [some (.ref 100), some (.int a), some (.int b), some (.int c), some (.int d), some (.int e)] 0 (by decide +kernel) rfl rfl (Nat.le_of_ble_eq_true rfl) rfl ?_
  refine x_aload_n (q := 1) dX12_feed_0 rfl rfl ?_
  refine q_gi (K := 1) (q := 4) dX12_feed_1 rfl cl_12 (by decide) tw_1083 rfl rfl ?_
  refine x_bipush (20) (q := 6) dX12_feed_4 rfl (by decide) ?_
  refine x_iadd (q := 7) dX12_feed_6 rfl ?_
  refine x_sipush (1700) (q := 10) dX12_feed_7 rfl (by decide) ?_
  refine x_icmp_le (t := 15) (q := 13) dX12_feed_10 (by decide) rfl (fun c10 => absurd c10 (by rw [e1]; show ¬ nI tl + nI 20 ≤ nI 1700; rw [nI_add]; exact nI_ge (by omega) (by omega))) (fun c10 => ?_)
  refine x_iconst (-1) (q := 14) dX12_feed_13 rfl (by decide) ?_
  refine q_iret dX12_feed_14 rfl ?_
  exact ⟨rfl, rfl, rfl, rfl⟩
theorem ap_c {I : MI} {a t tl : Nat} {f : Nat → Int32} {c : Nat} (h1 : c ≠ a) (h2 : c ≠ t) : apI I a t tl f c = I c := by
  funext j
  unfold apI
  rw [if_neg (fun e => h1 e.1), if_neg (fun e => h2 e.1)]
theorem ap_a {I : MI} {a t tl j : Nat} {f : Nat → Int32} (ha : a ≠ t) (h1 : ¬ j = 1) : apI I a t tl f a j = I a j := by
  unfold apI
  rw [if_neg (fun e => h1 e.2), if_neg (fun e => ha e.1)]
theorem ap_1 {I : MI} {a t tl : Nat} {f : Nat → Int32} : apI I a t tl f a 1 = nI (tl + 4) := if_pos ⟨rfl, rfl⟩
theorem ap_t {I : MI} {a t tl j : Nat} {f : Nat → Int32} (h : t ≠ a) : apI I a t tl f t j = if tl ≤ j ∧ j < tl + 4 then f (j - tl) else I t j := by
  unfold apI
  rw [if_neg (fun e => h e.1)]
  by_cases q : tl ≤ j ∧ j < tl + 4
  · rw [if_pos ⟨rfl, q⟩, if_pos q]
  · rw [if_neg (fun e => q e.2), if_neg q]
theorem by_step {x m : Nat → Int32} {tl : Nat} (v : Int32) (h : ∀ j, j < tl → byteIs (x j) (m j)) : ∀ j, j < tl + 4 → byteIs (if tl ≤ j ∧ j < tl + 4 then bX v (j - tl) else x j) (if tl ≤ j ∧ j < tl + 4 then bM v (j - tl) else m j) := by
  intro j hj
  by_cases q : tl ≤ j ∧ j < tl + 4
  · rw [if_pos q, if_pos q]
    exact byteOk v _ (by omega)
  · rw [if_neg q, if_neg q]
    exact h j (by omega)
theorem op_feed (a b c d e : Int32) : OpOk yX11_feed MX11_feed yX12_feed MX12_feed [.int a, .int b, .int c, .int d, .int e] := by
  intro I r J hrel
  have hre2 := hrel
  obtain ⟨b0, yn, wn, hn, sn, st, hr, hl, hR, hJ⟩ := hrel
  have hb := (refs_L hr).2
  have hb2 : 2 ≤ b0 := by rcases hr.2.2 with ⟨q, -⟩ | ⟨q, -⟩ <;> omega
  obtain ⟨⟨tl, t1, t2, t3, t4⟩, r2, r3, r4⟩ := hR
  by_cases h1 : tl + 20 ≤ 1700
  · refine op_put (c_Xfeed_g h1 t2 a b c d e r J) (c_Mfeed_g h1 (by repeat rw [ap_c (by decide) (by decide)]
                                                                    exact t3) a b c d e r J) ?_
    generalize hI2 : apI (apI (apI (apI (apI (apI (apI (apI (apI (apI I 0 1 tl (bX a)) 0 1 (tl + 4) (bX b)) 0 1 (tl + 8) (bX c)) 0 1 (tl + 12) (bX d)) 0 1 (tl + 16) (bX e)) 100 101 tl (bM a)) 100 101 (tl + 4) (bM b)) 100 101 (tl + 8) (bM c)) 100 101 (tl + 12) (bM d)) 100 101 (tl + 16) (bM e) = I2
    have frc : ∀ c, ¬ c = 0 → ¬ c = 1 → ¬ c = 100 → ¬ c = 101 → I2 c = I c := fun c q1 q2 q3 q4 => by
      rw [← hI2, ap_c q3 q4, ap_c q3 q4, ap_c q3 q4, ap_c q3 q4, ap_c q3 q4, ap_c q1 q2, ap_c q1 q2, ap_c q1 q2, ap_c q1 q2, ap_c q1 q2]
    have f0 : ∀ j, ¬ j = 1 → I2 0 j = I 0 j := fun j q => by
      rw [← hI2, ap_c (by decide) (by decide), ap_c (by decide) (by decide), ap_c (by decide) (by decide), ap_c (by decide) (by decide), ap_c (by decide) (by decide), ap_a (by decide) q, ap_a (by decide) q, ap_a (by decide) q, ap_a (by decide) q, ap_a (by decide) q]
    have f1 : ∀ j, ¬ j = 1 → I2 100 j = I 100 j := fun j q => by
      rw [← hI2, ap_a (by decide) q, ap_a (by decide) q, ap_a (by decide) q, ap_a (by decide) q, ap_a (by decide) q, ap_c (by decide) (by decide), ap_c (by decide) (by decide), ap_c (by decide) (by decide), ap_c (by decide) (by decide), ap_c (by decide) (by decide)]
    have v0 : I2 0 1 = nI (tl + 20) := by
      rw [← hI2, ap_c (by decide) (by decide), ap_c (by decide) (by decide), ap_c (by decide) (by decide), ap_c (by decide) (by decide), ap_c (by decide) (by decide), ap_1]
    have v1 : I2 100 1 = nI (tl + 20) := by rw [← hI2, ap_1]
    refine ⟨b0, yn, wn, hn, sn, st, hr, ?_, ⟨⟨tl + 20, h1, v0, v1, fun j hj => ?_⟩, ?_, ?_, ?_⟩, hJ⟩
    · refine RelL_c (fun c q1 q2 q3 => frc c (by unfold regL regM at q3; omega) (by unfold regL regM at q3; omega) (by unfold regL regM at q3; omega) (by unfold regL regM at q3; omega)) (by rw [frc 88 (by decide) (by decide) (by decide) (by decide)]) (fun j hj => f1 j (by omega)) hb hl
    · have k := by_step e (by_step d (by_step c (by_step b (by_step a t4)))) j hj
      rw [← hI2, ap_c (c := 1) (by decide) (by decide), ap_c (c := 1) (by decide) (by decide), ap_c (c := 1) (by decide) (by decide), ap_c (c := 1) (by decide) (by decide), ap_c (c := 1) (by decide) (by decide)]
      rw [ap_t (by decide), ap_t (by decide), ap_t (by decide), ap_t (by decide), ap_t (by decide), ap_t (by decide), ap_t (by decide), ap_t (by decide), ap_t (by decide), ap_t (by decide), ap_c (c := 101) (by decide) (by decide), ap_c (c := 101) (by decide) (by decide), ap_c (c := 101) (by decide) (by decide), ap_c (c := 101) (by decide) (by decide), ap_c (c := 101) (by decide) (by decide)]
      exact k
    · unfold RFault at r2 ⊢
      rw [f1 2 (by decide), f1 3 (by decide), frc 54 (by decide) (by decide) (by decide) (by decide)]
      exact r2
    · unfold RTime at r3 ⊢
      rw [f1 73 (by decide), f0 11 (by decide)]
      exact r3
    · unfold ROrd at r4 ⊢
      rw [f1 61 (by decide), frc 80 (by decide) (by decide) (by decide) (by decide), frc 84 (by decide) (by decide) (by decide) (by decide), frc 130 (by decide) (by decide) (by decide) (by decide)]
      exact r4
  · exact op_put (c_Xfeed_b (by omega) t1 t2 a b c d e r J) (c_Mfeed_b (by omega) t1 t3 a b c d e r J) hre2
