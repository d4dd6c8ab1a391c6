theorem MD_f {T : Nat → Nat} {n : Nat} {A : MI} {yn wn hn sn : Nat} {M Y : MI} {J K : MJ} (h : MD T n A yn wn hn sn M J) (hf : FM M J Y K) : MD T n A yn wn hn sn Y K := by
  obtain ⟨k0, ⟨y8, w16, h12, s7⟩, ⟨m33, m34, m35, m36⟩, hMN, hMy, hMh, hMs, hMw, hMo⟩ := h
  have e1 : ∀ j, 33 ≤ j → Y 100 j = M 100 j := fun j z => hf.2.1 j (by omega) (by omega) (by omega) (by omega) (by omega) (by omega)
  exact ⟨k0, ⟨y8, w16, h12, s7⟩, ⟨by rw [e1 33 (by decide)]; exact m33, by rw [e1 34 (by decide)]; exact m34, by rw [e1 35 (by decide)]; exact m35, by rw [e1 36 (by decide)]; exact m36⟩, MN_c hMN rfl (fun i => hf.2.2 102 i (by omega)), My_c hMy y8 (fun _ _ _ => rfl) (fun c z1 z2 => hf.1 c (by omega)), Mh_c hMh (fun _ _ _ => rfl) (fun c z1 z2 => hf.1 c (by omega)), Ms_c hMs rfl rfl (hf.1 112 (by decide)) (hf.1 113 (by decide)), Mw_c hMw (Nat.le_refl _) (fun _ _ _ => rfl) (hf.1 108 (by decide)), Mo_c hMo (Nat.le_refl _) (fun _ _ _ => rfl) (fun j z1 z2 => e1 j (by omega))⟩
theorem tbo_s (tb k : Nat) : (tb ||| 2 ^ k).testBit k = true := by
  rw [Nat.testBit_or, Nat.testBit_two_pow_self, Bool.or_true]
theorem tbo_n {tb k i : Nat} (h : k ≠ i) : (tb ||| 2 ^ k).testBit i = tb.testBit i := by
  rw [Nat.testBit_or, Nat.testBit_two_pow_of_ne h, Bool.or_false]
theorem MD_k {T : Nat → Nat} {n : Nat} {A : MI} {yn wn hn sn : Nat} {M : MI} {J : MJ} (h : MD T n A yn wn hn sn M J) : yA A = yn ∧ wA A = wn ∧ hA A = hn ∧ sA A = sn := by
  obtain ⟨⟨k1, k5, k9, k12⟩, ⟨y8, w16, h12, s7⟩, -⟩ := h
  unfold yA wA hA sA
  rw [k1, k5, k9, k12, nI_clamp (by omega), nI_clamp (by omega), nI_clamp (by omega), nI_clamp (by omega)]
  exact ⟨rfl, rfl, rfl, rfl⟩
theorem MD_on4 {T : Nat → Nat} {n : Nat} {A : MI} {yn wn hn sn : Nat} {M Y : MI} {J K : MJ} (h : MD T n A yn wn hn sn M J) {tb v : Nat} (t256 : tb < 256) (k17 : A 0 17 = nI tb) (hv : v ≤ 9999) (hd : DA (upI M 100 37 (nI v)) Y) (hk : ∀ i, K 102 i = J 102 i) : MD T n (upI (upI A 0 17 (nI (tb ||| 2 ^ 4))) 0 13 (nI v)) yn wn hn sn Y K := by
  obtain ⟨⟨k1, k5, k9, k12⟩, ⟨y8, w16, h12, s7⟩, ⟨m33, m34, m35, m36⟩, hMN, hMy, hMh, hMs, hMw, hMo⟩ := h
  have ea : ∀ c', ¬ c' = 0 → (upI (upI A 0 17 (nI (tb ||| 2 ^ 4))) 0 13 (nI v)) c' = A c' := fun c' z0  => by rw [upc (by omega), upc (by omega)]
  have e0 : ∀ j, ¬ j = 17 → ¬ j = 13 → (upI (upI A 0 17 (nI (tb ||| 2 ^ 4))) 0 13 (nI v)) 0 j = A 0 j := fun j _ _ => by rw [ups (by omega), ups (by omega)]
  have em : ∀ c', 103 ≤ c' → c' ≤ 113 → Y c' = M c' := fun c' z1 z2  => by rw [hd.1 c' z1 z2, upc (by omega)]
  have e1 : ∀ j, 33 ≤ j → j ≤ 40 → ¬ j = 37 → Y 100 j = M 100 j := fun j z1 z2 _ => by rw [hd.2 j z1 z2, ups (by omega)]
  refine ⟨⟨by rw [e0 1 (by omega) (by omega)]; exact k1, by rw [e0 5 (by omega) (by omega)]; exact k5, by rw [e0 9 (by omega) (by omega)]; exact k9, by rw [e0 12 (by omega) (by omega)]; exact k12⟩, ⟨by omega, by omega, by omega, by omega⟩, ⟨by rw [e1 33 (by decide) (by decide) (by omega)]; exact m33, by rw [e1 34 (by decide) (by decide) (by omega)]; exact m34, by rw [e1 35 (by decide) (by decide) (by omega)]; exact m35, by rw [e1 36 (by decide) (by decide) (by omega)]; exact m36⟩, MN_c hMN (ea 26 (by omega)) hk, My_c hMy y8 (fun c' z1 z2 => ea c' (by omega)) (fun c' z1 z2 => em c' (by omega) (by omega) ), Mh_c hMh (fun c' z1 z2 => ea c' (by omega)) (fun c' z1 z2 => em c' (by omega) (by omega) ), Ms_c hMs (ea 8 (by omega)) (ea 9 (by omega)) (em 112 (by decide) (by decide) ) (em 113 (by decide) (by decide) ), Mw_c hMw (Nat.le_refl _) (fun c' z1 z2 => ea c' (by omega)) (em 108 (by decide) (by decide) ), ?_⟩
  · obtain ⟨tb', c1, c2, o4, o5, o6, o7, o8⟩ := hMo
    obtain rfl : tb' = tb := (nI_eq (by omega) (by omega)).mp (c2.symm.trans k17)
    refine ⟨tb' ||| 2 ^ 4, Nat.or_lt_two_pow (n := 8) t256 (by decide), by rw [ups (by decide), upq], ?_, ?_, ?_, ?_, ?_⟩
    · exact ⟨fun z => absurd z (by rw [tbo_s]; decide), fun _ => ⟨v, hv, by rw [upq], by rw [hd.2 37 (by decide) (by decide), upq]⟩⟩
    · unfold oM at o5 ⊢
      rw [tbo_n (by decide), e0 14 (by decide) (by decide), e1 38 (by decide) (by decide) (by decide)]
      exact o5
    · unfold oM at o6 ⊢
      rw [tbo_n (by decide), e0 15 (by decide) (by decide), e1 39 (by decide) (by decide) (by decide)]
      exact o6
    · unfold oM at o7 ⊢
      rw [tbo_n (by decide), e0 16 (by decide) (by decide), e1 40 (by decide) (by decide) (by decide)]
      exact o7
    · intro z
      rw [tbo_n (by decide)] at z
      rw [e0 15 (by decide) (by decide)]
      exact o8 z
theorem MD_on5 {T : Nat → Nat} {n : Nat} {A : MI} {yn wn hn sn : Nat} {M Y : MI} {J K : MJ} (h : MD T n A yn wn hn sn M J) {tb v : Nat} (t256 : tb < 256) (k17 : A 0 17 = nI tb) (hv : v ≤ 9999) (hd : DA (upI M 100 38 (nI v)) Y) (hk : ∀ i, K 102 i = J 102 i) : MD T n (upI (upI A 0 17 (nI (tb ||| 2 ^ 5))) 0 14 (nI v)) yn wn hn sn Y K := by
  obtain ⟨⟨k1, k5, k9, k12⟩, ⟨y8, w16, h12, s7⟩, ⟨m33, m34, m35, m36⟩, hMN, hMy, hMh, hMs, hMw, hMo⟩ := h
  have ea : ∀ c', ¬ c' = 0 → (upI (upI A 0 17 (nI (tb ||| 2 ^ 5))) 0 14 (nI v)) c' = A c' := fun c' z0  => by rw [upc (by omega), upc (by omega)]
  have e0 : ∀ j, ¬ j = 17 → ¬ j = 14 → (upI (upI A 0 17 (nI (tb ||| 2 ^ 5))) 0 14 (nI v)) 0 j = A 0 j := fun j _ _ => by rw [ups (by omega), ups (by omega)]
  have em : ∀ c', 103 ≤ c' → c' ≤ 113 → Y c' = M c' := fun c' z1 z2  => by rw [hd.1 c' z1 z2, upc (by omega)]
  have e1 : ∀ j, 33 ≤ j → j ≤ 40 → ¬ j = 38 → Y 100 j = M 100 j := fun j z1 z2 _ => by rw [hd.2 j z1 z2, ups (by omega)]
  refine ⟨⟨by rw [e0 1 (by omega) (by omega)]; exact k1, by rw [e0 5 (by omega) (by omega)]; exact k5, by rw [e0 9 (by omega) (by omega)]; exact k9, by rw [e0 12 (by omega) (by omega)]; exact k12⟩, ⟨by omega, by omega, by omega, by omega⟩, ⟨by rw [e1 33 (by decide) (by decide) (by omega)]; exact m33, by rw [e1 34 (by decide) (by decide) (by omega)]; exact m34, by rw [e1 35 (by decide) (by decide) (by omega)]; exact m35, by rw [e1 36 (by decide) (by decide) (by omega)]; exact m36⟩, MN_c hMN (ea 26 (by omega)) hk, My_c hMy y8 (fun c' z1 z2 => ea c' (by omega)) (fun c' z1 z2 => em c' (by omega) (by omega) ), Mh_c hMh (fun c' z1 z2 => ea c' (by omega)) (fun c' z1 z2 => em c' (by omega) (by omega) ), Ms_c hMs (ea 8 (by omega)) (ea 9 (by omega)) (em 112 (by decide) (by decide) ) (em 113 (by decide) (by decide) ), Mw_c hMw (Nat.le_refl _) (fun c' z1 z2 => ea c' (by omega)) (em 108 (by decide) (by decide) ), ?_⟩
  · obtain ⟨tb', c1, c2, o4, o5, o6, o7, o8⟩ := hMo
    obtain rfl : tb' = tb := (nI_eq (by omega) (by omega)).mp (c2.symm.trans k17)
    refine ⟨tb' ||| 2 ^ 5, Nat.or_lt_two_pow (n := 8) t256 (by decide), by rw [ups (by decide), upq], ?_, ?_, ?_, ?_, ?_⟩
    · unfold oM at o4 ⊢
      rw [tbo_n (by decide), e0 13 (by decide) (by decide), e1 37 (by decide) (by decide) (by decide)]
      exact o4
    · exact ⟨fun z => absurd z (by rw [tbo_s]; decide), fun _ => ⟨v, hv, by rw [upq], by rw [hd.2 38 (by decide) (by decide), upq]⟩⟩
    · unfold oM at o6 ⊢
      rw [tbo_n (by decide), e0 15 (by decide) (by decide), e1 39 (by decide) (by decide) (by decide)]
      exact o6
    · unfold oM at o7 ⊢
      rw [tbo_n (by decide), e0 16 (by decide) (by decide), e1 40 (by decide) (by decide) (by decide)]
      exact o7
    · intro z
      rw [tbo_n (by decide)] at z
      rw [e0 15 (by decide) (by decide)]
      exact o8 z
theorem MD_on6 {T : Nat → Nat} {n : Nat} {A : MI} {yn wn hn sn : Nat} {M Y : MI} {J K : MJ} (h : MD T n A yn wn hn sn M J) {tb v : Nat} (t256 : tb < 256) (k17 : A 0 17 = nI tb) (hv : v ≤ 9999) (hvy : v < yn) (hd : DA (upI M 100 39 (nI v)) Y) (hk : ∀ i, K 102 i = J 102 i) : MD T n (upI (upI A 0 17 (nI (tb ||| 2 ^ 6))) 0 15 (nI v)) yn wn hn sn Y K := by
  obtain ⟨⟨k1, k5, k9, k12⟩, ⟨y8, w16, h12, s7⟩, ⟨m33, m34, m35, m36⟩, hMN, hMy, hMh, hMs, hMw, hMo⟩ := h
  have ea : ∀ c', ¬ c' = 0 → (upI (upI A 0 17 (nI (tb ||| 2 ^ 6))) 0 15 (nI v)) c' = A c' := fun c' z0  => by rw [upc (by omega), upc (by omega)]
  have e0 : ∀ j, ¬ j = 17 → ¬ j = 15 → (upI (upI A 0 17 (nI (tb ||| 2 ^ 6))) 0 15 (nI v)) 0 j = A 0 j := fun j _ _ => by rw [ups (by omega), ups (by omega)]
  have em : ∀ c', 103 ≤ c' → c' ≤ 113 → Y c' = M c' := fun c' z1 z2  => by rw [hd.1 c' z1 z2, upc (by omega)]
  have e1 : ∀ j, 33 ≤ j → j ≤ 40 → ¬ j = 39 → Y 100 j = M 100 j := fun j z1 z2 _ => by rw [hd.2 j z1 z2, ups (by omega)]
  refine ⟨⟨by rw [e0 1 (by omega) (by omega)]; exact k1, by rw [e0 5 (by omega) (by omega)]; exact k5, by rw [e0 9 (by omega) (by omega)]; exact k9, by rw [e0 12 (by omega) (by omega)]; exact k12⟩, ⟨by omega, by omega, by omega, by omega⟩, ⟨by rw [e1 33 (by decide) (by decide) (by omega)]; exact m33, by rw [e1 34 (by decide) (by decide) (by omega)]; exact m34, by rw [e1 35 (by decide) (by decide) (by omega)]; exact m35, by rw [e1 36 (by decide) (by decide) (by omega)]; exact m36⟩, MN_c hMN (ea 26 (by omega)) hk, My_c hMy y8 (fun c' z1 z2 => ea c' (by omega)) (fun c' z1 z2 => em c' (by omega) (by omega) ), Mh_c hMh (fun c' z1 z2 => ea c' (by omega)) (fun c' z1 z2 => em c' (by omega) (by omega) ), Ms_c hMs (ea 8 (by omega)) (ea 9 (by omega)) (em 112 (by decide) (by decide) ) (em 113 (by decide) (by decide) ), Mw_c hMw (Nat.le_refl _) (fun c' z1 z2 => ea c' (by omega)) (em 108 (by decide) (by decide) ), ?_⟩
  · obtain ⟨tb', c1, c2, o4, o5, o6, o7, o8⟩ := hMo
    obtain rfl : tb' = tb := (nI_eq (by omega) (by omega)).mp (c2.symm.trans k17)
    refine ⟨tb' ||| 2 ^ 6, Nat.or_lt_two_pow (n := 8) t256 (by decide), by rw [ups (by decide), upq], ?_, ?_, ?_, ?_, ?_⟩
    · unfold oM at o4 ⊢
      rw [tbo_n (by decide), e0 13 (by decide) (by decide), e1 37 (by decide) (by decide) (by decide)]
      exact o4
    · unfold oM at o5 ⊢
      rw [tbo_n (by decide), e0 14 (by decide) (by decide), e1 38 (by decide) (by decide) (by decide)]
      exact o5
    · exact ⟨fun z => absurd z (by rw [tbo_s]; decide), fun _ => ⟨v, hv, by rw [upq], by rw [hd.2 39 (by decide) (by decide), upq]⟩⟩
    · unfold oM at o7 ⊢
      rw [tbo_n (by decide), e0 16 (by decide) (by decide), e1 40 (by decide) (by decide) (by decide)]
      exact o7
    · exact fun _ => ⟨v, hvy, by rw [upq]⟩
theorem MD_on7 {T : Nat → Nat} {n : Nat} {A : MI} {yn wn hn sn : Nat} {M Y : MI} {J K : MJ} (h : MD T n A yn wn hn sn M J) {tb v : Nat} (t256 : tb < 256) (k17 : A 0 17 = nI tb) (hv : v ≤ 9999) (hd : DA (upI M 100 40 (nI v)) Y) (hk : ∀ i, K 102 i = J 102 i) : MD T n (upI (upI A 0 17 (nI (tb ||| 2 ^ 7))) 0 16 (nI v)) yn wn hn sn Y K := by
  obtain ⟨⟨k1, k5, k9, k12⟩, ⟨y8, w16, h12, s7⟩, ⟨m33, m34, m35, m36⟩, hMN, hMy, hMh, hMs, hMw, hMo⟩ := h
  have ea : ∀ c', ¬ c' = 0 → (upI (upI A 0 17 (nI (tb ||| 2 ^ 7))) 0 16 (nI v)) c' = A c' := fun c' z0  => by rw [upc (by omega), upc (by omega)]
  have e0 : ∀ j, ¬ j = 17 → ¬ j = 16 → (upI (upI A 0 17 (nI (tb ||| 2 ^ 7))) 0 16 (nI v)) 0 j = A 0 j := fun j _ _ => by rw [ups (by omega), ups (by omega)]
  have em : ∀ c', 103 ≤ c' → c' ≤ 113 → Y c' = M c' := fun c' z1 z2  => by rw [hd.1 c' z1 z2, upc (by omega)]
  have e1 : ∀ j, 33 ≤ j → j ≤ 40 → ¬ j = 40 → Y 100 j = M 100 j := fun j z1 z2 _ => by rw [hd.2 j z1 z2, ups (by omega)]
  refine ⟨⟨by rw [e0 1 (by omega) (by omega)]; exact k1, by rw [e0 5 (by omega) (by omega)]; exact k5, by rw [e0 9 (by omega) (by omega)]; exact k9, by rw [e0 12 (by omega) (by omega)]; exact k12⟩, ⟨by omega, by omega, by omega, by omega⟩, ⟨by rw [e1 33 (by decide) (by decide) (by omega)]; exact m33, by rw [e1 34 (by decide) (by decide) (by omega)]; exact m34, by rw [e1 35 (by decide) (by decide) (by omega)]; exact m35, by rw [e1 36 (by decide) (by decide) (by omega)]; exact m36⟩, MN_c hMN (ea 26 (by omega)) hk, My_c hMy y8 (fun c' z1 z2 => ea c' (by omega)) (fun c' z1 z2 => em c' (by omega) (by omega) ), Mh_c hMh (fun c' z1 z2 => ea c' (by omega)) (fun c' z1 z2 => em c' (by omega) (by omega) ), Ms_c hMs (ea 8 (by omega)) (ea 9 (by omega)) (em 112 (by decide) (by decide) ) (em 113 (by decide) (by decide) ), Mw_c hMw (Nat.le_refl _) (fun c' z1 z2 => ea c' (by omega)) (em 108 (by decide) (by decide) ), ?_⟩
  · obtain ⟨tb', c1, c2, o4, o5, o6, o7, o8⟩ := hMo
    obtain rfl : tb' = tb := (nI_eq (by omega) (by omega)).mp (c2.symm.trans k17)
    refine ⟨tb' ||| 2 ^ 7, Nat.or_lt_two_pow (n := 8) t256 (by decide), by rw [ups (by decide), upq], ?_, ?_, ?_, ?_, ?_⟩
    · unfold oM at o4 ⊢
      rw [tbo_n (by decide), e0 13 (by decide) (by decide), e1 37 (by decide) (by decide) (by decide)]
      exact o4
    · unfold oM at o5 ⊢
      rw [tbo_n (by decide), e0 14 (by decide) (by decide), e1 38 (by decide) (by decide) (by decide)]
      exact o5
    · unfold oM at o6 ⊢
      rw [tbo_n (by decide), e0 15 (by decide) (by decide), e1 39 (by decide) (by decide) (by decide)]
      exact o6
    · exact ⟨fun z => absurd z (by rw [tbo_s]; decide), fun _ => ⟨v, hv, by rw [upq], by rw [hd.2 40 (by decide) (by decide), upq]⟩⟩
    · intro z
      rw [tbo_n (by decide)] at z
      rw [e0 15 (by decide) (by decide)]
      exact o8 z
set_option maxRecDepth 100000 in
theorem l_rlT_f {T : Nat → Nat} {n : Nat} (r : MR) {V : MI} {K : MJ} {u : Nat × Nat × Nat} (pm0 : PM T n u V K) (z0 : ¬ u.1 = 0) : Wq MX12_readLine 221 [some (.ref 100)] [] V r K (RM none T n u V K r) := by
  refine x_aload_n (q := 222) dX12_readLine_221 rfl rfl ?_
  refine q_gi (K := 2) (q := 225) dX12_readLine_222 rfl cl_12 (by decide) tw_1084 rfl rfl ?_
  refine x_if_ne (t := 242) (q := 228) dX12_readLine_225 (by decide) rfl (fun c225 => ?_) (fun c225 => absurd c225 (fun z => z0 (f_0 pm0.2.2.1 pm0.2.2.2.2.2.1 z)))
  refine x_aload_n (q := 243) dX12_readLine_242 rfl rfl ?_
  refine q_gi (K := 2) (q := 246) dX12_readLine_243 rfl cl_12 (by decide) tw_1084 rfl rfl ?_
  refine x_if_ne (t := 253) (q := 249) dX12_readLine_246 (by decide) rfl (fun c246 => ?_) (fun c246 => absurd c246 (fun z => z0 (f_0 pm0.2.2.1 pm0.2.2.2.2.2.1 z)))
  refine q_vret dX12_readLine_253 rfl ?_
  exact ⟨rfl, pm0, FM.rf, rfl⟩
set_option maxRecDepth 100000 in
theorem l_rlT_g {T : Nat → Nat} {n : Nat} (r : MR) {V : MI} {K : MJ} {u : Nat × Nat × Nat} (pm0 : PM T n u V K) (z0 : u.1 = 0) (k4 : kd T n u.2.2 = 4) : Wq MX12_readLine 221 [some (.ref 100)] [] V r K (RM none T n (adv T n u) V K r) := by
  have hL := pm0.2.2.2.2.2.2 z0
  refine x_aload_n (q := 222) dX12_readLine_221 rfl rfl ?_
  refine q_gi (K := 2) (q := 225) dX12_readLine_222 rfl cl_12 (by decide) tw_1084 rfl rfl ?_
  refine x_if_ne (t := 242) (q := 228) dX12_readLine_225 (by decide) rfl (fun c225 => absurd c225 (fun z => z (by rw [pm0.2.2.1, z0]; rfl))) (fun c225 => ?_)
  refine x_aload_n (q := 229) dX12_readLine_228 rfl rfl ?_
  refine q_gi (K := 6) (q := 232) dX12_readLine_229 rfl cl_12 (by decide) tw_1088 rfl rfl ?_
  refine x_bipush (59) (q := 234) dX12_readLine_232 rfl (by decide) ?_
  refine x_icmp_eq (t := 242) (q := 237) dX12_readLine_234 (by decide) rfl (fun c234 => ?_) (fun c234 => absurd c234 (fun z => z ((ms_c 4 hL.2.1 (by decide) rfl).mpr k4)))
  refine x_aload_n (q := 243) dX12_readLine_242 rfl rfl ?_
  refine q_gi (K := 2) (q := 246) dX12_readLine_243 rfl cl_12 (by decide) tw_1084 rfl rfl ?_
  refine x_if_ne (t := 253) (q := 249) dX12_readLine_246 (by decide) rfl (fun c246 => absurd c246 (fun z => z (by rw [pm0.2.2.1, z0]; rfl))) (fun c246 => ?_)
  refine x_aload_n (q := 250) dX12_readLine_249 rfl rfl ?_
  refine q_callV (ci := 12) (N := 79) (T := TX12) (As := []) (rest := []) (q := 253) dX12_readLine_250 rfl okX12_token tw_1340 rfl rfl (c_tokP r pm0 z0 (by rw [k4]; decide)) rfl rfl (Nat.le_of_ble_eq_true rfl) ⟨by decide, by decide⟩ ⟨rfl, rfl⟩ (fun rv_ V1 r_ K1 hv_ => ?_)
  obtain ⟨a1_, pm1, fm1, a3_⟩ := hv_
  rw [a1_, a3_]
  show Wq MX12_readLine 253 [some (.ref 100)] [] V1 r K1 _
  refine q_vret dX12_readLine_253 rfl ?_
  exact ⟨rfl, pm1, fm1, rfl⟩
set_option maxRecDepth 100000 in
theorem l_rlT_b {T : Nat → Nat} {n : Nat} (r : MR) {V : MI} {K : MJ} {u : Nat × Nat × Nat} (pm0 : PM T n u V K) (z0 : u.1 = 0) (k4 : ¬ kd T n u.2.2 = 4) : Wq MX12_readLine 221 [some (.ref 100)] [] V r K (RM none T n (rfT T n u) V K r) := by
  have hL := pm0.2.2.2.2.2.2 z0
  refine x_aload_n (q := 222) dX12_readLine_221 rfl rfl ?_
  refine q_gi (K := 2) (q := 225) dX12_readLine_222 rfl cl_12 (by decide) tw_1084 rfl rfl ?_
  refine x_if_ne (t := 242) (q := 228) dX12_readLine_225 (by decide) rfl (fun c225 => absurd c225 (fun z => z (by rw [pm0.2.2.1, z0]; rfl))) (fun c225 => ?_)
  refine x_aload_n (q := 229) dX12_readLine_228 rfl rfl ?_
  refine q_gi (K := 6) (q := 232) dX12_readLine_229 rfl cl_12 (by decide) tw_1088 rfl rfl ?_
  refine x_bipush (59) (q := 234) dX12_readLine_232 rfl (by decide) ?_
  refine x_icmp_eq (t := 242) (q := 237) dX12_readLine_234 (by decide) rfl (fun c234 => absurd c234 (fun z => k4 ((ms_c 4 hL.2.1 (by decide) rfl).mp z))) (fun c234 => ?_)
  refine x_aload_n (q := 238) dX12_readLine_237 rfl rfl ?_
  refine x_iconst (2) (q := 239) dX12_readLine_238 rfl (by decide) ?_
  refine q_callV (ci := 12) (N := 79) (T := TX12) (As := [.int 2]) (rest := []) (q := 242) dX12_readLine_239 rfl okX12_wrong tw_1390 rfl rfl (c_wr r pm0 (k := 2) (by decide) z0) rfl rfl (Nat.le_of_ble_eq_true rfl) ⟨by decide, by decide⟩ ⟨rfl, rfl⟩ (fun rv_ V1 r_ K1 hv_ => ?_)
  obtain ⟨a1_, pm1, fm1, a3_⟩ := hv_
  rw [a1_, a3_]
  have pm1 : PM T n (rfT T n u) V1 K1 := pm1
  show Wq MX12_readLine 242 [some (.ref 100)] [] V1 r K1 _
  refine x_aload_n (q := 243) dX12_readLine_242 rfl rfl ?_
  refine q_gi (K := 2) (q := 246) dX12_readLine_243 rfl cl_12 (by decide) tw_1084 rfl rfl ?_
  refine x_if_ne (t := 253) (q := 249) dX12_readLine_246 (by decide) rfl (fun c246 => ?_) (fun c246 => absurd c246 (fun z => rfT_n (f_0 pm1.2.2.1 pm1.2.2.2.2.2.1 z)))
  refine q_vret dX12_readLine_253 rfl ?_
  exact ⟨rfl, pm1, fm1, rfl⟩
theorem l_rlT {T : Nat → Nat} {n : Nat} (r : MR) {V : MI} {K : MJ} {u : Nat × Nat × Nat} (pm0 : PM T n u V K) : Wq MX12_readLine 221 [some (.ref 100)] [] V r K (RM none T n (tsc T n u) V K r) := by
  by_cases z0 : u.1 = 0
  · by_cases k4 : kd T n u.2.2 = 4
    · rw [show tsc T n u = adv T n u by unfold tsc; rw [if_pos z0, if_pos k4]]
      exact l_rlT_g r pm0 z0 k4
    · rw [show tsc T n u = rfT T n u by unfold tsc; rw [if_pos z0, if_neg k4]]
      exact l_rlT_b r pm0 z0 k4
  · rw [show tsc T n u = u from if_neg z0]
    exact l_rlT_f r pm0 z0
theorem rl_fin {T : Nat → Nat} {n : Nat} {s u : Nat × Nat × Nat} {A A' : MI} {M V : MI} {J K : MJ} {r : MR} {y w h c : Nat} (e : lb T n s A = (u, A')) (pm0 : PM T n u V K) (fl0 : FL M J V K) (md : u.1 = 0 → MD T n A' y w h c V K) : Wq MX12_readLine 221 [some (.ref 100)] [] V r K (RML T n (tsc T n (lb T n s A).1) (fun Y K => ∃ y w h c, MD T n (lb T n s A).2 y w h c Y K) M J r) := by
  refine wq_mono (fun v Y r' L hv => ?_) (l_rlT r pm0)
  obtain ⟨b1, b2, b3, b4⟩ := hv
  rw [e]
  exact ⟨b1, b2, fl0.tr b3.l, fun z => ⟨y, w, h, c, MD_f (md (tsc_0 z).1) b3⟩, b4⟩
set_option maxRecDepth 100000 in
theorem c_rl8 {T : Nat → Nat} {n : Nat} (r : MR) {M : MI} {J : MJ} {s : Nat × Nat × Nat} (h : PM T n s M J) (h0 : s.1 = 0) {A : MI} {yn wn hn sn : Nat} (hD : MD T n A yn wn hn sn M J) (hk : 8 ≤ kw T n s.2.2) : Cq yX12_readLine MX12_readLine [.ref 100] M r J (RML T n (tsc T n (lb T n s A).1) (fun Y K => ∃ y w h c, MD T n (lb T n s A).2 y w h c Y K) M J r) := by
  obtain ⟨⟨k1, k5, k9, k12⟩, ⟨y8, w16, h12, s7⟩, ⟨m33, m34, m35, m36⟩, hMN, hMy, hMh, hMs, hMw, hMo⟩ := id hD
  have hkk := MD_k hD
  have elb : lb T n s A = (rfT T n s, A) := by unfold lb; rw [if_neg (by omega), if_neg (by omega), if_neg (by omega), if_neg (by omega), if_neg (by omega)]
  refine cq_of [some (.ref 100)] 0 (by decide +kernel) rfl rfl (Nat.le_of_ble_eq_true rfl) rfl ?_
  refine x_aload_n (q := 1) dX12_readLine_0 rfl rfl ?_
  refine x_ldc2 (v := 2036429412) (q := 4) dX12_readLine_1 rfl tw_1358 ?_
  refine q_callV (ci := 12) (N := 79) (T := TX12) (As := [.long 2036429412]) (rest := []) (q := 7) dX12_readLine_4 rfl okX12_isWord tw_1359 rfl rfl (c_isW_b r h h0 (i := 0) (by decide) (by omega)) rfl rfl (Nat.le_of_ble_eq_true rfl) ⟨by decide, by decide⟩ ⟨rfl, rfl⟩ (fun rv_ I_ r_ J_ hv_ => ?_)
  obtain ⟨a1_, a2_, a3_, a4_⟩ := hv_
  rw [a1_, a2_, a3_, a4_]
  show Wq MX12_readLine 7 [some (.ref 100)] [.int 0] M r J _
  refine x_if_eq (t := 26) (q := 10) dX12_readLine_7 (by decide) rfl (fun c7 => ?_) (fun c7 => absurd c7 ((by decide)))
  refine x_aload_n (q := 27) dX12_readLine_26 rfl rfl ?_
  refine x_ldc2 (v := 7823737) (q := 30) dX12_readLine_27 rfl tw_1374 ?_
  refine q_callV (ci := 12) (N := 79) (T := TX12) (As := [.long 7823737]) (rest := []) (q := 33) dX12_readLine_30 rfl okX12_isWord tw_1359 rfl rfl (c_isW_b r h h0 (i := 1) (by decide) (by omega)) rfl rfl (Nat.le_of_ble_eq_true rfl) ⟨by decide, by decide⟩ ⟨rfl, rfl⟩ (fun rv_ I_ r_ J_ hv_ => ?_)
  obtain ⟨a1_, a2_, a3_, a4_⟩ := hv_
  rw [a1_, a2_, a3_, a4_]
  show Wq MX12_readLine 33 [some (.ref 100)] [.int 0] M r J _
  refine x_if_eq (t := 52) (q := 36) dX12_readLine_33 (by decide) rfl (fun c33 => ?_) (fun c33 => absurd c33 ((by decide)))
  refine x_aload_n (q := 53) dX12_readLine_52 rfl rfl ?_
  refine x_ldc2 (v := 1752135026) (q := 56) dX12_readLine_53 rfl tw_1376 ?_
  refine q_callV (ci := 12) (N := 79) (T := TX12) (As := [.long 1752135026]) (rest := []) (q := 59) dX12_readLine_56 rfl okX12_isWord tw_1359 rfl rfl (c_isW_b r h h0 (i := 2) (by decide) (by omega)) rfl rfl (Nat.le_of_ble_eq_true rfl) ⟨by decide, by decide⟩ ⟨rfl, rfl⟩ (fun rv_ I_ r_ J_ hv_ => ?_)
  obtain ⟨a1_, a2_, a3_, a4_⟩ := hv_
  rw [a1_, a2_, a3_, a4_]
  show Wq MX12_readLine 59 [some (.ref 100)] [.int 0] M r J _
  refine x_if_eq (t := 78) (q := 62) dX12_readLine_59 (by decide) rfl (fun c59 => ?_) (fun c59 => absurd c59 ((by decide)))
  refine x_aload_n (q := 79) dX12_readLine_78 rfl rfl ?_
  refine x_ldc2 (v := 1936484720) (q := 82) dX12_readLine_79 rfl tw_1380 ?_
  refine q_callV (ci := 12) (N := 79) (T := TX12) (As := [.long 1936484720]) (rest := []) (q := 85) dX12_readLine_82 rfl okX12_isWord tw_1359 rfl rfl (c_isW_b r h h0 (i := 3) (by decide) (by omega)) rfl rfl (Nat.le_of_ble_eq_true rfl) ⟨by decide, by decide⟩ ⟨rfl, rfl⟩ (fun rv_ I_ r_ J_ hv_ => ?_)
  obtain ⟨a1_, a2_, a3_, a4_⟩ := hv_
  rw [a1_, a2_, a3_, a4_]
  show Wq MX12_readLine 85 [some (.ref 100)] [.int 0] M r J _
  refine x_if_eq (t := 104) (q := 88) dX12_readLine_85 (by decide) rfl (fun c85 => ?_) (fun c85 => absurd c85 ((by decide)))
  refine x_aload_n (q := 105) dX12_readLine_104 rfl rfl ?_
  refine x_ldc2 (v := 1667329132) (q := 108) dX12_readLine_105 rfl tw_1382 ?_
  refine q_callV (ci := 12) (N := 79) (T := TX12) (As := [.long 1667329132]) (rest := []) (q := 111) dX12_readLine_108 rfl okX12_isWord tw_1359 rfl rfl (c_isW_b r h h0 (i := 4) (by decide) (by omega)) rfl rfl (Nat.le_of_ble_eq_true rfl) ⟨by decide, by decide⟩ ⟨rfl, rfl⟩ (fun rv_ I_ r_ J_ hv_ => ?_)
  obtain ⟨a1_, a2_, a3_, a4_⟩ := hv_
  rw [a1_, a2_, a3_, a4_]
  show Wq MX12_readLine 111 [some (.ref 100)] [.int 0] M r J _
  refine x_if_eq (t := 132) (q := 114) dX12_readLine_111 (by decide) rfl (fun c111 => ?_) (fun c111 => absurd c111 ((by decide)))
  refine x_aload_n (q := 133) dX12_readLine_132 rfl rfl ?_
  refine x_ldc2 (v := 1751216749) (q := 136) dX12_readLine_133 rfl tw_1383 ?_
  refine q_callV (ci := 12) (N := 79) (T := TX12) (As := [.long 1751216749]) (rest := []) (q := 139) dX12_readLine_136 rfl okX12_isWord tw_1359 rfl rfl (c_isW_b r h h0 (i := 5) (by decide) (by omega)) rfl rfl (Nat.le_of_ble_eq_true rfl) ⟨by decide, by decide⟩ ⟨rfl, rfl⟩ (fun rv_ I_ r_ J_ hv_ => ?_)
  obtain ⟨a1_, a2_, a3_, a4_⟩ := hv_
  rw [a1_, a2_, a3_, a4_]
  show Wq MX12_readLine 139 [some (.ref 100)] [.int 0] M r J _
  refine x_if_eq (t := 160) (q := 142) dX12_readLine_139 (by decide) rfl (fun c139 => ?_) (fun c139 => absurd c139 ((by decide)))
  refine x_aload_n (q := 161) dX12_readLine_160 rfl rfl ?_
  refine x_ldc2 (v := 431198596980) (q := 164) dX12_readLine_161 rfl tw_1384 ?_
  refine q_callV (ci := 12) (N := 79) (T := TX12) (As := [.long 431198596980]) (rest := []) (q := 167) dX12_readLine_164 rfl okX12_isWord tw_1359 rfl rfl (c_isW_b r h h0 (i := 6) (by decide) (by omega)) rfl rfl (Nat.le_of_ble_eq_true rfl) ⟨by decide, by decide⟩ ⟨rfl, rfl⟩ (fun rv_ I_ r_ J_ hv_ => ?_)
  obtain ⟨a1_, a2_, a3_, a4_⟩ := hv_
  rw [a1_, a2_, a3_, a4_]
  show Wq MX12_readLine 167 [some (.ref 100)] [.int 0] M r J _
  refine x_if_eq (t := 188) (q := 170) dX12_readLine_167 (by decide) rfl (fun c167 => ?_) (fun c167 => absurd c167 ((by decide)))
  refine x_aload_n (q := 189) dX12_readLine_188 rfl rfl ?_
  refine x_ldc2 (v := 495874699877) (q := 192) dX12_readLine_189 rfl tw_1385 ?_
  refine q_callV (ci := 12) (N := 79) (T := TX12) (As := [.long 495874699877]) (rest := []) (q := 195) dX12_readLine_192 rfl okX12_isWord tw_1359 rfl rfl (c_isW_b r h h0 (i := 7) (by decide) (by omega)) rfl rfl (Nat.le_of_ble_eq_true rfl) ⟨by decide, by decide⟩ ⟨rfl, rfl⟩ (fun rv_ I_ r_ J_ hv_ => ?_)
  obtain ⟨a1_, a2_, a3_, a4_⟩ := hv_
  rw [a1_, a2_, a3_, a4_]
  show Wq MX12_readLine 195 [some (.ref 100)] [.int 0] M r J _
  refine x_if_eq (t := 216) (q := 198) dX12_readLine_195 (by decide) rfl (fun c195 => ?_) (fun c195 => absurd c195 ((by decide)))
  refine x_aload_n (q := 217) dX12_readLine_216 rfl rfl ?_
  refine x_iconst (2) (q := 218) dX12_readLine_217 rfl (by decide) ?_
  refine q_callV (ci := 12) (N := 79) (T := TX12) (As := [.int 2]) (rest := []) (q := 221) dX12_readLine_218 rfl okX12_wrong tw_1390 rfl rfl (c_wr r h (k := 2) (by decide) h0) rfl rfl (Nat.le_of_ble_eq_true rfl) ⟨by decide, by decide⟩ ⟨rfl, rfl⟩ (fun rv_ V1 r_ K1 hv_ => ?_)
  obtain ⟨a1_, pm1, fm1, a3_⟩ := hv_
  rw [a1_, a3_]
  have pm1 : PM T n (rfT T n s) V1 K1 := pm1
  show Wq MX12_readLine 221 [some (.ref 100)] [] V1 r K1 _
  exact rl_fin (y := 0) (w := 0) (h := 0) (c := 0) elb pm1 fm1.l (fun z => absurd z rfT_n)
set_option maxRecDepth 100000 in
theorem c_rl0_f {T : Nat → Nat} {n : Nat} (r : MR) {M : MI} {J : MJ} {s : Nat × Nat × Nat} (h : PM T n s M J) (h0 : s.1 = 0) {A : MI} {yn wn hn sn : Nat} (hD : MD T n A yn wn hn sn M J) (hk : kw T n s.2.2 = 0) (hf : ¬ yn < 8) : Cq yX12_readLine MX12_readLine [.ref 100] M r J (RML T n (tsc T n (lb T n s A).1) (fun Y K => ∃ y w h c, MD T n (lb T n s A).2 y w h c Y K) M J r) := by
  obtain ⟨⟨k1, k5, k9, k12⟩, ⟨y8, w16, h12, s7⟩, ⟨m33, m34, m35, m36⟩, hMN, hMy, hMh, hMs, hMw, hMo⟩ := id hD
  have hkk := MD_k hD
  have elb : lb T n s A = (rfT T n s, A) := by unfold lb; rw [hk]; rw [if_pos rfl, hkk.1, if_neg hf]
  refine cq_of [some (.ref 100)] 0 (by decide +kernel) rfl rfl (Nat.le_of_ble_eq_true rfl) rfl ?_
  refine x_aload_n (q := 1) dX12_readLine_0 rfl rfl ?_
  refine x_ldc2 (v := 2036429412) (q := 4) dX12_readLine_1 rfl tw_1358 ?_
  refine q_callV (ci := 12) (N := 79) (T := TX12) (As := [.long 2036429412]) (rest := []) (q := 7) dX12_readLine_4 rfl okX12_isWord tw_1359 rfl rfl (c_isW_g r h h0 (i := 0) (by decide) hk) rfl rfl (Nat.le_of_ble_eq_true rfl) ⟨by decide, by decide⟩ ⟨rfl, rfl⟩ (fun rv_ I_ r_ J_ hv_ => ?_)
  obtain ⟨a1_, a2_, a3_, a4_⟩ := hv_
  rw [a1_, a2_, a3_, a4_]
  show Wq MX12_readLine 7 [some (.ref 100)] [.int 1] M r J _
  refine x_if_eq (t := 26) (q := 10) dX12_readLine_7 (by decide) rfl (fun c7 => absurd c7 ((by decide))) (fun c7 => ?_)
  refine x_aload_n (q := 11) dX12_readLine_10 rfl rfl ?_
  refine q_gi (K := 33) (q := 14) dX12_readLine_11 rfl cl_12 (by decide) tw_1115 rfl rfl ?_
  refine x_bipush (8) (q := 16) dX12_readLine_14 rfl (by decide) ?_
  refine x_icmp_ge (t := 26) (q := 19) dX12_readLine_16 (by decide) rfl (fun c16 => ?_) (fun c16 => absurd c16 (fun z => z (by rw [m33]; exact nI_le (a := 8) (by omega) (by omega))))
  refine x_aload_n (q := 27) dX12_readLine_26 rfl rfl ?_
  refine x_ldc2 (v := 7823737) (q := 30) dX12_readLine_27 rfl tw_1374 ?_
  refine q_callV (ci := 12) (N := 79) (T := TX12) (As := [.long 7823737]) (rest := []) (q := 33) dX12_readLine_30 rfl okX12_isWord tw_1359 rfl rfl (c_isW_b r h h0 (i := 1) (by decide) (by omega)) rfl rfl (Nat.le_of_ble_eq_true rfl) ⟨by decide, by decide⟩ ⟨rfl, rfl⟩ (fun rv_ I_ r_ J_ hv_ => ?_)
  obtain ⟨a1_, a2_, a3_, a4_⟩ := hv_
  rw [a1_, a2_, a3_, a4_]
  show Wq MX12_readLine 33 [some (.ref 100)] [.int 0] M r J _
  refine x_if_eq (t := 52) (q := 36) dX12_readLine_33 (by decide) rfl (fun c33 => ?_) (fun c33 => absurd c33 ((by decide)))
  refine x_aload_n (q := 53) dX12_readLine_52 rfl rfl ?_
  refine x_ldc2 (v := 1752135026) (q := 56) dX12_readLine_53 rfl tw_1376 ?_
  refine q_callV (ci := 12) (N := 79) (T := TX12) (As := [.long 1752135026]) (rest := []) (q := 59) dX12_readLine_56 rfl okX12_isWord tw_1359 rfl rfl (c_isW_b r h h0 (i := 2) (by decide) (by omega)) rfl rfl (Nat.le_of_ble_eq_true rfl) ⟨by decide, by decide⟩ ⟨rfl, rfl⟩ (fun rv_ I_ r_ J_ hv_ => ?_)
  obtain ⟨a1_, a2_, a3_, a4_⟩ := hv_
  rw [a1_, a2_, a3_, a4_]
  show Wq MX12_readLine 59 [some (.ref 100)] [.int 0] M r J _
  refine x_if_eq (t := 78) (q := 62) dX12_readLine_59 (by decide) rfl (fun c59 => ?_) (fun c59 => absurd c59 ((by decide)))
  refine x_aload_n (q := 79) dX12_readLine_78 rfl rfl ?_
  refine x_ldc2 (v := 1936484720) (q := 82) dX12_readLine_79 rfl tw_1380 ?_
  refine q_callV (ci := 12) (N := 79) (T := TX12) (As := [.long 1936484720]) (rest := []) (q := 85) dX12_readLine_82 rfl okX12_isWord tw_1359 rfl rfl (c_isW_b r h h0 (i := 3) (by decide) (by omega)) rfl rfl (Nat.le_of_ble_eq_true rfl) ⟨by decide, by decide⟩ ⟨rfl, rfl⟩ (fun rv_ I_ r_ J_ hv_ => ?_)
  obtain ⟨a1_, a2_, a3_, a4_⟩ := hv_
  rw [a1_, a2_, a3_, a4_]
  show Wq MX12_readLine 85 [some (.ref 100)] [.int 0] M r J _
  refine x_if_eq (t := 104) (q := 88) dX12_readLine_85 (by decide) rfl (fun c85 => ?_) (fun c85 => absurd c85 ((by decide)))
  refine x_aload_n (q := 105) dX12_readLine_104 rfl rfl ?_
  refine x_ldc2 (v := 1667329132) (q := 108) dX12_readLine_105 rfl tw_1382 ?_
  refine q_callV (ci := 12) (N := 79) (T := TX12) (As := [.long 1667329132]) (rest := []) (q := 111) dX12_readLine_108 rfl okX12_isWord tw_1359 rfl rfl (c_isW_b r h h0 (i := 4) (by decide) (by omega)) rfl rfl (Nat.le_of_ble_eq_true rfl) ⟨by decide, by decide⟩ ⟨rfl, rfl⟩ (fun rv_ I_ r_ J_ hv_ => ?_)
  obtain ⟨a1_, a2_, a3_, a4_⟩ := hv_
  rw [a1_, a2_, a3_, a4_]
  show Wq MX12_readLine 111 [some (.ref 100)] [.int 0] M r J _
  refine x_if_eq (t := 132) (q := 114) dX12_readLine_111 (by decide) rfl (fun c111 => ?_) (fun c111 => absurd c111 ((by decide)))
  refine x_aload_n (q := 133) dX12_readLine_132 rfl rfl ?_
  refine x_ldc2 (v := 1751216749) (q := 136) dX12_readLine_133 rfl tw_1383 ?_
  refine q_callV (ci := 12) (N := 79) (T := TX12) (As := [.long 1751216749]) (rest := []) (q := 139) dX12_readLine_136 rfl okX12_isWord tw_1359 rfl rfl (c_isW_b r h h0 (i := 5) (by decide) (by omega)) rfl rfl (Nat.le_of_ble_eq_true rfl) ⟨by decide, by decide⟩ ⟨rfl, rfl⟩ (fun rv_ I_ r_ J_ hv_ => ?_)
  obtain ⟨a1_, a2_, a3_, a4_⟩ := hv_
  rw [a1_, a2_, a3_, a4_]
  show Wq MX12_readLine 139 [some (.ref 100)] [.int 0] M r J _
  refine x_if_eq (t := 160) (q := 142) dX12_readLine_139 (by decide) rfl (fun c139 => ?_) (fun c139 => absurd c139 ((by decide)))
  refine x_aload_n (q := 161) dX12_readLine_160 rfl rfl ?_
  refine x_ldc2 (v := 431198596980) (q := 164) dX12_readLine_161 rfl tw_1384 ?_
  refine q_callV (ci := 12) (N := 79) (T := TX12) (As := [.long 431198596980]) (rest := []) (q := 167) dX12_readLine_164 rfl okX12_isWord tw_1359 rfl rfl (c_isW_b r h h0 (i := 6) (by decide) (by omega)) rfl rfl (Nat.le_of_ble_eq_true rfl) ⟨by decide, by decide⟩ ⟨rfl, rfl⟩ (fun rv_ I_ r_ J_ hv_ => ?_)
  obtain ⟨a1_, a2_, a3_, a4_⟩ := hv_
  rw [a1_, a2_, a3_, a4_]
  show Wq MX12_readLine 167 [some (.ref 100)] [.int 0] M r J _
  refine x_if_eq (t := 188) (q := 170) dX12_readLine_167 (by decide) rfl (fun c167 => ?_) (fun c167 => absurd c167 ((by decide)))
  refine x_aload_n (q := 189) dX12_readLine_188 rfl rfl ?_
  refine x_ldc2 (v := 495874699877) (q := 192) dX12_readLine_189 rfl tw_1385 ?_
  refine q_callV (ci := 12) (N := 79) (T := TX12) (As := [.long 495874699877]) (rest := []) (q := 195) dX12_readLine_192 rfl okX12_isWord tw_1359 rfl rfl (c_isW_b r h h0 (i := 7) (by decide) (by omega)) rfl rfl (Nat.le_of_ble_eq_true rfl) ⟨by decide, by decide⟩ ⟨rfl, rfl⟩ (fun rv_ I_ r_ J_ hv_ => ?_)
  obtain ⟨a1_, a2_, a3_, a4_⟩ := hv_
  rw [a1_, a2_, a3_, a4_]
  show Wq MX12_readLine 195 [some (.ref 100)] [.int 0] M r J _
  refine x_if_eq (t := 216) (q := 198) dX12_readLine_195 (by decide) rfl (fun c195 => ?_) (fun c195 => absurd c195 ((by decide)))
  refine x_aload_n (q := 217) dX12_readLine_216 rfl rfl ?_
  refine x_iconst (2) (q := 218) dX12_readLine_217 rfl (by decide) ?_
  refine q_callV (ci := 12) (N := 79) (T := TX12) (As := [.int 2]) (rest := []) (q := 221) dX12_readLine_218 rfl okX12_wrong tw_1390 rfl rfl (c_wr r h (k := 2) (by decide) h0) rfl rfl (Nat.le_of_ble_eq_true rfl) ⟨by decide, by decide⟩ ⟨rfl, rfl⟩ (fun rv_ V1 r_ K1 hv_ => ?_)
  obtain ⟨a1_, pm1, fm1, a3_⟩ := hv_
  rw [a1_, a3_]
  have pm1 : PM T n (rfT T n s) V1 K1 := pm1
  show Wq MX12_readLine 221 [some (.ref 100)] [] V1 r K1 _
  exact rl_fin (y := 0) (w := 0) (h := 0) (c := 0) elb pm1 fm1.l (fun z => absurd z rfT_n)
set_option maxRecDepth 100000 in
theorem c_rl0 {T : Nat → Nat} {n : Nat} (r : MR) {M : MI} {J : MJ} {s : Nat × Nat × Nat} (h : PM T n s M J) (h0 : s.1 = 0) {A : MI} {yn wn hn sn : Nat} (hD : MD T n A yn wn hn sn M J) (hk : kw T n s.2.2 = 0) (hf : yn < 8) : Cq yX12_readLine MX12_readLine [.ref 100] M r J (RML T n (tsc T n (lb T n s A).1) (fun Y K => ∃ y w h c, MD T n (lb T n s A).2 y w h c Y K) M J r) := by
  obtain ⟨⟨k1, k5, k9, k12⟩, ⟨y8, w16, h12, s7⟩, ⟨m33, m34, m35, m36⟩, hMN, hMy, hMh, hMs, hMw, hMo⟩ := id hD
  have hkk := MD_k hD
  have hk1 : ¬ kd T n s.2.2 = 1 := by rw [kw_2 (by omega)]; decide
  have elb : lb T n s A = (yaS T n A yn s, yaA T n s A yn) := by unfold lb; rw [hk]; rw [if_pos rfl, hkk.1, if_pos hf]
  refine cq_of [some (.ref 100)] 0 (by decide +kernel) rfl rfl (Nat.le_of_ble_eq_true rfl) rfl ?_
  refine x_aload_n (q := 1) dX12_readLine_0 rfl rfl ?_
  refine x_ldc2 (v := 2036429412) (q := 4) dX12_readLine_1 rfl tw_1358 ?_
  refine q_callV (ci := 12) (N := 79) (T := TX12) (As := [.long 2036429412]) (rest := []) (q := 7) dX12_readLine_4 rfl okX12_isWord tw_1359 rfl rfl (c_isW_g r h h0 (i := 0) (by decide) hk) rfl rfl (Nat.le_of_ble_eq_true rfl) ⟨by decide, by decide⟩ ⟨rfl, rfl⟩ (fun rv_ I_ r_ J_ hv_ => ?_)
  obtain ⟨a1_, a2_, a3_, a4_⟩ := hv_
  rw [a1_, a2_, a3_, a4_]
  show Wq MX12_readLine 7 [some (.ref 100)] [.int 1] M r J _
  refine x_if_eq (t := 26) (q := 10) dX12_readLine_7 (by decide) rfl (fun c7 => absurd c7 ((by decide))) (fun c7 => ?_)
  refine x_aload_n (q := 11) dX12_readLine_10 rfl rfl ?_
  refine q_gi (K := 33) (q := 14) dX12_readLine_11 rfl cl_12 (by decide) tw_1115 rfl rfl ?_
  refine x_bipush (8) (q := 16) dX12_readLine_14 rfl (by decide) ?_
  refine x_icmp_ge (t := 26) (q := 19) dX12_readLine_16 (by decide) rfl (fun c16 => absurd c16 (by rw [m33]; exact nI_ge (b := 8) (by omega) (by decide))) (fun c16 => ?_)
  refine x_aload_n (q := 20) dX12_readLine_19 rfl rfl ?_
  refine q_callV (ci := 12) (N := 79) (T := TX12) (As := []) (rest := []) (q := 23) dX12_readLine_20 rfl okX12_readYard tw_1363 rfl rfl (c_mya r h h0 hk1 hD hf) rfl rfl (Nat.le_of_ble_eq_true rfl) ⟨by decide, by decide⟩ ⟨rfl, rfl⟩ (fun rv_ V1 r_ K1 hv_ => ?_)
  obtain ⟨a1_, fl1, a3_, hor⟩ := hv_
  rw [a1_, a3_]
  show Wq MX12_readLine 23 [some (.ref 100)] [] V1 r K1 _
  refine x_goto (t := 221) dX12_readLine_23 (by decide) ?_
  rcases hor with ⟨pm1, md1⟩ | ⟨pm1, zy, h35⟩
  · exact rl_fin elb pm1 fl1 md1
  · refine wq_mono (fun v Y r' L hv => ?_) (l_rlT r pm1)
    obtain ⟨b1, b2, b3, b4⟩ := hv
    rw [elb]
    have et : tsc T n (yaS T n A yn s) = rfT T n (yaS T n A yn s) := by unfold tsc; rw [if_pos zy, if_neg (by omega)]
    rw [show tsc T n (rfT T n (yaS T n A yn s)) = rfT T n (yaS T n A yn s) from if_neg rfT_n] at b2
    exact ⟨b1, by rw [et]; exact b2, fl1.tr b3.l, fun z => absurd (by rw [et] at z; exact z) rfT_n, b4⟩
set_option maxRecDepth 100000 in
theorem c_rl1_f {T : Nat → Nat} {n : Nat} (r : MR) {M : MI} {J : MJ} {s : Nat × Nat × Nat} (h : PM T n s M J) (h0 : s.1 = 0) {A : MI} {yn wn hn sn : Nat} (hD : MD T n A yn wn hn sn M J) (hk : kw T n s.2.2 = 1) (hf : ¬ wn < 16) : Cq yX12_readLine MX12_readLine [.ref 100] M r J (RML T n (tsc T n (lb T n s A).1) (fun Y K => ∃ y w h c, MD T n (lb T n s A).2 y w h c Y K) M J r) := by
  obtain ⟨⟨k1, k5, k9, k12⟩, ⟨y8, w16, h12, s7⟩, ⟨m33, m34, m35, m36⟩, hMN, hMy, hMh, hMs, hMw, hMo⟩ := id hD
  have hkk := MD_k hD
  have elb : lb T n s A = (rfT T n s, A) := by unfold lb; rw [hk]; rw [if_neg (by decide), if_pos rfl, hkk.2.1, if_neg hf]
  refine cq_of [some (.ref 100)] 0 (by decide +kernel) rfl rfl (Nat.le_of_ble_eq_true rfl) rfl ?_
  refine x_aload_n (q := 1) dX12_readLine_0 rfl rfl ?_
  refine x_ldc2 (v := 2036429412) (q := 4) dX12_readLine_1 rfl tw_1358 ?_
  refine q_callV (ci := 12) (N := 79) (T := TX12) (As := [.long 2036429412]) (rest := []) (q := 7) dX12_readLine_4 rfl okX12_isWord tw_1359 rfl rfl (c_isW_b r h h0 (i := 0) (by decide) (by omega)) rfl rfl (Nat.le_of_ble_eq_true rfl) ⟨by decide, by decide⟩ ⟨rfl, rfl⟩ (fun rv_ I_ r_ J_ hv_ => ?_)
  obtain ⟨a1_, a2_, a3_, a4_⟩ := hv_
  rw [a1_, a2_, a3_, a4_]
  show Wq MX12_readLine 7 [some (.ref 100)] [.int 0] M r J _
  refine x_if_eq (t := 26) (q := 10) dX12_readLine_7 (by decide) rfl (fun c7 => ?_) (fun c7 => absurd c7 ((by decide)))
  refine x_aload_n (q := 27) dX12_readLine_26 rfl rfl ?_
  refine x_ldc2 (v := 7823737) (q := 30) dX12_readLine_27 rfl tw_1374 ?_
  refine q_callV (ci := 12) (N := 79) (T := TX12) (As := [.long 7823737]) (rest := []) (q := 33) dX12_readLine_30 rfl okX12_isWord tw_1359 rfl rfl (c_isW_g r h h0 (i := 1) (by decide) hk) rfl rfl (Nat.le_of_ble_eq_true rfl) ⟨by decide, by decide⟩ ⟨rfl, rfl⟩ (fun rv_ I_ r_ J_ hv_ => ?_)
  obtain ⟨a1_, a2_, a3_, a4_⟩ := hv_
  rw [a1_, a2_, a3_, a4_]
  show Wq MX12_readLine 33 [some (.ref 100)] [.int 1] M r J _
  refine x_if_eq (t := 52) (q := 36) dX12_readLine_33 (by decide) rfl (fun c33 => absurd c33 ((by decide))) (fun c33 => ?_)
  refine x_aload_n (q := 37) dX12_readLine_36 rfl rfl ?_
  refine q_gi (K := 34) (q := 40) dX12_readLine_37 rfl cl_12 (by decide) tw_1116 rfl rfl ?_
  refine x_bipush (16) (q := 42) dX12_readLine_40 rfl (by decide) ?_
  refine x_icmp_ge (t := 52) (q := 45) dX12_readLine_42 (by decide) rfl (fun c42 => ?_) (fun c42 => absurd c42 (fun z => z (by rw [m34]; exact nI_le (a := 16) (by omega) (by omega))))
  refine x_aload_n (q := 53) dX12_readLine_52 rfl rfl ?_
  refine x_ldc2 (v := 1752135026) (q := 56) dX12_readLine_53 rfl tw_1376 ?_
  refine q_callV (ci := 12) (N := 79) (T := TX12) (As := [.long 1752135026]) (rest := []) (q := 59) dX12_readLine_56 rfl okX12_isWord tw_1359 rfl rfl (c_isW_b r h h0 (i := 2) (by decide) (by omega)) rfl rfl (Nat.le_of_ble_eq_true rfl) ⟨by decide, by decide⟩ ⟨rfl, rfl⟩ (fun rv_ I_ r_ J_ hv_ => ?_)
  obtain ⟨a1_, a2_, a3_, a4_⟩ := hv_
  rw [a1_, a2_, a3_, a4_]
  show Wq MX12_readLine 59 [some (.ref 100)] [.int 0] M r J _
  refine x_if_eq (t := 78) (q := 62) dX12_readLine_59 (by decide) rfl (fun c59 => ?_) (fun c59 => absurd c59 ((by decide)))
  refine x_aload_n (q := 79) dX12_readLine_78 rfl rfl ?_
  refine x_ldc2 (v := 1936484720) (q := 82) dX12_readLine_79 rfl tw_1380 ?_
  refine q_callV (ci := 12) (N := 79) (T := TX12) (As := [.long 1936484720]) (rest := []) (q := 85) dX12_readLine_82 rfl okX12_isWord tw_1359 rfl rfl (c_isW_b r h h0 (i := 3) (by decide) (by omega)) rfl rfl (Nat.le_of_ble_eq_true rfl) ⟨by decide, by decide⟩ ⟨rfl, rfl⟩ (fun rv_ I_ r_ J_ hv_ => ?_)
  obtain ⟨a1_, a2_, a3_, a4_⟩ := hv_
  rw [a1_, a2_, a3_, a4_]
  show Wq MX12_readLine 85 [some (.ref 100)] [.int 0] M r J _
  refine x_if_eq (t := 104) (q := 88) dX12_readLine_85 (by decide) rfl (fun c85 => ?_) (fun c85 => absurd c85 ((by decide)))
  refine x_aload_n (q := 105) dX12_readLine_104 rfl rfl ?_
  refine x_ldc2 (v := 1667329132) (q := 108) dX12_readLine_105 rfl tw_1382 ?_
  refine q_callV (ci := 12) (N := 79) (T := TX12) (As := [.long 1667329132]) (rest := []) (q := 111) dX12_readLine_108 rfl okX12_isWord tw_1359 rfl rfl (c_isW_b r h h0 (i := 4) (by decide) (by omega)) rfl rfl (Nat.le_of_ble_eq_true rfl) ⟨by decide, by decide⟩ ⟨rfl, rfl⟩ (fun rv_ I_ r_ J_ hv_ => ?_)
  obtain ⟨a1_, a2_, a3_, a4_⟩ := hv_
  rw [a1_, a2_, a3_, a4_]
  show Wq MX12_readLine 111 [some (.ref 100)] [.int 0] M r J _
  refine x_if_eq (t := 132) (q := 114) dX12_readLine_111 (by decide) rfl (fun c111 => ?_) (fun c111 => absurd c111 ((by decide)))
  refine x_aload_n (q := 133) dX12_readLine_132 rfl rfl ?_
  refine x_ldc2 (v := 1751216749) (q := 136) dX12_readLine_133 rfl tw_1383 ?_
  refine q_callV (ci := 12) (N := 79) (T := TX12) (As := [.long 1751216749]) (rest := []) (q := 139) dX12_readLine_136 rfl okX12_isWord tw_1359 rfl rfl (c_isW_b r h h0 (i := 5) (by decide) (by omega)) rfl rfl (Nat.le_of_ble_eq_true rfl) ⟨by decide, by decide⟩ ⟨rfl, rfl⟩ (fun rv_ I_ r_ J_ hv_ => ?_)
  obtain ⟨a1_, a2_, a3_, a4_⟩ := hv_
  rw [a1_, a2_, a3_, a4_]
  show Wq MX12_readLine 139 [some (.ref 100)] [.int 0] M r J _
  refine x_if_eq (t := 160) (q := 142) dX12_readLine_139 (by decide) rfl (fun c139 => ?_) (fun c139 => absurd c139 ((by decide)))
  refine x_aload_n (q := 161) dX12_readLine_160 rfl rfl ?_
  refine x_ldc2 (v := 431198596980) (q := 164) dX12_readLine_161 rfl tw_1384 ?_
  refine q_callV (ci := 12) (N := 79) (T := TX12) (As := [.long 431198596980]) (rest := []) (q := 167) dX12_readLine_164 rfl okX12_isWord tw_1359 rfl rfl (c_isW_b r h h0 (i := 6) (by decide) (by omega)) rfl rfl (Nat.le_of_ble_eq_true rfl) ⟨by decide, by decide⟩ ⟨rfl, rfl⟩ (fun rv_ I_ r_ J_ hv_ => ?_)
  obtain ⟨a1_, a2_, a3_, a4_⟩ := hv_
  rw [a1_, a2_, a3_, a4_]
  show Wq MX12_readLine 167 [some (.ref 100)] [.int 0] M r J _
  refine x_if_eq (t := 188) (q := 170) dX12_readLine_167 (by decide) rfl (fun c167 => ?_) (fun c167 => absurd c167 ((by decide)))
  refine x_aload_n (q := 189) dX12_readLine_188 rfl rfl ?_
  refine x_ldc2 (v := 495874699877) (q := 192) dX12_readLine_189 rfl tw_1385 ?_
  refine q_callV (ci := 12) (N := 79) (T := TX12) (As := [.long 495874699877]) (rest := []) (q := 195) dX12_readLine_192 rfl okX12_isWord tw_1359 rfl rfl (c_isW_b r h h0 (i := 7) (by decide) (by omega)) rfl rfl (Nat.le_of_ble_eq_true rfl) ⟨by decide, by decide⟩ ⟨rfl, rfl⟩ (fun rv_ I_ r_ J_ hv_ => ?_)
  obtain ⟨a1_, a2_, a3_, a4_⟩ := hv_
  rw [a1_, a2_, a3_, a4_]
  show Wq MX12_readLine 195 [some (.ref 100)] [.int 0] M r J _
  refine x_if_eq (t := 216) (q := 198) dX12_readLine_195 (by decide) rfl (fun c195 => ?_) (fun c195 => absurd c195 ((by decide)))
  refine x_aload_n (q := 217) dX12_readLine_216 rfl rfl ?_
  refine x_iconst (2) (q := 218) dX12_readLine_217 rfl (by decide) ?_
  refine q_callV (ci := 12) (N := 79) (T := TX12) (As := [.int 2]) (rest := []) (q := 221) dX12_readLine_218 rfl okX12_wrong tw_1390 rfl rfl (c_wr r h (k := 2) (by decide) h0) rfl rfl (Nat.le_of_ble_eq_true rfl) ⟨by decide, by decide⟩ ⟨rfl, rfl⟩ (fun rv_ V1 r_ K1 hv_ => ?_)
  obtain ⟨a1_, pm1, fm1, a3_⟩ := hv_
  rw [a1_, a3_]
  have pm1 : PM T n (rfT T n s) V1 K1 := pm1
  show Wq MX12_readLine 221 [some (.ref 100)] [] V1 r K1 _
  exact rl_fin (y := 0) (w := 0) (h := 0) (c := 0) elb pm1 fm1.l (fun z => absurd z rfT_n)
set_option maxRecDepth 100000 in
theorem c_rl1 {T : Nat → Nat} {n : Nat} (r : MR) {M : MI} {J : MJ} {s : Nat × Nat × Nat} (h : PM T n s M J) (h0 : s.1 = 0) {A : MI} {yn wn hn sn : Nat} (hD : MD T n A yn wn hn sn M J) (hk : kw T n s.2.2 = 1) (hf : wn < 16) : Cq yX12_readLine MX12_readLine [.ref 100] M r J (RML T n (tsc T n (lb T n s A).1) (fun Y K => ∃ y w h c, MD T n (lb T n s A).2 y w h c Y K) M J r) := by
  obtain ⟨⟨k1, k5, k9, k12⟩, ⟨y8, w16, h12, s7⟩, ⟨m33, m34, m35, m36⟩, hMN, hMy, hMh, hMs, hMw, hMo⟩ := id hD
  have hkk := MD_k hD
  have hk1 : ¬ kd T n s.2.2 = 1 := by rw [kw_2 (by omega)]; decide
  have elb : lb T n s A = (wyS T n A yn wn s, wyA T n s A yn wn) := by unfold lb; rw [hk]; rw [if_neg (by decide), if_pos rfl, hkk.1, hkk.2.1, if_pos hf]
  refine cq_of [some (.ref 100)] 0 (by decide +kernel) rfl rfl (Nat.le_of_ble_eq_true rfl) rfl ?_
  refine x_aload_n (q := 1) dX12_readLine_0 rfl rfl ?_
  refine x_ldc2 (v := 2036429412) (q := 4) dX12_readLine_1 rfl tw_1358 ?_
  refine q_callV (ci := 12) (N := 79) (T := TX12) (As := [.long 2036429412]) (rest := []) (q := 7) dX12_readLine_4 rfl okX12_isWord tw_1359 rfl rfl (c_isW_b r h h0 (i := 0) (by decide) (by omega)) rfl rfl (Nat.le_of_ble_eq_true rfl) ⟨by decide, by decide⟩ ⟨rfl, rfl⟩ (fun rv_ I_ r_ J_ hv_ => ?_)
  obtain ⟨a1_, a2_, a3_, a4_⟩ := hv_
  rw [a1_, a2_, a3_, a4_]
  show Wq MX12_readLine 7 [some (.ref 100)] [.int 0] M r J _
  refine x_if_eq (t := 26) (q := 10) dX12_readLine_7 (by decide) rfl (fun c7 => ?_) (fun c7 => absurd c7 ((by decide)))
  refine x_aload_n (q := 27) dX12_readLine_26 rfl rfl ?_
  refine x_ldc2 (v := 7823737) (q := 30) dX12_readLine_27 rfl tw_1374 ?_
  refine q_callV (ci := 12) (N := 79) (T := TX12) (As := [.long 7823737]) (rest := []) (q := 33) dX12_readLine_30 rfl okX12_isWord tw_1359 rfl rfl (c_isW_g r h h0 (i := 1) (by decide) hk) rfl rfl (Nat.le_of_ble_eq_true rfl) ⟨by decide, by decide⟩ ⟨rfl, rfl⟩ (fun rv_ I_ r_ J_ hv_ => ?_)
  obtain ⟨a1_, a2_, a3_, a4_⟩ := hv_
  rw [a1_, a2_, a3_, a4_]
  show Wq MX12_readLine 33 [some (.ref 100)] [.int 1] M r J _
  refine x_if_eq (t := 52) (q := 36) dX12_readLine_33 (by decide) rfl (fun c33 => absurd c33 ((by decide))) (fun c33 => ?_)
  refine x_aload_n (q := 37) dX12_readLine_36 rfl rfl ?_
  refine q_gi (K := 34) (q := 40) dX12_readLine_37 rfl cl_12 (by decide) tw_1116 rfl rfl ?_
  refine x_bipush (16) (q := 42) dX12_readLine_40 rfl (by decide) ?_
  refine x_icmp_ge (t := 52) (q := 45) dX12_readLine_42 (by decide) rfl (fun c42 => absurd c42 (by rw [m34]; exact nI_ge (b := 16) (by omega) (by decide))) (fun c42 => ?_)
  refine x_aload_n (q := 46) dX12_readLine_45 rfl rfl ?_
  refine q_callV (ci := 12) (N := 79) (T := TX12) (As := []) (rest := []) (q := 49) dX12_readLine_46 rfl okX12_readWay tw_1418 rfl rfl (c_mwy r h h0 hk1 hD hf) rfl rfl (Nat.le_of_ble_eq_true rfl) ⟨by decide, by decide⟩ ⟨rfl, rfl⟩ (fun rv_ V1 r_ K1 hv_ => ?_)
  obtain ⟨a1_, pm1, fl1, md1, a3_⟩ := hv_
  rw [a1_, a3_]
  show Wq MX12_readLine 49 [some (.ref 100)] [] V1 r K1 _
  refine x_goto (t := 221) dX12_readLine_49 (by decide) ?_
  exact rl_fin elb pm1 fl1 md1
set_option maxRecDepth 100000 in
theorem c_rl2_f {T : Nat → Nat} {n : Nat} (r : MR) {M : MI} {J : MJ} {s : Nat × Nat × Nat} (h : PM T n s M J) (h0 : s.1 = 0) {A : MI} {yn wn hn sn : Nat} (hD : MD T n A yn wn hn sn M J) (hk : kw T n s.2.2 = 2) (hf : ¬ hn < 12) : Cq yX12_readLine MX12_readLine [.ref 100] M r J (RML T n (tsc T n (lb T n s A).1) (fun Y K => ∃ y w h c, MD T n (lb T n s A).2 y w h c Y K) M J r) := by
  obtain ⟨⟨k1, k5, k9, k12⟩, ⟨y8, w16, h12, s7⟩, ⟨m33, m34, m35, m36⟩, hMN, hMy, hMh, hMs, hMw, hMo⟩ := id hD
  have hkk := MD_k hD
  have elb : lb T n s A = (rfT T n s, A) := by unfold lb; rw [hk]; rw [if_neg (by decide), if_neg (by decide), if_pos rfl, hkk.2.2.1, if_neg hf]
  refine cq_of [some (.ref 100)] 0 (by decide +kernel) rfl rfl (Nat.le_of_ble_eq_true rfl) rfl ?_
  refine x_aload_n (q := 1) dX12_readLine_0 rfl rfl ?_
  refine x_ldc2 (v := 2036429412) (q := 4) dX12_readLine_1 rfl tw_1358 ?_
  refine q_callV (ci := 12) (N := 79) (T := TX12) (As := [.long 2036429412]) (rest := []) (q := 7) dX12_readLine_4 rfl okX12_isWord tw_1359 rfl rfl (c_isW_b r h h0 (i := 0) (by decide) (by omega)) rfl rfl (Nat.le_of_ble_eq_true rfl) ⟨by decide, by decide⟩ ⟨rfl, rfl⟩ (fun rv_ I_ r_ J_ hv_ => ?_)
  obtain ⟨a1_, a2_, a3_, a4_⟩ := hv_
  rw [a1_, a2_, a3_, a4_]
  show Wq MX12_readLine 7 [some (.ref 100)] [.int 0] M r J _
  refine x_if_eq (t := 26) (q := 10) dX12_readLine_7 (by decide) rfl (fun c7 => ?_) (fun c7 => absurd c7 ((by decide)))
  refine x_aload_n (q := 27) dX12_readLine_26 rfl rfl ?_
  refine x_ldc2 (v := 7823737) (q := 30) dX12_readLine_27 rfl tw_1374 ?_
  refine q_callV (ci := 12) (N := 79) (T := TX12) (As := [.long 7823737]) (rest := []) (q := 33) dX12_readLine_30 rfl okX12_isWord tw_1359 rfl rfl (c_isW_b r h h0 (i := 1) (by decide) (by omega)) rfl rfl (Nat.le_of_ble_eq_true rfl) ⟨by decide, by decide⟩ ⟨rfl, rfl⟩ (fun rv_ I_ r_ J_ hv_ => ?_)
  obtain ⟨a1_, a2_, a3_, a4_⟩ := hv_
  rw [a1_, a2_, a3_, a4_]
  show Wq MX12_readLine 33 [some (.ref 100)] [.int 0] M r J _
  refine x_if_eq (t := 52) (q := 36) dX12_readLine_33 (by decide) rfl (fun c33 => ?_) (fun c33 => absurd c33 ((by decide)))
  refine x_aload_n (q := 53) dX12_readLine_52 rfl rfl ?_
  refine x_ldc2 (v := 1752135026) (q := 56) dX12_readLine_53 rfl tw_1376 ?_
  refine q_callV (ci := 12) (N := 79) (T := TX12) (As := [.long 1752135026]) (rest := []) (q := 59) dX12_readLine_56 rfl okX12_isWord tw_1359 rfl rfl (c_isW_g r h h0 (i := 2) (by decide) hk) rfl rfl (Nat.le_of_ble_eq_true rfl) ⟨by decide, by decide⟩ ⟨rfl, rfl⟩ (fun rv_ I_ r_ J_ hv_ => ?_)
  obtain ⟨a1_, a2_, a3_, a4_⟩ := hv_
  rw [a1_, a2_, a3_, a4_]
  show Wq MX12_readLine 59 [some (.ref 100)] [.int 1] M r J _
  refine x_if_eq (t := 78) (q := 62) dX12_readLine_59 (by decide) rfl (fun c59 => absurd c59 ((by decide))) (fun c59 => ?_)
  refine x_aload_n (q := 63) dX12_readLine_62 rfl rfl ?_
  refine q_gi (K := 35) (q := 66) dX12_readLine_63 rfl cl_12 (by decide) tw_1117 rfl rfl ?_
  refine x_bipush (12) (q := 68) dX12_readLine_66 rfl (by decide) ?_
  refine x_icmp_ge (t := 78) (q := 71) dX12_readLine_68 (by decide) rfl (fun c68 => ?_) (fun c68 => absurd c68 (fun z => z (by rw [m35]; exact nI_le (a := 12) (by omega) (by omega))))
  refine x_aload_n (q := 79) dX12_readLine_78 rfl rfl ?_
  refine x_ldc2 (v := 1936484720) (q := 82) dX12_readLine_79 rfl tw_1380 ?_
  refine q_callV (ci := 12) (N := 79) (T := TX12) (As := [.long 1936484720]) (rest := []) (q := 85) dX12_readLine_82 rfl okX12_isWord tw_1359 rfl rfl (c_isW_b r h h0 (i := 3) (by decide) (by omega)) rfl rfl (Nat.le_of_ble_eq_true rfl) ⟨by decide, by decide⟩ ⟨rfl, rfl⟩ (fun rv_ I_ r_ J_ hv_ => ?_)
  obtain ⟨a1_, a2_, a3_, a4_⟩ := hv_
  rw [a1_, a2_, a3_, a4_]
  show Wq MX12_readLine 85 [some (.ref 100)] [.int 0] M r J _
  refine x_if_eq (t := 104) (q := 88) dX12_readLine_85 (by decide) rfl (fun c85 => ?_) (fun c85 => absurd c85 ((by decide)))
  refine x_aload_n (q := 105) dX12_readLine_104 rfl rfl ?_
  refine x_ldc2 (v := 1667329132) (q := 108) dX12_readLine_105 rfl tw_1382 ?_
  refine q_callV (ci := 12) (N := 79) (T := TX12) (As := [.long 1667329132]) (rest := []) (q := 111) dX12_readLine_108 rfl okX12_isWord tw_1359 rfl rfl (c_isW_b r h h0 (i := 4) (by decide) (by omega)) rfl rfl (Nat.le_of_ble_eq_true rfl) ⟨by decide, by decide⟩ ⟨rfl, rfl⟩ (fun rv_ I_ r_ J_ hv_ => ?_)
  obtain ⟨a1_, a2_, a3_, a4_⟩ := hv_
  rw [a1_, a2_, a3_, a4_]
  show Wq MX12_readLine 111 [some (.ref 100)] [.int 0] M r J _
  refine x_if_eq (t := 132) (q := 114) dX12_readLine_111 (by decide) rfl (fun c111 => ?_) (fun c111 => absurd c111 ((by decide)))
  refine x_aload_n (q := 133) dX12_readLine_132 rfl rfl ?_
  refine x_ldc2 (v := 1751216749) (q := 136) dX12_readLine_133 rfl tw_1383 ?_
  refine q_callV (ci := 12) (N := 79) (T := TX12) (As := [.long 1751216749]) (rest := []) (q := 139) dX12_readLine_136 rfl okX12_isWord tw_1359 rfl rfl (c_isW_b r h h0 (i := 5) (by decide) (by omega)) rfl rfl (Nat.le_of_ble_eq_true rfl) ⟨by decide, by decide⟩ ⟨rfl, rfl⟩ (fun rv_ I_ r_ J_ hv_ => ?_)
  obtain ⟨a1_, a2_, a3_, a4_⟩ := hv_
  rw [a1_, a2_, a3_, a4_]
  show Wq MX12_readLine 139 [some (.ref 100)] [.int 0] M r J _
  refine x_if_eq (t := 160) (q := 142) dX12_readLine_139 (by decide) rfl (fun c139 => ?_) (fun c139 => absurd c139 ((by decide)))
  refine x_aload_n (q := 161) dX12_readLine_160 rfl rfl ?_
  refine x_ldc2 (v := 431198596980) (q := 164) dX12_readLine_161 rfl tw_1384 ?_
  refine q_callV (ci := 12) (N := 79) (T := TX12) (As := [.long 431198596980]) (rest := []) (q := 167) dX12_readLine_164 rfl okX12_isWord tw_1359 rfl rfl (c_isW_b r h h0 (i := 6) (by decide) (by omega)) rfl rfl (Nat.le_of_ble_eq_true rfl) ⟨by decide, by decide⟩ ⟨rfl, rfl⟩ (fun rv_ I_ r_ J_ hv_ => ?_)
  obtain ⟨a1_, a2_, a3_, a4_⟩ := hv_
  rw [a1_, a2_, a3_, a4_]
  show Wq MX12_readLine 167 [some (.ref 100)] [.int 0] M r J _
  refine x_if_eq (t := 188) (q := 170) dX12_readLine_167 (by decide) rfl (fun c167 => ?_) (fun c167 => absurd c167 ((by decide)))
  refine x_aload_n (q := 189) dX12_readLine_188 rfl rfl ?_
  refine x_ldc2 (v := 495874699877) (q := 192) dX12_readLine_189 rfl tw_1385 ?_
  refine q_callV (ci := 12) (N := 79) (T := TX12) (As := [.long 495874699877]) (rest := []) (q := 195) dX12_readLine_192 rfl okX12_isWord tw_1359 rfl rfl (c_isW_b r h h0 (i := 7) (by decide) (by omega)) rfl rfl (Nat.le_of_ble_eq_true rfl) ⟨by decide, by decide⟩ ⟨rfl, rfl⟩ (fun rv_ I_ r_ J_ hv_ => ?_)
  obtain ⟨a1_, a2_, a3_, a4_⟩ := hv_
  rw [a1_, a2_, a3_, a4_]
  show Wq MX12_readLine 195 [some (.ref 100)] [.int 0] M r J _
  refine x_if_eq (t := 216) (q := 198) dX12_readLine_195 (by decide) rfl (fun c195 => ?_) (fun c195 => absurd c195 ((by decide)))
  refine x_aload_n (q := 217) dX12_readLine_216 rfl rfl ?_
  refine x_iconst (2) (q := 218) dX12_readLine_217 rfl (by decide) ?_
  refine q_callV (ci := 12) (N := 79) (T := TX12) (As := [.int 2]) (rest := []) (q := 221) dX12_readLine_218 rfl okX12_wrong tw_1390 rfl rfl (c_wr r h (k := 2) (by decide) h0) rfl rfl (Nat.le_of_ble_eq_true rfl) ⟨by decide, by decide⟩ ⟨rfl, rfl⟩ (fun rv_ V1 r_ K1 hv_ => ?_)
  obtain ⟨a1_, pm1, fm1, a3_⟩ := hv_
  rw [a1_, a3_]
  have pm1 : PM T n (rfT T n s) V1 K1 := pm1
  show Wq MX12_readLine 221 [some (.ref 100)] [] V1 r K1 _
  exact rl_fin (y := 0) (w := 0) (h := 0) (c := 0) elb pm1 fm1.l (fun z => absurd z rfT_n)
set_option maxRecDepth 100000 in
theorem c_rl2 {T : Nat → Nat} {n : Nat} (r : MR) {M : MI} {J : MJ} {s : Nat × Nat × Nat} (h : PM T n s M J) (h0 : s.1 = 0) {A : MI} {yn wn hn sn : Nat} (hD : MD T n A yn wn hn sn M J) (hk : kw T n s.2.2 = 2) (hf : hn < 12) : Cq yX12_readLine MX12_readLine [.ref 100] M r J (RML T n (tsc T n (lb T n s A).1) (fun Y K => ∃ y w h c, MD T n (lb T n s A).2 y w h c Y K) M J r) := by
  obtain ⟨⟨k1, k5, k9, k12⟩, ⟨y8, w16, h12, s7⟩, ⟨m33, m34, m35, m36⟩, hMN, hMy, hMh, hMs, hMw, hMo⟩ := id hD
  have hkk := MD_k hD
  have hk1 : ¬ kd T n s.2.2 = 1 := by rw [kw_2 (by omega)]; decide
  have elb : lb T n s A = (hoS T n s, hoA T n s A hn) := by unfold lb; rw [hk]; rw [if_neg (by decide), if_neg (by decide), if_pos rfl, hkk.2.2.1, if_pos hf]
  refine cq_of [some (.ref 100)] 0 (by decide +kernel) rfl rfl (Nat.le_of_ble_eq_true rfl) rfl ?_
  refine x_aload_n (q := 1) dX12_readLine_0 rfl rfl ?_
  refine x_ldc2 (v := 2036429412) (q := 4) dX12_readLine_1 rfl tw_1358 ?_
  refine q_callV (ci := 12) (N := 79) (T := TX12) (As := [.long 2036429412]) (rest := []) (q := 7) dX12_readLine_4 rfl okX12_isWord tw_1359 rfl rfl (c_isW_b r h h0 (i := 0) (by decide) (by omega)) rfl rfl (Nat.le_of_ble_eq_true rfl) ⟨by decide, by decide⟩ ⟨rfl, rfl⟩ (fun rv_ I_ r_ J_ hv_ => ?_)
  obtain ⟨a1_, a2_, a3_, a4_⟩ := hv_
  rw [a1_, a2_, a3_, a4_]
  show Wq MX12_readLine 7 [some (.ref 100)] [.int 0] M r J _
  refine x_if_eq (t := 26) (q := 10) dX12_readLine_7 (by decide) rfl (fun c7 => ?_) (fun c7 => absurd c7 ((by decide)))
  refine x_aload_n (q := 27) dX12_readLine_26 rfl rfl ?_
  refine x_ldc2 (v := 7823737) (q := 30) dX12_readLine_27 rfl tw_1374 ?_
  refine q_callV (ci := 12) (N := 79) (T := TX12) (As := [.long 7823737]) (rest := []) (q := 33) dX12_readLine_30 rfl okX12_isWord tw_1359 rfl rfl (c_isW_b r h h0 (i := 1) (by decide) (by omega)) rfl rfl (Nat.le_of_ble_eq_true rfl) ⟨by decide, by decide⟩ ⟨rfl, rfl⟩ (fun rv_ I_ r_ J_ hv_ => ?_)
  obtain ⟨a1_, a2_, a3_, a4_⟩ := hv_
  rw [a1_, a2_, a3_, a4_]
  show Wq MX12_readLine 33 [some (.ref 100)] [.int 0] M r J _
  refine x_if_eq (t := 52) (q := 36) dX12_readLine_33 (by decide) rfl (fun c33 => ?_) (fun c33 => absurd c33 ((by decide)))
  refine x_aload_n (q := 53) dX12_readLine_52 rfl rfl ?_
  refine x_ldc2 (v := 1752135026) (q := 56) dX12_readLine_53 rfl tw_1376 ?_
  refine q_callV (ci := 12) (N := 79) (T := TX12) (As := [.long 1752135026]) (rest := []) (q := 59) dX12_readLine_56 rfl okX12_isWord tw_1359 rfl rfl (c_isW_g r h h0 (i := 2) (by decide) hk) rfl rfl (Nat.le_of_ble_eq_true rfl) ⟨by decide, by decide⟩ ⟨rfl, rfl⟩ (fun rv_ I_ r_ J_ hv_ => ?_)
  obtain ⟨a1_, a2_, a3_, a4_⟩ := hv_
  rw [a1_, a2_, a3_, a4_]
  show Wq MX12_readLine 59 [some (.ref 100)] [.int 1] M r J _
  refine x_if_eq (t := 78) (q := 62) dX12_readLine_59 (by decide) rfl (fun c59 => absurd c59 ((by decide))) (fun c59 => ?_)
  refine x_aload_n (q := 63) dX12_readLine_62 rfl rfl ?_
  refine q_gi (K := 35) (q := 66) dX12_readLine_63 rfl cl_12 (by decide) tw_1117 rfl rfl ?_
  refine x_bipush (12) (q := 68) dX12_readLine_66 rfl (by decide) ?_
  refine x_icmp_ge (t := 78) (q := 71) dX12_readLine_68 (by decide) rfl (fun c68 => absurd c68 (by rw [m35]; exact nI_ge (b := 12) (by omega) (by decide))) (fun c68 => ?_)
  refine x_aload_n (q := 72) dX12_readLine_71 rfl rfl ?_
  refine q_callV (ci := 12) (N := 79) (T := TX12) (As := []) (rest := []) (q := 75) dX12_readLine_72 rfl okX12_readHour tw_1426 rfl rfl (c_mho r h h0 hk1 hD hf) rfl rfl (Nat.le_of_ble_eq_true rfl) ⟨by decide, by decide⟩ ⟨rfl, rfl⟩ (fun rv_ V1 r_ K1 hv_ => ?_)
  obtain ⟨a1_, pm1, fl1, md1, a3_⟩ := hv_
  rw [a1_, a3_]
  show Wq MX12_readLine 75 [some (.ref 100)] [] V1 r K1 _
  refine x_goto (t := 221) dX12_readLine_75 (by decide) ?_
  exact rl_fin elb pm1 fl1 md1
set_option maxRecDepth 100000 in
theorem c_rl3_f {T : Nat → Nat} {n : Nat} (r : MR) {M : MI} {J : MJ} {s : Nat × Nat × Nat} (h : PM T n s M J) (h0 : s.1 = 0) {A : MI} {yn wn hn sn : Nat} (hD : MD T n A yn wn hn sn M J) (hk : kw T n s.2.2 = 3) (hf : ¬ sn < 7) : Cq yX12_readLine MX12_readLine [.ref 100] M r J (RML T n (tsc T n (lb T n s A).1) (fun Y K => ∃ y w h c, MD T n (lb T n s A).2 y w h c Y K) M J r) := by
  obtain ⟨⟨k1, k5, k9, k12⟩, ⟨y8, w16, h12, s7⟩, ⟨m33, m34, m35, m36⟩, hMN, hMy, hMh, hMs, hMw, hMo⟩ := id hD
  have hkk := MD_k hD
  have elb : lb T n s A = (rfT T n s, A) := by unfold lb; rw [hk]; rw [if_neg (by decide), if_neg (by decide), if_neg (by decide), if_pos rfl, hkk.2.2.2, if_neg hf]
  refine cq_of [some (.ref 100)] 0 (by decide +kernel) rfl rfl (Nat.le_of_ble_eq_true rfl) rfl ?_
  refine x_aload_n (q := 1) dX12_readLine_0 rfl rfl ?_
  refine x_ldc2 (v := 2036429412) (q := 4) dX12_readLine_1 rfl tw_1358 ?_
  refine q_callV (ci := 12) (N := 79) (T := TX12) (As := [.long 2036429412]) (rest := []) (q := 7) dX12_readLine_4 rfl okX12_isWord tw_1359 rfl rfl (c_isW_b r h h0 (i := 0) (by decide) (by omega)) rfl rfl (Nat.le_of_ble_eq_true rfl) ⟨by decide, by decide⟩ ⟨rfl, rfl⟩ (fun rv_ I_ r_ J_ hv_ => ?_)
  obtain ⟨a1_, a2_, a3_, a4_⟩ := hv_
  rw [a1_, a2_, a3_, a4_]
  show Wq MX12_readLine 7 [some (.ref 100)] [.int 0] M r J _
  refine x_if_eq (t := 26) (q := 10) dX12_readLine_7 (by decide) rfl (fun c7 => ?_) (fun c7 => absurd c7 ((by decide)))
  refine x_aload_n (q := 27) dX12_readLine_26 rfl rfl ?_
  refine x_ldc2 (v := 7823737) (q := 30) dX12_readLine_27 rfl tw_1374 ?_
  refine q_callV (ci := 12) (N := 79) (T := TX12) (As := [.long 7823737]) (rest := []) (q := 33) dX12_readLine_30 rfl okX12_isWord tw_1359 rfl rfl (c_isW_b r h h0 (i := 1) (by decide) (by omega)) rfl rfl (Nat.le_of_ble_eq_true rfl) ⟨by decide, by decide⟩ ⟨rfl, rfl⟩ (fun rv_ I_ r_ J_ hv_ => ?_)
  obtain ⟨a1_, a2_, a3_, a4_⟩ := hv_
  rw [a1_, a2_, a3_, a4_]
  show Wq MX12_readLine 33 [some (.ref 100)] [.int 0] M r J _
  refine x_if_eq (t := 52) (q := 36) dX12_readLine_33 (by decide) rfl (fun c33 => ?_) (fun c33 => absurd c33 ((by decide)))
  refine x_aload_n (q := 53) dX12_readLine_52 rfl rfl ?_
  refine x_ldc2 (v := 1752135026) (q := 56) dX12_readLine_53 rfl tw_1376 ?_
  refine q_callV (ci := 12) (N := 79) (T := TX12) (As := [.long 1752135026]) (rest := []) (q := 59) dX12_readLine_56 rfl okX12_isWord tw_1359 rfl rfl (c_isW_b r h h0 (i := 2) (by decide) (by omega)) rfl rfl (Nat.le_of_ble_eq_true rfl) ⟨by decide, by decide⟩ ⟨rfl, rfl⟩ (fun rv_ I_ r_ J_ hv_ => ?_)
  obtain ⟨a1_, a2_, a3_, a4_⟩ := hv_
  rw [a1_, a2_, a3_, a4_]
  show Wq MX12_readLine 59 [some (.ref 100)] [.int 0] M r J _
  refine x_if_eq (t := 78) (q := 62) dX12_readLine_59 (by decide) rfl (fun c59 => ?_) (fun c59 => absurd c59 ((by decide)))
  refine x_aload_n (q := 79) dX12_readLine_78 rfl rfl ?_
  refine x_ldc2 (v := 1936484720) (q := 82) dX12_readLine_79 rfl tw_1380 ?_
  refine q_callV (ci := 12) (N := 79) (T := TX12) (As := [.long 1936484720]) (rest := []) (q := 85) dX12_readLine_82 rfl okX12_isWord tw_1359 rfl rfl (c_isW_g r h h0 (i := 3) (by decide) hk) rfl rfl (Nat.le_of_ble_eq_true rfl) ⟨by decide, by decide⟩ ⟨rfl, rfl⟩ (fun rv_ I_ r_ J_ hv_ => ?_)
  obtain ⟨a1_, a2_, a3_, a4_⟩ := hv_
  rw [a1_, a2_, a3_, a4_]
  show Wq MX12_readLine 85 [some (.ref 100)] [.int 1] M r J _
  refine x_if_eq (t := 104) (q := 88) dX12_readLine_85 (by decide) rfl (fun c85 => absurd c85 ((by decide))) (fun c85 => ?_)
  refine x_aload_n (q := 89) dX12_readLine_88 rfl rfl ?_
  refine q_gi (K := 36) (q := 92) dX12_readLine_89 rfl cl_12 (by decide) tw_1118 rfl rfl ?_
  refine x_bipush (7) (q := 94) dX12_readLine_92 rfl (by decide) ?_
  refine x_icmp_ge (t := 104) (q := 97) dX12_readLine_94 (by decide) rfl (fun c94 => ?_) (fun c94 => absurd c94 (fun z => z (by rw [m36]; exact nI_le (a := 7) (by omega) (by omega))))
  refine x_aload_n (q := 105) dX12_readLine_104 rfl rfl ?_
  refine x_ldc2 (v := 1667329132) (q := 108) dX12_readLine_105 rfl tw_1382 ?_
  refine q_callV (ci := 12) (N := 79) (T := TX12) (As := [.long 1667329132]) (rest := []) (q := 111) dX12_readLine_108 rfl okX12_isWord tw_1359 rfl rfl (c_isW_b r h h0 (i := 4) (by decide) (by omega)) rfl rfl (Nat.le_of_ble_eq_true rfl) ⟨by decide, by decide⟩ ⟨rfl, rfl⟩ (fun rv_ I_ r_ J_ hv_ => ?_)
  obtain ⟨a1_, a2_, a3_, a4_⟩ := hv_
  rw [a1_, a2_, a3_, a4_]
  show Wq MX12_readLine 111 [some (.ref 100)] [.int 0] M r J _
  refine x_if_eq (t := 132) (q := 114) dX12_readLine_111 (by decide) rfl (fun c111 => ?_) (fun c111 => absurd c111 ((by decide)))
  refine x_aload_n (q := 133) dX12_readLine_132 rfl rfl ?_
  refine x_ldc2 (v := 1751216749) (q := 136) dX12_readLine_133 rfl tw_1383 ?_
  refine q_callV (ci := 12) (N := 79) (T := TX12) (As := [.long 1751216749]) (rest := []) (q := 139) dX12_readLine_136 rfl okX12_isWord tw_1359 rfl rfl (c_isW_b r h h0 (i := 5) (by decide) (by omega)) rfl rfl (Nat.le_of_ble_eq_true rfl) ⟨by decide, by decide⟩ ⟨rfl, rfl⟩ (fun rv_ I_ r_ J_ hv_ => ?_)
  obtain ⟨a1_, a2_, a3_, a4_⟩ := hv_
  rw [a1_, a2_, a3_, a4_]
  show Wq MX12_readLine 139 [some (.ref 100)] [.int 0] M r J _
  refine x_if_eq (t := 160) (q := 142) dX12_readLine_139 (by decide) rfl (fun c139 => ?_) (fun c139 => absurd c139 ((by decide)))
  refine x_aload_n (q := 161) dX12_readLine_160 rfl rfl ?_
  refine x_ldc2 (v := 431198596980) (q := 164) dX12_readLine_161 rfl tw_1384 ?_
  refine q_callV (ci := 12) (N := 79) (T := TX12) (As := [.long 431198596980]) (rest := []) (q := 167) dX12_readLine_164 rfl okX12_isWord tw_1359 rfl rfl (c_isW_b r h h0 (i := 6) (by decide) (by omega)) rfl rfl (Nat.le_of_ble_eq_true rfl) ⟨by decide, by decide⟩ ⟨rfl, rfl⟩ (fun rv_ I_ r_ J_ hv_ => ?_)
  obtain ⟨a1_, a2_, a3_, a4_⟩ := hv_
  rw [a1_, a2_, a3_, a4_]
  show Wq MX12_readLine 167 [some (.ref 100)] [.int 0] M r J _
  refine x_if_eq (t := 188) (q := 170) dX12_readLine_167 (by decide) rfl (fun c167 => ?_) (fun c167 => absurd c167 ((by decide)))
  refine x_aload_n (q := 189) dX12_readLine_188 rfl rfl ?_
  refine x_ldc2 (v := 495874699877) (q := 192) dX12_readLine_189 rfl tw_1385 ?_
  refine q_callV (ci := 12) (N := 79) (T := TX12) (As := [.long 495874699877]) (rest := []) (q := 195) dX12_readLine_192 rfl okX12_isWord tw_1359 rfl rfl (c_isW_b r h h0 (i := 7) (by decide) (by omega)) rfl rfl (Nat.le_of_ble_eq_true rfl) ⟨by decide, by decide⟩ ⟨rfl, rfl⟩ (fun rv_ I_ r_ J_ hv_ => ?_)
  obtain ⟨a1_, a2_, a3_, a4_⟩ := hv_
  rw [a1_, a2_, a3_, a4_]
  show Wq MX12_readLine 195 [some (.ref 100)] [.int 0] M r J _
  refine x_if_eq (t := 216) (q := 198) dX12_readLine_195 (by decide) rfl (fun c195 => ?_) (fun c195 => absurd c195 ((by decide)))
  refine x_aload_n (q := 217) dX12_readLine_216 rfl rfl ?_
  refine x_iconst (2) (q := 218) dX12_readLine_217 rfl (by decide) ?_
  refine q_callV (ci := 12) (N := 79) (T := TX12) (As := [.int 2]) (rest := []) (q := 221) dX12_readLine_218 rfl okX12_wrong tw_1390 rfl rfl (c_wr r h (k := 2) (by decide) h0) rfl rfl (Nat.le_of_ble_eq_true rfl) ⟨by decide, by decide⟩ ⟨rfl, rfl⟩ (fun rv_ V1 r_ K1 hv_ => ?_)
  obtain ⟨a1_, pm1, fm1, a3_⟩ := hv_
  rw [a1_, a3_]
  have pm1 : PM T n (rfT T n s) V1 K1 := pm1
  show Wq MX12_readLine 221 [some (.ref 100)] [] V1 r K1 _
  exact rl_fin (y := 0) (w := 0) (h := 0) (c := 0) elb pm1 fm1.l (fun z => absurd z rfT_n)
set_option maxRecDepth 100000 in
theorem c_rl3 {T : Nat → Nat} {n : Nat} (r : MR) {M : MI} {J : MJ} {s : Nat × Nat × Nat} (h : PM T n s M J) (h0 : s.1 = 0) {A : MI} {yn wn hn sn : Nat} (hD : MD T n A yn wn hn sn M J) (hk : kw T n s.2.2 = 3) (hf : sn < 7) : Cq yX12_readLine MX12_readLine [.ref 100] M r J (RML T n (tsc T n (lb T n s A).1) (fun Y K => ∃ y w h c, MD T n (lb T n s A).2 y w h c Y K) M J r) := by
  obtain ⟨⟨k1, k5, k9, k12⟩, ⟨y8, w16, h12, s7⟩, ⟨m33, m34, m35, m36⟩, hMN, hMy, hMh, hMs, hMw, hMo⟩ := id hD
  have hkk := MD_k hD
  have hk1 : ¬ kd T n s.2.2 = 1 := by rw [kw_2 (by omega)]; decide
  have elb : lb T n s A = (slS T n A sn s, slA T n s A sn) := by unfold lb; rw [hk]; rw [if_neg (by decide), if_neg (by decide), if_neg (by decide), if_pos rfl, hkk.2.2.2, if_pos hf]
  refine cq_of [some (.ref 100)] 0 (by decide +kernel) rfl rfl (Nat.le_of_ble_eq_true rfl) rfl ?_
  refine x_aload_n (q := 1) dX12_readLine_0 rfl rfl ?_
  refine x_ldc2 (v := 2036429412) (q := 4) dX12_readLine_1 rfl tw_1358 ?_
  refine q_callV (ci := 12) (N := 79) (T := TX12) (As := [.long 2036429412]) (rest := []) (q := 7) dX12_readLine_4 rfl okX12_isWord tw_1359 rfl rfl (c_isW_b r h h0 (i := 0) (by decide) (by omega)) rfl rfl (Nat.le_of_ble_eq_true rfl) ⟨by decide, by decide⟩ ⟨rfl, rfl⟩ (fun rv_ I_ r_ J_ hv_ => ?_)
  obtain ⟨a1_, a2_, a3_, a4_⟩ := hv_
  rw [a1_, a2_, a3_, a4_]
  show Wq MX12_readLine 7 [some (.ref 100)] [.int 0] M r J _
  refine x_if_eq (t := 26) (q := 10) dX12_readLine_7 (by decide) rfl (fun c7 => ?_) (fun c7 => absurd c7 ((by decide)))
  refine x_aload_n (q := 27) dX12_readLine_26 rfl rfl ?_
  refine x_ldc2 (v := 7823737) (q := 30) dX12_readLine_27 rfl tw_1374 ?_
  refine q_callV (ci := 12) (N := 79) (T := TX12) (As := [.long 7823737]) (rest := []) (q := 33) dX12_readLine_30 rfl okX12_isWord tw_1359 rfl rfl (c_isW_b r h h0 (i := 1) (by decide) (by omega)) rfl rfl (Nat.le_of_ble_eq_true rfl) ⟨by decide, by decide⟩ ⟨rfl, rfl⟩ (fun rv_ I_ r_ J_ hv_ => ?_)
  obtain ⟨a1_, a2_, a3_, a4_⟩ := hv_
  rw [a1_, a2_, a3_, a4_]
  show Wq MX12_readLine 33 [some (.ref 100)] [.int 0] M r J _
  refine x_if_eq (t := 52) (q := 36) dX12_readLine_33 (by decide) rfl (fun c33 => ?_) (fun c33 => absurd c33 ((by decide)))
  refine x_aload_n (q := 53) dX12_readLine_52 rfl rfl ?_
  refine x_ldc2 (v := 1752135026) (q := 56) dX12_readLine_53 rfl tw_1376 ?_
  refine q_callV (ci := 12) (N := 79) (T := TX12) (As := [.long 1752135026]) (rest := []) (q := 59) dX12_readLine_56 rfl okX12_isWord tw_1359 rfl rfl (c_isW_b r h h0 (i := 2) (by decide) (by omega)) rfl rfl (Nat.le_of_ble_eq_true rfl) ⟨by decide, by decide⟩ ⟨rfl, rfl⟩ (fun rv_ I_ r_ J_ hv_ => ?_)
  obtain ⟨a1_, a2_, a3_, a4_⟩ := hv_
  rw [a1_, a2_, a3_, a4_]
  show Wq MX12_readLine 59 [some (.ref 100)] [.int 0] M r J _
  refine x_if_eq (t := 78) (q := 62) dX12_readLine_59 (by decide) rfl (fun c59 => ?_) (fun c59 => absurd c59 ((by decide)))
  refine x_aload_n (q := 79) dX12_readLine_78 rfl rfl ?_
  refine x_ldc2 (v := 1936484720) (q := 82) dX12_readLine_79 rfl tw_1380 ?_
  refine q_callV (ci := 12) (N := 79) (T := TX12) (As := [.long 1936484720]) (rest := []) (q := 85) dX12_readLine_82 rfl okX12_isWord tw_1359 rfl rfl (c_isW_g r h h0 (i := 3) (by decide) hk) rfl rfl (Nat.le_of_ble_eq_true rfl) ⟨by decide, by decide⟩ ⟨rfl, rfl⟩ (fun rv_ I_ r_ J_ hv_ => ?_)
  obtain ⟨a1_, a2_, a3_, a4_⟩ := hv_
  rw [a1_, a2_, a3_, a4_]
  show Wq MX12_readLine 85 [some (.ref 100)] [.int 1] M r J _
  refine x_if_eq (t := 104) (q := 88) dX12_readLine_85 (by decide) rfl (fun c85 => absurd c85 ((by decide))) (fun c85 => ?_)
  refine x_aload_n (q := 89) dX12_readLine_88 rfl rfl ?_
  refine q_gi (K := 36) (q := 92) dX12_readLine_89 rfl cl_12 (by decide) tw_1118 rfl rfl ?_
  refine x_bipush (7) (q := 94) dX12_readLine_92 rfl (by decide) ?_
  refine x_icmp_ge (t := 104) (q := 97) dX12_readLine_94 (by decide) rfl (fun c94 => absurd c94 (by rw [m36]; exact nI_ge (b := 7) (by omega) (by decide))) (fun c94 => ?_)
  refine x_aload_n (q := 98) dX12_readLine_97 rfl rfl ?_
  refine q_callV (ci := 12) (N := 79) (T := TX12) (As := []) (rest := []) (q := 101) dX12_readLine_98 rfl okX12_readSlip tw_1430 rfl rfl (c_msl r h h0 hk1 hD hf) rfl rfl (Nat.le_of_ble_eq_true rfl) ⟨by decide, by decide⟩ ⟨rfl, rfl⟩ (fun rv_ V1 r_ K1 hv_ => ?_)
  obtain ⟨a1_, pm1, fl1, md1, a3_⟩ := hv_
  rw [a1_, a3_]
  show Wq MX12_readLine 101 [some (.ref 100)] [] V1 r K1 _
  refine x_goto (t := 221) dX12_readLine_101 (by decide) ?_
  exact rl_fin elb pm1 fl1 md1

set_option maxRecDepth 100000 in
theorem c_rl4_f {T : Nat → Nat} {n : Nat} (r : MR) {M : MI} {J : MJ} {s : Nat × Nat × Nat} (h : PM T n s M J) (h0 : s.1 = 0) {A : MI} {yn wn hn sn : Nat} (hD : MD T n A yn wn hn sn M J) (hk : kw T n s.2.2 = 4) (hf : (tA A).testBit 4 = true) : Cq yX12_readLine MX12_readLine [.ref 100] M r J (RML T n (tsc T n (lb T n s A).1) (fun Y K => ∃ y w h c, MD T n (lb T n s A).2 y w h c Y K) M J r) := by
  obtain ⟨⟨k1, k5, k9, k12⟩, ⟨y8, w16, h12, s7⟩, ⟨m33, m34, m35, m36⟩, hMN, hMy, hMh, hMs, hMw, hMo⟩ := id hD
  have hkk := MD_k hD
  obtain ⟨tb, t256, k17, o4, o5, o6, o7, o8⟩ := hMo
  have hta : tA A = tb := by unfold tA; rw [k17, nI_clamp (by omega)]
  have hk1 : ¬ kd T n s.2.2 = 1 := by rw [kw_2 (by omega)]; decide
  have elb : lb T n s A = (rfT T n s, A) := by unfold lb; rw [hk]; rw [if_neg (by decide), if_neg (by decide), if_neg (by decide), if_neg (by decide), if_pos (by decide), if_pos hf]
  rw [hta] at hf
  obtain ⟨vv, v1, v2, v3⟩ := o4.2 hf
  refine cq_of [some (.ref 100)] 0 (by decide +kernel) rfl rfl (Nat.le_of_ble_eq_true rfl) rfl ?_
  refine x_aload_n (q := 1) dX12_readLine_0 rfl rfl ?_
  refine x_ldc2 (v := 2036429412) (q := 4) dX12_readLine_1 rfl tw_1358 ?_
  refine q_callV (ci := 12) (N := 79) (T := TX12) (As := [.long 2036429412]) (rest := []) (q := 7) dX12_readLine_4 rfl okX12_isWord tw_1359 rfl rfl (c_isW_b r h h0 (i := 0) (by decide) (by omega)) rfl rfl (Nat.le_of_ble_eq_true rfl) ⟨by decide, by decide⟩ ⟨rfl, rfl⟩ (fun rv_ I_ r_ J_ hv_ => ?_)
  obtain ⟨a1_, a2_, a3_, a4_⟩ := hv_
  rw [a1_, a2_, a3_, a4_]
  show Wq MX12_readLine 7 [some (.ref 100)] [.int 0] M r J _
  refine x_if_eq (t := 26) (q := 10) dX12_readLine_7 (by decide) rfl (fun c7 => ?_) (fun c7 => absurd c7 ((by decide)))
  refine x_aload_n (q := 27) dX12_readLine_26 rfl rfl ?_
  refine x_ldc2 (v := 7823737) (q := 30) dX12_readLine_27 rfl tw_1374 ?_
  refine q_callV (ci := 12) (N := 79) (T := TX12) (As := [.long 7823737]) (rest := []) (q := 33) dX12_readLine_30 rfl okX12_isWord tw_1359 rfl rfl (c_isW_b r h h0 (i := 1) (by decide) (by omega)) rfl rfl (Nat.le_of_ble_eq_true rfl) ⟨by decide, by decide⟩ ⟨rfl, rfl⟩ (fun rv_ I_ r_ J_ hv_ => ?_)
  obtain ⟨a1_, a2_, a3_, a4_⟩ := hv_
  rw [a1_, a2_, a3_, a4_]
  show Wq MX12_readLine 33 [some (.ref 100)] [.int 0] M r J _
  refine x_if_eq (t := 52) (q := 36) dX12_readLine_33 (by decide) rfl (fun c33 => ?_) (fun c33 => absurd c33 ((by decide)))
  refine x_aload_n (q := 53) dX12_readLine_52 rfl rfl ?_
  refine x_ldc2 (v := 1752135026) (q := 56) dX12_readLine_53 rfl tw_1376 ?_
  refine q_callV (ci := 12) (N := 79) (T := TX12) (As := [.long 1752135026]) (rest := []) (q := 59) dX12_readLine_56 rfl okX12_isWord tw_1359 rfl rfl (c_isW_b r h h0 (i := 2) (by decide) (by omega)) rfl rfl (Nat.le_of_ble_eq_true rfl) ⟨by decide, by decide⟩ ⟨rfl, rfl⟩ (fun rv_ I_ r_ J_ hv_ => ?_)
  obtain ⟨a1_, a2_, a3_, a4_⟩ := hv_
  rw [a1_, a2_, a3_, a4_]
  show Wq MX12_readLine 59 [some (.ref 100)] [.int 0] M r J _
  refine x_if_eq (t := 78) (q := 62) dX12_readLine_59 (by decide) rfl (fun c59 => ?_) (fun c59 => absurd c59 ((by decide)))
  refine x_aload_n (q := 79) dX12_readLine_78 rfl rfl ?_
  refine x_ldc2 (v := 1936484720) (q := 82) dX12_readLine_79 rfl tw_1380 ?_
  refine q_callV (ci := 12) (N := 79) (T := TX12) (As := [.long 1936484720]) (rest := []) (q := 85) dX12_readLine_82 rfl okX12_isWord tw_1359 rfl rfl (c_isW_b r h h0 (i := 3) (by decide) (by omega)) rfl rfl (Nat.le_of_ble_eq_true rfl) ⟨by decide, by decide⟩ ⟨rfl, rfl⟩ (fun rv_ I_ r_ J_ hv_ => ?_)
  obtain ⟨a1_, a2_, a3_, a4_⟩ := hv_
  rw [a1_, a2_, a3_, a4_]
  show Wq MX12_readLine 85 [some (.ref 100)] [.int 0] M r J _
  refine x_if_eq (t := 104) (q := 88) dX12_readLine_85 (by decide) rfl (fun c85 => ?_) (fun c85 => absurd c85 ((by decide)))
  refine x_aload_n (q := 105) dX12_readLine_104 rfl rfl ?_
  refine x_ldc2 (v := 1667329132) (q := 108) dX12_readLine_105 rfl tw_1382 ?_
  refine q_callV (ci := 12) (N := 79) (T := TX12) (As := [.long 1667329132]) (rest := []) (q := 111) dX12_readLine_108 rfl okX12_isWord tw_1359 rfl rfl (c_isW_g r h h0 (i := 4) (by decide) hk) rfl rfl (Nat.le_of_ble_eq_true rfl) ⟨by decide, by decide⟩ ⟨rfl, rfl⟩ (fun rv_ I_ r_ J_ hv_ => ?_)
  obtain ⟨a1_, a2_, a3_, a4_⟩ := hv_
  rw [a1_, a2_, a3_, a4_]
  show Wq MX12_readLine 111 [some (.ref 100)] [.int 1] M r J _
  refine x_if_eq (t := 132) (q := 114) dX12_readLine_111 (by decide) rfl (fun c111 => absurd c111 ((by decide))) (fun c111 => ?_)
  refine x_aload_n (q := 115) dX12_readLine_114 rfl rfl ?_
  refine q_gi (K := 37) (q := 118) dX12_readLine_115 rfl cl_12 (by decide) tw_1119 rfl rfl ?_
  refine x_if_ge (t := 132) (q := 121) dX12_readLine_118 (by decide) rfl (fun c118 => ?_) (fun c118 => absurd c118 (fun z => z (by rw [v3]; exact nI_pos' (by omega))))
  refine x_aload_n (q := 133) dX12_readLine_132 rfl rfl ?_
  refine x_ldc2 (v := 1751216749) (q := 136) dX12_readLine_133 rfl tw_1383 ?_
  refine q_callV (ci := 12) (N := 79) (T := TX12) (As := [.long 1751216749]) (rest := []) (q := 139) dX12_readLine_136 rfl okX12_isWord tw_1359 rfl rfl (c_isW_b r h h0 (i := 5) (by decide) (by omega)) rfl rfl (Nat.le_of_ble_eq_true rfl) ⟨by decide, by decide⟩ ⟨rfl, rfl⟩ (fun rv_ I_ r_ J_ hv_ => ?_)
  obtain ⟨a1_, a2_, a3_, a4_⟩ := hv_
  rw [a1_, a2_, a3_, a4_]
  show Wq MX12_readLine 139 [some (.ref 100)] [.int 0] M r J _
  refine x_if_eq (t := 160) (q := 142) dX12_readLine_139 (by decide) rfl (fun c139 => ?_) (fun c139 => absurd c139 ((by decide)))
  refine x_aload_n (q := 161) dX12_readLine_160 rfl rfl ?_
  refine x_ldc2 (v := 431198596980) (q := 164) dX12_readLine_161 rfl tw_1384 ?_
  refine q_callV (ci := 12) (N := 79) (T := TX12) (As := [.long 431198596980]) (rest := []) (q := 167) dX12_readLine_164 rfl okX12_isWord tw_1359 rfl rfl (c_isW_b r h h0 (i := 6) (by decide) (by omega)) rfl rfl (Nat.le_of_ble_eq_true rfl) ⟨by decide, by decide⟩ ⟨rfl, rfl⟩ (fun rv_ I_ r_ J_ hv_ => ?_)
  obtain ⟨a1_, a2_, a3_, a4_⟩ := hv_
  rw [a1_, a2_, a3_, a4_]
  show Wq MX12_readLine 167 [some (.ref 100)] [.int 0] M r J _
  refine x_if_eq (t := 188) (q := 170) dX12_readLine_167 (by decide) rfl (fun c167 => ?_) (fun c167 => absurd c167 ((by decide)))
  refine x_aload_n (q := 189) dX12_readLine_188 rfl rfl ?_
  refine x_ldc2 (v := 495874699877) (q := 192) dX12_readLine_189 rfl tw_1385 ?_
  refine q_callV (ci := 12) (N := 79) (T := TX12) (As := [.long 495874699877]) (rest := []) (q := 195) dX12_readLine_192 rfl okX12_isWord tw_1359 rfl rfl (c_isW_b r h h0 (i := 7) (by decide) (by omega)) rfl rfl (Nat.le_of_ble_eq_true rfl) ⟨by decide, by decide⟩ ⟨rfl, rfl⟩ (fun rv_ I_ r_ J_ hv_ => ?_)
  obtain ⟨a1_, a2_, a3_, a4_⟩ := hv_
  rw [a1_, a2_, a3_, a4_]
  show Wq MX12_readLine 195 [some (.ref 100)] [.int 0] M r J _
  refine x_if_eq (t := 216) (q := 198) dX12_readLine_195 (by decide) rfl (fun c195 => ?_) (fun c195 => absurd c195 ((by decide)))
  refine x_aload_n (q := 217) dX12_readLine_216 rfl rfl ?_
  refine x_iconst (2) (q := 218) dX12_readLine_217 rfl (by decide) ?_
  refine q_callV (ci := 12) (N := 79) (T := TX12) (As := [.int 2]) (rest := []) (q := 221) dX12_readLine_218 rfl okX12_wrong tw_1390 rfl rfl (c_wr r h (k := 2) (by decide) h0) rfl rfl (Nat.le_of_ble_eq_true rfl) ⟨by decide, by decide⟩ ⟨rfl, rfl⟩ (fun rv_ V1 r_ K1 hv_ => ?_)
  obtain ⟨a1_, pm1, fm1, a3_⟩ := hv_
  rw [a1_, a3_]
  have pm1 : PM T n (rfT T n s) V1 K1 := pm1
  show Wq MX12_readLine 221 [some (.ref 100)] [] V1 r K1 _
  exact rl_fin (y := 0) (w := 0) (h := 0) (c := 0) elb pm1 fm1.l (fun z => absurd z rfT_n)
set_option maxRecDepth 100000 in
theorem c_rl4 {T : Nat → Nat} {n : Nat} (r : MR) {M : MI} {J : MJ} {s : Nat × Nat × Nat} (h : PM T n s M J) (h0 : s.1 = 0) {A : MI} {yn wn hn sn : Nat} (hD : MD T n A yn wn hn sn M J) (hk : kw T n s.2.2 = 4) (hf : ¬ (tA A).testBit 4 = true) : Cq yX12_readLine MX12_readLine [.ref 100] M r J (RML T n (tsc T n (lb T n s A).1) (fun Y K => ∃ y w h c, MD T n (lb T n s A).2 y w h c Y K) M J r) := by
  obtain ⟨⟨k1, k5, k9, k12⟩, ⟨y8, w16, h12, s7⟩, ⟨m33, m34, m35, m36⟩, hMN, hMy, hMh, hMs, hMw, hMo⟩ := id hD
  have hkk := MD_k hD
  obtain ⟨tb, t256, k17, o4, o5, o6, o7, o8⟩ := hMo
  have hta : tA A = tb := by unfold tA; rw [k17, nI_clamp (by omega)]
  have hk1 : ¬ kd T n s.2.2 = 1 := by rw [kw_2 (by omega)]; decide
  have elb : lb T n s A = (tnuT T n 0 9999 (adv T n s), upI (upI A 0 17 (nI (tb ||| 2 ^ 4))) 0 13 (nI (vl T n (adv T n s).2.2))) := by
    unfold lb; rw [hk]; rw [if_neg (by decide), if_neg (by decide), if_neg (by decide), if_neg (by decide), if_pos (by decide), if_neg hf, hta, hkk.1]
    rfl
  rw [hta] at hf
  have v3 := (o4.1 (eq_false_of_ne_true hf)).1
  refine cq_of [some (.ref 100)] 0 (by decide +kernel) rfl rfl (Nat.le_of_ble_eq_true rfl) rfl ?_
  refine x_aload_n (q := 1) dX12_readLine_0 rfl rfl ?_
  refine x_ldc2 (v := 2036429412) (q := 4) dX12_readLine_1 rfl tw_1358 ?_
  refine q_callV (ci := 12) (N := 79) (T := TX12) (As := [.long 2036429412]) (rest := []) (q := 7) dX12_readLine_4 rfl okX12_isWord tw_1359 rfl rfl (c_isW_b r h h0 (i := 0) (by decide) (by omega)) rfl rfl (Nat.le_of_ble_eq_true rfl) ⟨by decide, by decide⟩ ⟨rfl, rfl⟩ (fun rv_ I_ r_ J_ hv_ => ?_)
  obtain ⟨a1_, a2_, a3_, a4_⟩ := hv_
  rw [a1_, a2_, a3_, a4_]
  show Wq MX12_readLine 7 [some (.ref 100)] [.int 0] M r J _
  refine x_if_eq (t := 26) (q := 10) dX12_readLine_7 (by decide) rfl (fun c7 => ?_) (fun c7 => absurd c7 ((by decide)))
  refine x_aload_n (q := 27) dX12_readLine_26 rfl rfl ?_
  refine x_ldc2 (v := 7823737) (q := 30) dX12_readLine_27 rfl tw_1374 ?_
  refine q_callV (ci := 12) (N := 79) (T := TX12) (As := [.long 7823737]) (rest := []) (q := 33) dX12_readLine_30 rfl okX12_isWord tw_1359 rfl rfl (c_isW_b r h h0 (i := 1) (by decide) (by omega)) rfl rfl (Nat.le_of_ble_eq_true rfl) ⟨by decide, by decide⟩ ⟨rfl, rfl⟩ (fun rv_ I_ r_ J_ hv_ => ?_)
  obtain ⟨a1_, a2_, a3_, a4_⟩ := hv_
  rw [a1_, a2_, a3_, a4_]
  show Wq MX12_readLine 33 [some (.ref 100)] [.int 0] M r J _
  refine x_if_eq (t := 52) (q := 36) dX12_readLine_33 (by decide) rfl (fun c33 => ?_) (fun c33 => absurd c33 ((by decide)))
  refine x_aload_n (q := 53) dX12_readLine_52 rfl rfl ?_
  refine x_ldc2 (v := 1752135026) (q := 56) dX12_readLine_53 rfl tw_1376 ?_
  refine q_callV (ci := 12) (N := 79) (T := TX12) (As := [.long 1752135026]) (rest := []) (q := 59) dX12_readLine_56 rfl okX12_isWord tw_1359 rfl rfl (c_isW_b r h h0 (i := 2) (by decide) (by omega)) rfl rfl (Nat.le_of_ble_eq_true rfl) ⟨by decide, by decide⟩ ⟨rfl, rfl⟩ (fun rv_ I_ r_ J_ hv_ => ?_)
  obtain ⟨a1_, a2_, a3_, a4_⟩ := hv_
  rw [a1_, a2_, a3_, a4_]
  show Wq MX12_readLine 59 [some (.ref 100)] [.int 0] M r J _
  refine x_if_eq (t := 78) (q := 62) dX12_readLine_59 (by decide) rfl (fun c59 => ?_) (fun c59 => absurd c59 ((by decide)))
  refine x_aload_n (q := 79) dX12_readLine_78 rfl rfl ?_
  refine x_ldc2 (v := 1936484720) (q := 82) dX12_readLine_79 rfl tw_1380 ?_
  refine q_callV (ci := 12) (N := 79) (T := TX12) (As := [.long 1936484720]) (rest := []) (q := 85) dX12_readLine_82 rfl okX12_isWord tw_1359 rfl rfl (c_isW_b r h h0 (i := 3) (by decide) (by omega)) rfl rfl (Nat.le_of_ble_eq_true rfl) ⟨by decide, by decide⟩ ⟨rfl, rfl⟩ (fun rv_ I_ r_ J_ hv_ => ?_)
  obtain ⟨a1_, a2_, a3_, a4_⟩ := hv_
  rw [a1_, a2_, a3_, a4_]
  show Wq MX12_readLine 85 [some (.ref 100)] [.int 0] M r J _
  refine x_if_eq (t := 104) (q := 88) dX12_readLine_85 (by decide) rfl (fun c85 => ?_) (fun c85 => absurd c85 ((by decide)))
  refine x_aload_n (q := 105) dX12_readLine_104 rfl rfl ?_
  refine x_ldc2 (v := 1667329132) (q := 108) dX12_readLine_105 rfl tw_1382 ?_
  refine q_callV (ci := 12) (N := 79) (T := TX12) (As := [.long 1667329132]) (rest := []) (q := 111) dX12_readLine_108 rfl okX12_isWord tw_1359 rfl rfl (c_isW_g r h h0 (i := 4) (by decide) hk) rfl rfl (Nat.le_of_ble_eq_true rfl) ⟨by decide, by decide⟩ ⟨rfl, rfl⟩ (fun rv_ I_ r_ J_ hv_ => ?_)
  obtain ⟨a1_, a2_, a3_, a4_⟩ := hv_
  rw [a1_, a2_, a3_, a4_]
  show Wq MX12_readLine 111 [some (.ref 100)] [.int 1] M r J _
  refine x_if_eq (t := 132) (q := 114) dX12_readLine_111 (by decide) rfl (fun c111 => absurd c111 ((by decide))) (fun c111 => ?_)
  refine x_aload_n (q := 115) dX12_readLine_114 rfl rfl ?_
  refine q_gi (K := 37) (q := 118) dX12_readLine_115 rfl cl_12 (by decide) tw_1119 rfl rfl ?_
  refine x_if_ge (t := 132) (q := 121) dX12_readLine_118 (by decide) rfl (fun c118 => absurd c118 (by rw [v3]; decide)) (fun c118 => ?_)
  refine x_aload_n (q := 122) dX12_readLine_121 rfl rfl ?_
  refine x_aload_n (q := 123) dX12_readLine_122 rfl rfl ?_
  refine q_callV (ci := 12) (N := 79) (T := TX12) (As := []) (rest := [.ref 100]) (q := 126) dX12_readLine_123 rfl okX12_readNumber tw_1434 rfl rfl (c_rnM r h h0 hk1) rfl rfl (Nat.le_of_ble_eq_true rfl) ⟨by decide, by decide⟩ ⟨rfl, rfl⟩ (fun rv_ V1 r_ K1 hv_ => ?_)
  obtain ⟨x1, a1_, hx1, pm1, fm1, a3_⟩ := hv_
  rw [a1_, a3_]
  show Wq MX12_readLine 126 [some (.ref 100)] [.int x1, .ref 100] V1 r K1 _
  refine q_pi (K := 37) (q := 129) dX12_readLine_126 rfl cl_12 (by decide) tw_1119 rfl rfl rfl rfl (fun I1 eI1 => ?_)
  refine x_goto (t := 221) dX12_readLine_129 (by decide) ?_
  have pm2 : PM T n (tnuT T n 0 9999 (adv T n s)) I1 K1 := by rw [eI1]; exact PM_0 pm1 (by decide)
  have fl2 : FL M J I1 K1 := fm1.l.tr (by rw [eI1]; exact FL_0 (by decide))
  refine rl_fin (y := yn) (w := wn) (h := hn) (c := sn) elb pm2 fl2 (fun z => ?_)
  have hx := hx1 z
  have g := (tnuT_0 z).2.1
  refine MD_on4 hD t256 k17 g.2 ?_ (fun i => fm1.2.2 102 i (by omega))
  rw [← hx, eI1]
  exact DA_u (DA_f DA.rf fm1)
set_option maxRecDepth 100000 in
theorem c_rl5_f {T : Nat → Nat} {n : Nat} (r : MR) {M : MI} {J : MJ} {s : Nat × Nat × Nat} (h : PM T n s M J) (h0 : s.1 = 0) {A : MI} {yn wn hn sn : Nat} (hD : MD T n A yn wn hn sn M J) (hk : kw T n s.2.2 = 5) (hf : (tA A).testBit 5 = true) : Cq yX12_readLine MX12_readLine [.ref 100] M r J (RML T n (tsc T n (lb T n s A).1) (fun Y K => ∃ y w h c, MD T n (lb T n s A).2 y w h c Y K) M J r) := by
  obtain ⟨⟨k1, k5, k9, k12⟩, ⟨y8, w16, h12, s7⟩, ⟨m33, m34, m35, m36⟩, hMN, hMy, hMh, hMs, hMw, hMo⟩ := id hD
  have hkk := MD_k hD
  obtain ⟨tb, t256, k17, o4, o5, o6, o7, o8⟩ := hMo
  have hta : tA A = tb := by unfold tA; rw [k17, nI_clamp (by omega)]
  have hk1 : ¬ kd T n s.2.2 = 1 := by rw [kw_2 (by omega)]; decide
  have elb : lb T n s A = (rfT T n s, A) := by unfold lb; rw [hk]; rw [if_neg (by decide), if_neg (by decide), if_neg (by decide), if_neg (by decide), if_pos (by decide), if_pos hf]
  rw [hta] at hf
  obtain ⟨vv, v1, v2, v3⟩ := o5.2 hf
  refine cq_of [some (.ref 100)] 0 (by decide +kernel) rfl rfl (Nat.le_of_ble_eq_true rfl) rfl ?_
  refine x_aload_n (q := 1) dX12_readLine_0 rfl rfl ?_
  refine x_ldc2 (v := 2036429412) (q := 4) dX12_readLine_1 rfl tw_1358 ?_
  refine q_callV (ci := 12) (N := 79) (T := TX12) (As := [.long 2036429412]) (rest := []) (q := 7) dX12_readLine_4 rfl okX12_isWord tw_1359 rfl rfl (c_isW_b r h h0 (i := 0) (by decide) (by omega)) rfl rfl (Nat.le_of_ble_eq_true rfl) ⟨by decide, by decide⟩ ⟨rfl, rfl⟩ (fun rv_ I_ r_ J_ hv_ => ?_)
  obtain ⟨a1_, a2_, a3_, a4_⟩ := hv_
  rw [a1_, a2_, a3_, a4_]
  show Wq MX12_readLine 7 [some (.ref 100)] [.int 0] M r J _
  refine x_if_eq (t := 26) (q := 10) dX12_readLine_7 (by decide) rfl (fun c7 => ?_) (fun c7 => absurd c7 ((by decide)))
  refine x_aload_n (q := 27) dX12_readLine_26 rfl rfl ?_
  refine x_ldc2 (v := 7823737) (q := 30) dX12_readLine_27 rfl tw_1374 ?_
  refine q_callV (ci := 12) (N := 79) (T := TX12) (As := [.long 7823737]) (rest := []) (q := 33) dX12_readLine_30 rfl okX12_isWord tw_1359 rfl rfl (c_isW_b r h h0 (i := 1) (by decide) (by omega)) rfl rfl (Nat.le_of_ble_eq_true rfl) ⟨by decide, by decide⟩ ⟨rfl, rfl⟩ (fun rv_ I_ r_ J_ hv_ => ?_)
  obtain ⟨a1_, a2_, a3_, a4_⟩ := hv_
  rw [a1_, a2_, a3_, a4_]
  show Wq MX12_readLine 33 [some (.ref 100)] [.int 0] M r J _
  refine x_if_eq (t := 52) (q := 36) dX12_readLine_33 (by decide) rfl (fun c33 => ?_) (fun c33 => absurd c33 ((by decide)))
  refine x_aload_n (q := 53) dX12_readLine_52 rfl rfl ?_
  refine x_ldc2 (v := 1752135026) (q := 56) dX12_readLine_53 rfl tw_1376 ?_
  refine q_callV (ci := 12) (N := 79) (T := TX12) (As := [.long 1752135026]) (rest := []) (q := 59) dX12_readLine_56 rfl okX12_isWord tw_1359 rfl rfl (c_isW_b r h h0 (i := 2) (by decide) (by omega)) rfl rfl (Nat.le_of_ble_eq_true rfl) ⟨by decide, by decide⟩ ⟨rfl, rfl⟩ (fun rv_ I_ r_ J_ hv_ => ?_)
  obtain ⟨a1_, a2_, a3_, a4_⟩ := hv_
  rw [a1_, a2_, a3_, a4_]
  show Wq MX12_readLine 59 [some (.ref 100)] [.int 0] M r J _
  refine x_if_eq (t := 78) (q := 62) dX12_readLine_59 (by decide) rfl (fun c59 => ?_) (fun c59 => absurd c59 ((by decide)))
  refine x_aload_n (q := 79) dX12_readLine_78 rfl rfl ?_
  refine x_ldc2 (v := 1936484720) (q := 82) dX12_readLine_79 rfl tw_1380 ?_
  refine q_callV (ci := 12) (N := 79) (T := TX12) (As := [.long 1936484720]) (rest := []) (q := 85) dX12_readLine_82 rfl okX12_isWord tw_1359 rfl rfl (c_isW_b r h h0 (i := 3) (by decide) (by omega)) rfl rfl (Nat.le_of_ble_eq_true rfl) ⟨by decide, by decide⟩ ⟨rfl, rfl⟩ (fun rv_ I_ r_ J_ hv_ => ?_)
  obtain ⟨a1_, a2_, a3_, a4_⟩ := hv_
  rw [a1_, a2_, a3_, a4_]
  show Wq MX12_readLine 85 [some (.ref 100)] [.int 0] M r J _
  refine x_if_eq (t := 104) (q := 88) dX12_readLine_85 (by decide) rfl (fun c85 => ?_) (fun c85 => absurd c85 ((by decide)))
  refine x_aload_n (q := 105) dX12_readLine_104 rfl rfl ?_
  refine x_ldc2 (v := 1667329132) (q := 108) dX12_readLine_105 rfl tw_1382 ?_
  refine q_callV (ci := 12) (N := 79) (T := TX12) (As := [.long 1667329132]) (rest := []) (q := 111) dX12_readLine_108 rfl okX12_isWord tw_1359 rfl rfl (c_isW_b r h h0 (i := 4) (by decide) (by omega)) rfl rfl (Nat.le_of_ble_eq_true rfl) ⟨by decide, by decide⟩ ⟨rfl, rfl⟩ (fun rv_ I_ r_ J_ hv_ => ?_)
  obtain ⟨a1_, a2_, a3_, a4_⟩ := hv_
  rw [a1_, a2_, a3_, a4_]
  show Wq MX12_readLine 111 [some (.ref 100)] [.int 0] M r J _
  refine x_if_eq (t := 132) (q := 114) dX12_readLine_111 (by decide) rfl (fun c111 => ?_) (fun c111 => absurd c111 ((by decide)))
  refine x_aload_n (q := 133) dX12_readLine_132 rfl rfl ?_
  refine x_ldc2 (v := 1751216749) (q := 136) dX12_readLine_133 rfl tw_1383 ?_
  refine q_callV (ci := 12) (N := 79) (T := TX12) (As := [.long 1751216749]) (rest := []) (q := 139) dX12_readLine_136 rfl okX12_isWord tw_1359 rfl rfl (c_isW_g r h h0 (i := 5) (by decide) hk) rfl rfl (Nat.le_of_ble_eq_true rfl) ⟨by decide, by decide⟩ ⟨rfl, rfl⟩ (fun rv_ I_ r_ J_ hv_ => ?_)
  obtain ⟨a1_, a2_, a3_, a4_⟩ := hv_
  rw [a1_, a2_, a3_, a4_]
  show Wq MX12_readLine 139 [some (.ref 100)] [.int 1] M r J _
  refine x_if_eq (t := 160) (q := 142) dX12_readLine_139 (by decide) rfl (fun c139 => absurd c139 ((by decide))) (fun c139 => ?_)
  refine x_aload_n (q := 143) dX12_readLine_142 rfl rfl ?_
  refine q_gi (K := 38) (q := 146) dX12_readLine_143 rfl cl_12 (by decide) tw_1120 rfl rfl ?_
  refine x_if_ge (t := 160) (q := 149) dX12_readLine_146 (by decide) rfl (fun c146 => ?_) (fun c146 => absurd c146 (fun z => z (by rw [v3]; exact nI_pos' (by omega))))
  refine x_aload_n (q := 161) dX12_readLine_160 rfl rfl ?_
  refine x_ldc2 (v := 431198596980) (q := 164) dX12_readLine_161 rfl tw_1384 ?_
  refine q_callV (ci := 12) (N := 79) (T := TX12) (As := [.long 431198596980]) (rest := []) (q := 167) dX12_readLine_164 rfl okX12_isWord tw_1359 rfl rfl (c_isW_b r h h0 (i := 6) (by decide) (by omega)) rfl rfl (Nat.le_of_ble_eq_true rfl) ⟨by decide, by decide⟩ ⟨rfl, rfl⟩ (fun rv_ I_ r_ J_ hv_ => ?_)
  obtain ⟨a1_, a2_, a3_, a4_⟩ := hv_
  rw [a1_, a2_, a3_, a4_]
  show Wq MX12_readLine 167 [some (.ref 100)] [.int 0] M r J _
  refine x_if_eq (t := 188) (q := 170) dX12_readLine_167 (by decide) rfl (fun c167 => ?_) (fun c167 => absurd c167 ((by decide)))
  refine x_aload_n (q := 189) dX12_readLine_188 rfl rfl ?_
  refine x_ldc2 (v := 495874699877) (q := 192) dX12_readLine_189 rfl tw_1385 ?_
  refine q_callV (ci := 12) (N := 79) (T := TX12) (As := [.long 495874699877]) (rest := []) (q := 195) dX12_readLine_192 rfl okX12_isWord tw_1359 rfl rfl (c_isW_b r h h0 (i := 7) (by decide) (by omega)) rfl rfl (Nat.le_of_ble_eq_true rfl) ⟨by decide, by decide⟩ ⟨rfl, rfl⟩ (fun rv_ I_ r_ J_ hv_ => ?_)
  obtain ⟨a1_, a2_, a3_, a4_⟩ := hv_
  rw [a1_, a2_, a3_, a4_]
  show Wq MX12_readLine 195 [some (.ref 100)] [.int 0] M r J _
  refine x_if_eq (t := 216) (q := 198) dX12_readLine_195 (by decide) rfl (fun c195 => ?_) (fun c195 => absurd c195 ((by decide)))
  refine x_aload_n (q := 217) dX12_readLine_216 rfl rfl ?_
  refine x_iconst (2) (q := 218) dX12_readLine_217 rfl (by decide) ?_
  refine q_callV (ci := 12) (N := 79) (T := TX12) (As := [.int 2]) (rest := []) (q := 221) dX12_readLine_218 rfl okX12_wrong tw_1390 rfl rfl (c_wr r h (k := 2) (by decide) h0) rfl rfl (Nat.le_of_ble_eq_true rfl) ⟨by decide, by decide⟩ ⟨rfl, rfl⟩ (fun rv_ V1 r_ K1 hv_ => ?_)
  obtain ⟨a1_, pm1, fm1, a3_⟩ := hv_
  rw [a1_, a3_]
  have pm1 : PM T n (rfT T n s) V1 K1 := pm1
  show Wq MX12_readLine 221 [some (.ref 100)] [] V1 r K1 _
  exact rl_fin (y := 0) (w := 0) (h := 0) (c := 0) elb pm1 fm1.l (fun z => absurd z rfT_n)
set_option maxRecDepth 100000 in
theorem c_rl5 {T : Nat → Nat} {n : Nat} (r : MR) {M : MI} {J : MJ} {s : Nat × Nat × Nat} (h : PM T n s M J) (h0 : s.1 = 0) {A : MI} {yn wn hn sn : Nat} (hD : MD T n A yn wn hn sn M J) (hk : kw T n s.2.2 = 5) (hf : ¬ (tA A).testBit 5 = true) : Cq yX12_readLine MX12_readLine [.ref 100] M r J (RML T n (tsc T n (lb T n s A).1) (fun Y K => ∃ y w h c, MD T n (lb T n s A).2 y w h c Y K) M J r) := by
  obtain ⟨⟨k1, k5, k9, k12⟩, ⟨y8, w16, h12, s7⟩, ⟨m33, m34, m35, m36⟩, hMN, hMy, hMh, hMs, hMw, hMo⟩ := id hD
  have hkk := MD_k hD
  obtain ⟨tb, t256, k17, o4, o5, o6, o7, o8⟩ := hMo
  have hta : tA A = tb := by unfold tA; rw [k17, nI_clamp (by omega)]
  have hk1 : ¬ kd T n s.2.2 = 1 := by rw [kw_2 (by omega)]; decide
  have elb : lb T n s A = (tnuT T n 0 9999 (adv T n s), upI (upI A 0 17 (nI (tb ||| 2 ^ 5))) 0 14 (nI (vl T n (adv T n s).2.2))) := by
    unfold lb; rw [hk]; rw [if_neg (by decide), if_neg (by decide), if_neg (by decide), if_neg (by decide), if_pos (by decide), if_neg hf, hta, hkk.1]
    rfl
  rw [hta] at hf
  have v3 := (o5.1 (eq_false_of_ne_true hf)).1
  refine cq_of [some (.ref 100)] 0 (by decide +kernel) rfl rfl (Nat.le_of_ble_eq_true rfl) rfl ?_
  refine x_aload_n (q := 1) dX12_readLine_0 rfl rfl ?_
  refine x_ldc2 (v := 2036429412) (q := 4) dX12_readLine_1 rfl tw_1358 ?_
  refine q_callV (ci := 12) (N := 79) (T := TX12) (As := [.long 2036429412]) (rest := []) (q := 7) dX12_readLine_4 rfl okX12_isWord tw_1359 rfl rfl (c_isW_b r h h0 (i := 0) (by decide) (by omega)) rfl rfl (Nat.le_of_ble_eq_true rfl) ⟨by decide, by decide⟩ ⟨rfl, rfl⟩ (fun rv_ I_ r_ J_ hv_ => ?_)
  obtain ⟨a1_, a2_, a3_, a4_⟩ := hv_
  rw [a1_, a2_, a3_, a4_]
  show Wq MX12_readLine 7 [some (.ref 100)] [.int 0] M r J _
  refine x_if_eq (t := 26) (q := 10) dX12_readLine_7 (by decide) rfl (fun c7 => ?_) (fun c7 => absurd c7 ((by decide)))
  refine x_aload_n (q := 27) dX12_readLine_26 rfl rfl ?_
  refine x_ldc2 (v := 7823737) (q := 30) dX12_readLine_27 rfl tw_1374 ?_
  refine q_callV (ci := 12) (N := 79) (T := TX12) (As := [.long 7823737]) (rest := []) (q := 33) dX12_readLine_30 rfl okX12_isWord tw_1359 rfl rfl (c_isW_b r h h0 (i := 1) (by decide) (by omega)) rfl rfl (Nat.le_of_ble_eq_true rfl) ⟨by decide, by decide⟩ ⟨rfl, rfl⟩ (fun rv_ I_ r_ J_ hv_ => ?_)
  obtain ⟨a1_, a2_, a3_, a4_⟩ := hv_
  rw [a1_, a2_, a3_, a4_]
  show Wq MX12_readLine 33 [some (.ref 100)] [.int 0] M r J _
  refine x_if_eq (t := 52) (q := 36) dX12_readLine_33 (by decide) rfl (fun c33 => ?_) (fun c33 => absurd c33 ((by decide)))
  refine x_aload_n (q := 53) dX12_readLine_52 rfl rfl ?_
  refine x_ldc2 (v := 1752135026) (q := 56) dX12_readLine_53 rfl tw_1376 ?_
  refine q_callV (ci := 12) (N := 79) (T := TX12) (As := [.long 1752135026]) (rest := []) (q := 59) dX12_readLine_56 rfl okX12_isWord tw_1359 rfl rfl (c_isW_b r h h0 (i := 2) (by decide) (by omega)) rfl rfl (Nat.le_of_ble_eq_true rfl) ⟨by decide, by decide⟩ ⟨rfl, rfl⟩ (fun rv_ I_ r_ J_ hv_ => ?_)
  obtain ⟨a1_, a2_, a3_, a4_⟩ := hv_
  rw [a1_, a2_, a3_, a4_]
  show Wq MX12_readLine 59 [some (.ref 100)] [.int 0] M r J _
  refine x_if_eq (t := 78) (q := 62) dX12_readLine_59 (by decide) rfl (fun c59 => ?_) (fun c59 => absurd c59 ((by decide)))
  refine x_aload_n (q := 79) dX12_readLine_78 rfl rfl ?_
  refine x_ldc2 (v := 1936484720) (q := 82) dX12_readLine_79 rfl tw_1380 ?_
  refine q_callV (ci := 12) (N := 79) (T := TX12) (As := [.long 1936484720]) (rest := []) (q := 85) dX12_readLine_82 rfl okX12_isWord tw_1359 rfl rfl (c_isW_b r h h0 (i := 3) (by decide) (by omega)) rfl rfl (Nat.le_of_ble_eq_true rfl) ⟨by decide, by decide⟩ ⟨rfl, rfl⟩ (fun rv_ I_ r_ J_ hv_ => ?_)
  obtain ⟨a1_, a2_, a3_, a4_⟩ := hv_
  rw [a1_, a2_, a3_, a4_]
  show Wq MX12_readLine 85 [some (.ref 100)] [.int 0] M r J _
  refine x_if_eq (t := 104) (q := 88) dX12_readLine_85 (by decide) rfl (fun c85 => ?_) (fun c85 => absurd c85 ((by decide)))
  refine x_aload_n (q := 105) dX12_readLine_104 rfl rfl ?_
  refine x_ldc2 (v := 1667329132) (q := 108) dX12_readLine_105 rfl tw_1382 ?_
  refine q_callV (ci := 12) (N := 79) (T := TX12) (As := [.long 1667329132]) (rest := []) (q := 111) dX12_readLine_108 rfl okX12_isWord tw_1359 rfl rfl (c_isW_b r h h0 (i := 4) (by decide) (by omega)) rfl rfl (Nat.le_of_ble_eq_true rfl) ⟨by decide, by decide⟩ ⟨rfl, rfl⟩ (fun rv_ I_ r_ J_ hv_ => ?_)
  obtain ⟨a1_, a2_, a3_, a4_⟩ := hv_
  rw [a1_, a2_, a3_, a4_]
  show Wq MX12_readLine 111 [some (.ref 100)] [.int 0] M r J _
  refine x_if_eq (t := 132) (q := 114) dX12_readLine_111 (by decide) rfl (fun c111 => ?_) (fun c111 => absurd c111 ((by decide)))
  refine x_aload_n (q := 133) dX12_readLine_132 rfl rfl ?_
  refine x_ldc2 (v := 1751216749) (q := 136) dX12_readLine_133 rfl tw_1383 ?_
  refine q_callV (ci := 12) (N := 79) (T := TX12) (As := [.long 1751216749]) (rest := []) (q := 139) dX12_readLine_136 rfl okX12_isWord tw_1359 rfl rfl (c_isW_g r h h0 (i := 5) (by decide) hk) rfl rfl (Nat.le_of_ble_eq_true rfl) ⟨by decide, by decide⟩ ⟨rfl, rfl⟩ (fun rv_ I_ r_ J_ hv_ => ?_)
  obtain ⟨a1_, a2_, a3_, a4_⟩ := hv_
  rw [a1_, a2_, a3_, a4_]
  show Wq MX12_readLine 139 [some (.ref 100)] [.int 1] M r J _
  refine x_if_eq (t := 160) (q := 142) dX12_readLine_139 (by decide) rfl (fun c139 => absurd c139 ((by decide))) (fun c139 => ?_)
  refine x_aload_n (q := 143) dX12_readLine_142 rfl rfl ?_
  refine q_gi (K := 38) (q := 146) dX12_readLine_143 rfl cl_12 (by decide) tw_1120 rfl rfl ?_
  refine x_if_ge (t := 160) (q := 149) dX12_readLine_146 (by decide) rfl (fun c146 => absurd c146 (by rw [v3]; decide)) (fun c146 => ?_)
  refine x_aload_n (q := 150) dX12_readLine_149 rfl rfl ?_
  refine x_aload_n (q := 151) dX12_readLine_150 rfl rfl ?_
  refine q_callV (ci := 12) (N := 79) (T := TX12) (As := []) (rest := [.ref 100]) (q := 154) dX12_readLine_151 rfl okX12_readNumber tw_1434 rfl rfl (c_rnM r h h0 hk1) rfl rfl (Nat.le_of_ble_eq_true rfl) ⟨by decide, by decide⟩ ⟨rfl, rfl⟩ (fun rv_ V1 r_ K1 hv_ => ?_)
  obtain ⟨x1, a1_, hx1, pm1, fm1, a3_⟩ := hv_
  rw [a1_, a3_]
  show Wq MX12_readLine 154 [some (.ref 100)] [.int x1, .ref 100] V1 r K1 _
  refine q_pi (K := 38) (q := 157) dX12_readLine_154 rfl cl_12 (by decide) tw_1120 rfl rfl rfl rfl (fun I1 eI1 => ?_)
  refine x_goto (t := 221) dX12_readLine_157 (by decide) ?_
  have pm2 : PM T n (tnuT T n 0 9999 (adv T n s)) I1 K1 := by rw [eI1]; exact PM_0 pm1 (by decide)
  have fl2 : FL M J I1 K1 := fm1.l.tr (by rw [eI1]; exact FL_0 (by decide))
  refine rl_fin (y := yn) (w := wn) (h := hn) (c := sn) elb pm2 fl2 (fun z => ?_)
  have hx := hx1 z
  have g := (tnuT_0 z).2.1
  refine MD_on5 hD t256 k17 g.2 ?_ (fun i => fm1.2.2 102 i (by omega))
  rw [← hx, eI1]
  exact DA_u (DA_f DA.rf fm1)
set_option maxRecDepth 100000 in
theorem c_rl6_f {T : Nat → Nat} {n : Nat} (r : MR) {M : MI} {J : MJ} {s : Nat × Nat × Nat} (h : PM T n s M J) (h0 : s.1 = 0) {A : MI} {yn wn hn sn : Nat} (hD : MD T n A yn wn hn sn M J) (hk : kw T n s.2.2 = 6) (hf : (tA A).testBit 6 = true) : Cq yX12_readLine MX12_readLine [.ref 100] M r J (RML T n (tsc T n (lb T n s A).1) (fun Y K => ∃ y w h c, MD T n (lb T n s A).2 y w h c Y K) M J r) := by
  obtain ⟨⟨k1, k5, k9, k12⟩, ⟨y8, w16, h12, s7⟩, ⟨m33, m34, m35, m36⟩, hMN, hMy, hMh, hMs, hMw, hMo⟩ := id hD
  have hkk := MD_k hD
  obtain ⟨tb, t256, k17, o4, o5, o6, o7, o8⟩ := hMo
  have hta : tA A = tb := by unfold tA; rw [k17, nI_clamp (by omega)]
  have hk1 : ¬ kd T n s.2.2 = 1 := by rw [kw_2 (by omega)]; decide
  have elb : lb T n s A = (rfT T n s, A) := by unfold lb; rw [hk]; rw [if_neg (by decide), if_neg (by decide), if_neg (by decide), if_neg (by decide), if_pos (by decide), if_pos hf]
  rw [hta] at hf
  obtain ⟨vv, v1, v2, v3⟩ := o6.2 hf
  refine cq_of [some (.ref 100)] 0 (by decide +kernel) rfl rfl (Nat.le_of_ble_eq_true rfl) rfl ?_
  refine x_aload_n (q := 1) dX12_readLine_0 rfl rfl ?_
  refine x_ldc2 (v := 2036429412) (q := 4) dX12_readLine_1 rfl tw_1358 ?_
  refine q_callV (ci := 12) (N := 79) (T := TX12) (As := [.long 2036429412]) (rest := []) (q := 7) dX12_readLine_4 rfl okX12_isWord tw_1359 rfl rfl (c_isW_b r h h0 (i := 0) (by decide) (by omega)) rfl rfl (Nat.le_of_ble_eq_true rfl) ⟨by decide, by decide⟩ ⟨rfl, rfl⟩ (fun rv_ I_ r_ J_ hv_ => ?_)
  obtain ⟨a1_, a2_, a3_, a4_⟩ := hv_
  rw [a1_, a2_, a3_, a4_]
  show Wq MX12_readLine 7 [some (.ref 100)] [.int 0] M r J _
  refine x_if_eq (t := 26) (q := 10) dX12_readLine_7 (by decide) rfl (fun c7 => ?_) (fun c7 => absurd c7 ((by decide)))
  refine x_aload_n (q := 27) dX12_readLine_26 rfl rfl ?_
  refine x_ldc2 (v := 7823737) (q := 30) dX12_readLine_27 rfl tw_1374 ?_
  refine q_callV (ci := 12) (N := 79) (T := TX12) (As := [.long 7823737]) (rest := []) (q := 33) dX12_readLine_30 rfl okX12_isWord tw_1359 rfl rfl (c_isW_b r h h0 (i := 1) (by decide) (by omega)) rfl rfl (Nat.le_of_ble_eq_true rfl) ⟨by decide, by decide⟩ ⟨rfl, rfl⟩ (fun rv_ I_ r_ J_ hv_ => ?_)
  obtain ⟨a1_, a2_, a3_, a4_⟩ := hv_
  rw [a1_, a2_, a3_, a4_]
  show Wq MX12_readLine 33 [some (.ref 100)] [.int 0] M r J _
  refine x_if_eq (t := 52) (q := 36) dX12_readLine_33 (by decide) rfl (fun c33 => ?_) (fun c33 => absurd c33 ((by decide)))
  refine x_aload_n (q := 53) dX12_readLine_52 rfl rfl ?_
  refine x_ldc2 (v := 1752135026) (q := 56) dX12_readLine_53 rfl tw_1376 ?_
  refine q_callV (ci := 12) (N := 79) (T := TX12) (As := [.long 1752135026]) (rest := []) (q := 59) dX12_readLine_56 rfl okX12_isWord tw_1359 rfl rfl (c_isW_b r h h0 (i := 2) (by decide) (by omega)) rfl rfl (Nat.le_of_ble_eq_true rfl) ⟨by decide, by decide⟩ ⟨rfl, rfl⟩ (fun rv_ I_ r_ J_ hv_ => ?_)
  obtain ⟨a1_, a2_, a3_, a4_⟩ := hv_
  rw [a1_, a2_, a3_, a4_]
  show Wq MX12_readLine 59 [some (.ref 100)] [.int 0] M r J _
  refine x_if_eq (t := 78) (q := 62) dX12_readLine_59 (by decide) rfl (fun c59 => ?_) (fun c59 => absurd c59 ((by decide)))
  refine x_aload_n (q := 79) dX12_readLine_78 rfl rfl ?_
  refine x_ldc2 (v := 1936484720) (q := 82) dX12_readLine_79 rfl tw_1380 ?_
  refine q_callV (ci := 12) (N := 79) (T := TX12) (As := [.long 1936484720]) (rest := []) (q := 85) dX12_readLine_82 rfl okX12_isWord tw_1359 rfl rfl (c_isW_b r h h0 (i := 3) (by decide) (by omega)) rfl rfl (Nat.le_of_ble_eq_true rfl) ⟨by decide, by decide⟩ ⟨rfl, rfl⟩ (fun rv_ I_ r_ J_ hv_ => ?_)
  obtain ⟨a1_, a2_, a3_, a4_⟩ := hv_
  rw [a1_, a2_, a3_, a4_]
  show Wq MX12_readLine 85 [some (.ref 100)] [.int 0] M r J _
  refine x_if_eq (t := 104) (q := 88) dX12_readLine_85 (by decide) rfl (fun c85 => ?_) (fun c85 => absurd c85 ((by decide)))
  refine x_aload_n (q := 105) dX12_readLine_104 rfl rfl ?_
  refine x_ldc2 (v := 1667329132) (q := 108) dX12_readLine_105 rfl tw_1382 ?_
  refine q_callV (ci := 12) (N := 79) (T := TX12) (As := [.long 1667329132]) (rest := []) (q := 111) dX12_readLine_108 rfl okX12_isWord tw_1359 rfl rfl (c_isW_b r h h0 (i := 4) (by decide) (by omega)) rfl rfl (Nat.le_of_ble_eq_true rfl) ⟨by decide, by decide⟩ ⟨rfl, rfl⟩ (fun rv_ I_ r_ J_ hv_ => ?_)
  obtain ⟨a1_, a2_, a3_, a4_⟩ := hv_
  rw [a1_, a2_, a3_, a4_]
  show Wq MX12_readLine 111 [some (.ref 100)] [.int 0] M r J _
  refine x_if_eq (t := 132) (q := 114) dX12_readLine_111 (by decide) rfl (fun c111 => ?_) (fun c111 => absurd c111 ((by decide)))
  refine x_aload_n (q := 133) dX12_readLine_132 rfl rfl ?_
  refine x_ldc2 (v := 1751216749) (q := 136) dX12_readLine_133 rfl tw_1383 ?_
  refine q_callV (ci := 12) (N := 79) (T := TX12) (As := [.long 1751216749]) (rest := []) (q := 139) dX12_readLine_136 rfl okX12_isWord tw_1359 rfl rfl (c_isW_b r h h0 (i := 5) (by decide) (by omega)) rfl rfl (Nat.le_of_ble_eq_true rfl) ⟨by decide, by decide⟩ ⟨rfl, rfl⟩ (fun rv_ I_ r_ J_ hv_ => ?_)
  obtain ⟨a1_, a2_, a3_, a4_⟩ := hv_
  rw [a1_, a2_, a3_, a4_]
  show Wq MX12_readLine 139 [some (.ref 100)] [.int 0] M r J _
  refine x_if_eq (t := 160) (q := 142) dX12_readLine_139 (by decide) rfl (fun c139 => ?_) (fun c139 => absurd c139 ((by decide)))
  refine x_aload_n (q := 161) dX12_readLine_160 rfl rfl ?_
  refine x_ldc2 (v := 431198596980) (q := 164) dX12_readLine_161 rfl tw_1384 ?_
  refine q_callV (ci := 12) (N := 79) (T := TX12) (As := [.long 431198596980]) (rest := []) (q := 167) dX12_readLine_164 rfl okX12_isWord tw_1359 rfl rfl (c_isW_g r h h0 (i := 6) (by decide) hk) rfl rfl (Nat.le_of_ble_eq_true rfl) ⟨by decide, by decide⟩ ⟨rfl, rfl⟩ (fun rv_ I_ r_ J_ hv_ => ?_)
  obtain ⟨a1_, a2_, a3_, a4_⟩ := hv_
  rw [a1_, a2_, a3_, a4_]
  show Wq MX12_readLine 167 [some (.ref 100)] [.int 1] M r J _
  refine x_if_eq (t := 188) (q := 170) dX12_readLine_167 (by decide) rfl (fun c167 => absurd c167 ((by decide))) (fun c167 => ?_)
  refine x_aload_n (q := 171) dX12_readLine_170 rfl rfl ?_
  refine q_gi (K := 39) (q := 174) dX12_readLine_171 rfl cl_12 (by decide) tw_1121 rfl rfl ?_
  refine x_if_ge (t := 188) (q := 177) dX12_readLine_174 (by decide) rfl (fun c174 => ?_) (fun c174 => absurd c174 (fun z => z (by rw [v3]; exact nI_pos' (by omega))))
  refine x_aload_n (q := 189) dX12_readLine_188 rfl rfl ?_
  refine x_ldc2 (v := 495874699877) (q := 192) dX12_readLine_189 rfl tw_1385 ?_
  refine q_callV (ci := 12) (N := 79) (T := TX12) (As := [.long 495874699877]) (rest := []) (q := 195) dX12_readLine_192 rfl okX12_isWord tw_1359 rfl rfl (c_isW_b r h h0 (i := 7) (by decide) (by omega)) rfl rfl (Nat.le_of_ble_eq_true rfl) ⟨by decide, by decide⟩ ⟨rfl, rfl⟩ (fun rv_ I_ r_ J_ hv_ => ?_)
  obtain ⟨a1_, a2_, a3_, a4_⟩ := hv_
  rw [a1_, a2_, a3_, a4_]
  show Wq MX12_readLine 195 [some (.ref 100)] [.int 0] M r J _
  refine x_if_eq (t := 216) (q := 198) dX12_readLine_195 (by decide) rfl (fun c195 => ?_) (fun c195 => absurd c195 ((by decide)))
  refine x_aload_n (q := 217) dX12_readLine_216 rfl rfl ?_
  refine x_iconst (2) (q := 218) dX12_readLine_217 rfl (by decide) ?_
  refine q_callV (ci := 12) (N := 79) (T := TX12) (As := [.int 2]) (rest := []) (q := 221) dX12_readLine_218 rfl okX12_wrong tw_1390 rfl rfl (c_wr r h (k := 2) (by decide) h0) rfl rfl (Nat.le_of_ble_eq_true rfl) ⟨by decide, by decide⟩ ⟨rfl, rfl⟩ (fun rv_ V1 r_ K1 hv_ => ?_)
  obtain ⟨a1_, pm1, fm1, a3_⟩ := hv_
  rw [a1_, a3_]
  have pm1 : PM T n (rfT T n s) V1 K1 := pm1
  show Wq MX12_readLine 221 [some (.ref 100)] [] V1 r K1 _
  exact rl_fin (y := 0) (w := 0) (h := 0) (c := 0) elb pm1 fm1.l (fun z => absurd z rfT_n)
set_option maxRecDepth 100000 in
theorem c_rl6 {T : Nat → Nat} {n : Nat} (r : MR) {M : MI} {J : MJ} {s : Nat × Nat × Nat} (h : PM T n s M J) (h0 : s.1 = 0) {A : MI} {yn wn hn sn : Nat} (hD : MD T n A yn wn hn sn M J) (hk : kw T n s.2.2 = 6) (hf : ¬ (tA A).testBit 6 = true) : Cq yX12_readLine MX12_readLine [.ref 100] M r J (RML T n (tsc T n (lb T n s A).1) (fun Y K => ∃ y w h c, MD T n (lb T n s A).2 y w h c Y K) M J r) := by
  obtain ⟨⟨k1, k5, k9, k12⟩, ⟨y8, w16, h12, s7⟩, ⟨m33, m34, m35, m36⟩, hMN, hMy, hMh, hMs, hMw, hMo⟩ := id hD
  have hkk := MD_k hD
  obtain ⟨tb, t256, k17, o4, o5, o6, o7, o8⟩ := hMo
  have hta : tA A = tb := by unfold tA; rw [k17, nI_clamp (by omega)]
  have hk1 : ¬ kd T n s.2.2 = 1 := by rw [kw_2 (by omega)]; decide
  have elb : lb T n s A = (tyaT T n A yn (adv T n s), upI (upI A 0 17 (nI (tb ||| 2 ^ 6))) 0 15 (nI (nf T n A (w5 T n (adv T n s).2.2) yn 0))) := by
    unfold lb; rw [hk]; rw [if_neg (by decide), if_neg (by decide), if_neg (by decide), if_neg (by decide), if_pos (by decide), if_neg hf, hta, hkk.1]
    rfl
  rw [hta] at hf
  have v3 := (o6.1 (eq_false_of_ne_true hf)).1
  refine cq_of [some (.ref 100)] 0 (by decide +kernel) rfl rfl (Nat.le_of_ble_eq_true rfl) rfl ?_
  refine x_aload_n (q := 1) dX12_readLine_0 rfl rfl ?_
  refine x_ldc2 (v := 2036429412) (q := 4) dX12_readLine_1 rfl tw_1358 ?_
  refine q_callV (ci := 12) (N := 79) (T := TX12) (As := [.long 2036429412]) (rest := []) (q := 7) dX12_readLine_4 rfl okX12_isWord tw_1359 rfl rfl (c_isW_b r h h0 (i := 0) (by decide) (by omega)) rfl rfl (Nat.le_of_ble_eq_true rfl) ⟨by decide, by decide⟩ ⟨rfl, rfl⟩ (fun rv_ I_ r_ J_ hv_ => ?_)
  obtain ⟨a1_, a2_, a3_, a4_⟩ := hv_
  rw [a1_, a2_, a3_, a4_]
  show Wq MX12_readLine 7 [some (.ref 100)] [.int 0] M r J _
  refine x_if_eq (t := 26) (q := 10) dX12_readLine_7 (by decide) rfl (fun c7 => ?_) (fun c7 => absurd c7 ((by decide)))
  refine x_aload_n (q := 27) dX12_readLine_26 rfl rfl ?_
  refine x_ldc2 (v := 7823737) (q := 30) dX12_readLine_27 rfl tw_1374 ?_
  refine q_callV (ci := 12) (N := 79) (T := TX12) (As := [.long 7823737]) (rest := []) (q := 33) dX12_readLine_30 rfl okX12_isWord tw_1359 rfl rfl (c_isW_b r h h0 (i := 1) (by decide) (by omega)) rfl rfl (Nat.le_of_ble_eq_true rfl) ⟨by decide, by decide⟩ ⟨rfl, rfl⟩ (fun rv_ I_ r_ J_ hv_ => ?_)
  obtain ⟨a1_, a2_, a3_, a4_⟩ := hv_
  rw [a1_, a2_, a3_, a4_]
  show Wq MX12_readLine 33 [some (.ref 100)] [.int 0] M r J _
  refine x_if_eq (t := 52) (q := 36) dX12_readLine_33 (by decide) rfl (fun c33 => ?_) (fun c33 => absurd c33 ((by decide)))
  refine x_aload_n (q := 53) dX12_readLine_52 rfl rfl ?_
  refine x_ldc2 (v := 1752135026) (q := 56) dX12_readLine_53 rfl tw_1376 ?_
  refine q_callV (ci := 12) (N := 79) (T := TX12) (As := [.long 1752135026]) (rest := []) (q := 59) dX12_readLine_56 rfl okX12_isWord tw_1359 rfl rfl (c_isW_b r h h0 (i := 2) (by decide) (by omega)) rfl rfl (Nat.le_of_ble_eq_true rfl) ⟨by decide, by decide⟩ ⟨rfl, rfl⟩ (fun rv_ I_ r_ J_ hv_ => ?_)
  obtain ⟨a1_, a2_, a3_, a4_⟩ := hv_
  rw [a1_, a2_, a3_, a4_]
  show Wq MX12_readLine 59 [some (.ref 100)] [.int 0] M r J _
  refine x_if_eq (t := 78) (q := 62) dX12_readLine_59 (by decide) rfl (fun c59 => ?_) (fun c59 => absurd c59 ((by decide)))
  refine x_aload_n (q := 79) dX12_readLine_78 rfl rfl ?_
  refine x_ldc2 (v := 1936484720) (q := 82) dX12_readLine_79 rfl tw_1380 ?_
  refine q_callV (ci := 12) (N := 79) (T := TX12) (As := [.long 1936484720]) (rest := []) (q := 85) dX12_readLine_82 rfl okX12_isWord tw_1359 rfl rfl (c_isW_b r h h0 (i := 3) (by decide) (by omega)) rfl rfl (Nat.le_of_ble_eq_true rfl) ⟨by decide, by decide⟩ ⟨rfl, rfl⟩ (fun rv_ I_ r_ J_ hv_ => ?_)
  obtain ⟨a1_, a2_, a3_, a4_⟩ := hv_
  rw [a1_, a2_, a3_, a4_]
  show Wq MX12_readLine 85 [some (.ref 100)] [.int 0] M r J _
  refine x_if_eq (t := 104) (q := 88) dX12_readLine_85 (by decide) rfl (fun c85 => ?_) (fun c85 => absurd c85 ((by decide)))
  refine x_aload_n (q := 105) dX12_readLine_104 rfl rfl ?_
  refine x_ldc2 (v := 1667329132) (q := 108) dX12_readLine_105 rfl tw_1382 ?_
  refine q_callV (ci := 12) (N := 79) (T := TX12) (As := [.long 1667329132]) (rest := []) (q := 111) dX12_readLine_108 rfl okX12_isWord tw_1359 rfl rfl (c_isW_b r h h0 (i := 4) (by decide) (by omega)) rfl rfl (Nat.le_of_ble_eq_true rfl) ⟨by decide, by decide⟩ ⟨rfl, rfl⟩ (fun rv_ I_ r_ J_ hv_ => ?_)
  obtain ⟨a1_, a2_, a3_, a4_⟩ := hv_
  rw [a1_, a2_, a3_, a4_]
  show Wq MX12_readLine 111 [some (.ref 100)] [.int 0] M r J _
  refine x_if_eq (t := 132) (q := 114) dX12_readLine_111 (by decide) rfl (fun c111 => ?_) (fun c111 => absurd c111 ((by decide)))
  refine x_aload_n (q := 133) dX12_readLine_132 rfl rfl ?_
  refine x_ldc2 (v := 1751216749) (q := 136) dX12_readLine_133 rfl tw_1383 ?_
  refine q_callV (ci := 12) (N := 79) (T := TX12) (As := [.long 1751216749]) (rest := []) (q := 139) dX12_readLine_136 rfl okX12_isWord tw_1359 rfl rfl (c_isW_b r h h0 (i := 5) (by decide) (by omega)) rfl rfl (Nat.le_of_ble_eq_true rfl) ⟨by decide, by decide⟩ ⟨rfl, rfl⟩ (fun rv_ I_ r_ J_ hv_ => ?_)
  obtain ⟨a1_, a2_, a3_, a4_⟩ := hv_
  rw [a1_, a2_, a3_, a4_]
  show Wq MX12_readLine 139 [some (.ref 100)] [.int 0] M r J _
  refine x_if_eq (t := 160) (q := 142) dX12_readLine_139 (by decide) rfl (fun c139 => ?_) (fun c139 => absurd c139 ((by decide)))
  refine x_aload_n (q := 161) dX12_readLine_160 rfl rfl ?_
  refine x_ldc2 (v := 431198596980) (q := 164) dX12_readLine_161 rfl tw_1384 ?_
  refine q_callV (ci := 12) (N := 79) (T := TX12) (As := [.long 431198596980]) (rest := []) (q := 167) dX12_readLine_164 rfl okX12_isWord tw_1359 rfl rfl (c_isW_g r h h0 (i := 6) (by decide) hk) rfl rfl (Nat.le_of_ble_eq_true rfl) ⟨by decide, by decide⟩ ⟨rfl, rfl⟩ (fun rv_ I_ r_ J_ hv_ => ?_)
  obtain ⟨a1_, a2_, a3_, a4_⟩ := hv_
  rw [a1_, a2_, a3_, a4_]
  show Wq MX12_readLine 167 [some (.ref 100)] [.int 1] M r J _
  refine x_if_eq (t := 188) (q := 170) dX12_readLine_167 (by decide) rfl (fun c167 => absurd c167 ((by decide))) (fun c167 => ?_)
  refine x_aload_n (q := 171) dX12_readLine_170 rfl rfl ?_
  refine q_gi (K := 39) (q := 174) dX12_readLine_171 rfl cl_12 (by decide) tw_1121 rfl rfl ?_
  refine x_if_ge (t := 188) (q := 177) dX12_readLine_174 (by decide) rfl (fun c174 => absurd c174 (by rw [v3]; decide)) (fun c174 => ?_)
  refine x_aload_n (q := 178) dX12_readLine_177 rfl rfl ?_
  refine x_aload_n (q := 179) dX12_readLine_178 rfl rfl ?_
  refine q_callV (ci := 12) (N := 79) (T := TX12) (As := []) (rest := [.ref 100]) (q := 182) dX12_readLine_179 rfl okX12_readOld tw_1438 rfl rfl (c_roM r h h0 hk1 (A := A) (yn := yn) m33 y8 hMN) rfl rfl (Nat.le_of_ble_eq_true rfl) ⟨by decide, by decide⟩ ⟨rfl, rfl⟩ (fun rv_ V1 r_ K1 hv_ => ?_)
  obtain ⟨x1, a1_, hx1, pm1, fm1, a3_⟩ := hv_
  rw [a1_, a3_]
  show Wq MX12_readLine 182 [some (.ref 100)] [.int x1, .ref 100] V1 r K1 _
  refine q_pi (K := 39) (q := 185) dX12_readLine_182 rfl cl_12 (by decide) tw_1121 rfl rfl rfl rfl (fun I1 eI1 => ?_)
  refine x_goto (t := 221) dX12_readLine_185 (by decide) ?_
  have pm2 : PM T n (tyaT T n A yn (adv T n s)) I1 K1 := by rw [eI1]; exact PM_0 pm1 (by decide)
  have fl2 : FL M J I1 K1 := fm1.l.tr (by rw [eI1]; exact FL_0 (by decide))
  refine rl_fin (y := yn) (w := wn) (h := hn) (c := sn) elb pm2 fl2 (fun z => ?_)
  have hx := hx1 z
  have g := tyaT_0 z
  have l1 := (fd_e (p := (adv T n s).2.2) hMN y8 g.1.2.1).1 g.2.1
  refine MD_on6 hD t256 k17 (by omega) l1.2 ?_ (fun i => fm1.2.2 102 i (by omega))
  rw [← hx, eI1]
  exact DA_u (DA_f DA.rf fm1)
set_option maxRecDepth 100000 in
theorem c_rl7_f {T : Nat → Nat} {n : Nat} (r : MR) {M : MI} {J : MJ} {s : Nat × Nat × Nat} (h : PM T n s M J) (h0 : s.1 = 0) {A : MI} {yn wn hn sn : Nat} (hD : MD T n A yn wn hn sn M J) (hk : kw T n s.2.2 = 7) (hf : (tA A).testBit 7 = true) : Cq yX12_readLine MX12_readLine [.ref 100] M r J (RML T n (tsc T n (lb T n s A).1) (fun Y K => ∃ y w h c, MD T n (lb T n s A).2 y w h c Y K) M J r) := by
  obtain ⟨⟨k1, k5, k9, k12⟩, ⟨y8, w16, h12, s7⟩, ⟨m33, m34, m35, m36⟩, hMN, hMy, hMh, hMs, hMw, hMo⟩ := id hD
  have hkk := MD_k hD
  obtain ⟨tb, t256, k17, o4, o5, o6, o7, o8⟩ := hMo
  have hta : tA A = tb := by unfold tA; rw [k17, nI_clamp (by omega)]
  have hk1 : ¬ kd T n s.2.2 = 1 := by rw [kw_2 (by omega)]; decide
  have elb : lb T n s A = (rfT T n s, A) := by unfold lb; rw [hk]; rw [if_neg (by decide), if_neg (by decide), if_neg (by decide), if_neg (by decide), if_pos (by decide), if_pos hf]
  rw [hta] at hf
  obtain ⟨vv, v1, v2, v3⟩ := o7.2 hf
  refine cq_of [some (.ref 100)] 0 (by decide +kernel) rfl rfl (Nat.le_of_ble_eq_true rfl) rfl ?_
  refine x_aload_n (q := 1) dX12_readLine_0 rfl rfl ?_
  refine x_ldc2 (v := 2036429412) (q := 4) dX12_readLine_1 rfl tw_1358 ?_
  refine q_callV (ci := 12) (N := 79) (T := TX12) (As := [.long 2036429412]) (rest := []) (q := 7) dX12_readLine_4 rfl okX12_isWord tw_1359 rfl rfl (c_isW_b r h h0 (i := 0) (by decide) (by omega)) rfl rfl (Nat.le_of_ble_eq_true rfl) ⟨by decide, by decide⟩ ⟨rfl, rfl⟩ (fun rv_ I_ r_ J_ hv_ => ?_)
  obtain ⟨a1_, a2_, a3_, a4_⟩ := hv_
  rw [a1_, a2_, a3_, a4_]
  show Wq MX12_readLine 7 [some (.ref 100)] [.int 0] M r J _
  refine x_if_eq (t := 26) (q := 10) dX12_readLine_7 (by decide) rfl (fun c7 => ?_) (fun c7 => absurd c7 ((by decide)))
  refine x_aload_n (q := 27) dX12_readLine_26 rfl rfl ?_
  refine x_ldc2 (v := 7823737) (q := 30) dX12_readLine_27 rfl tw_1374 ?_
  refine q_callV (ci := 12) (N := 79) (T := TX12) (As := [.long 7823737]) (rest := []) (q := 33) dX12_readLine_30 rfl okX12_isWord tw_1359 rfl rfl (c_isW_b r h h0 (i := 1) (by decide) (by omega)) rfl rfl (Nat.le_of_ble_eq_true rfl) ⟨by decide, by decide⟩ ⟨rfl, rfl⟩ (fun rv_ I_ r_ J_ hv_ => ?_)
  obtain ⟨a1_, a2_, a3_, a4_⟩ := hv_
  rw [a1_, a2_, a3_, a4_]
  show Wq MX12_readLine 33 [some (.ref 100)] [.int 0] M r J _
  refine x_if_eq (t := 52) (q := 36) dX12_readLine_33 (by decide) rfl (fun c33 => ?_) (fun c33 => absurd c33 ((by decide)))
  refine x_aload_n (q := 53) dX12_readLine_52 rfl rfl ?_
  refine x_ldc2 (v := 1752135026) (q := 56) dX12_readLine_53 rfl tw_1376 ?_
  refine q_callV (ci := 12) (N := 79) (T := TX12) (As := [.long 1752135026]) (rest := []) (q := 59) dX12_readLine_56 rfl okX12_isWord tw_1359 rfl rfl (c_isW_b r h h0 (i := 2) (by decide) (by omega)) rfl rfl (Nat.le_of_ble_eq_true rfl) ⟨by decide, by decide⟩ ⟨rfl, rfl⟩ (fun rv_ I_ r_ J_ hv_ => ?_)
  obtain ⟨a1_, a2_, a3_, a4_⟩ := hv_
  rw [a1_, a2_, a3_, a4_]
  show Wq MX12_readLine 59 [some (.ref 100)] [.int 0] M r J _
  refine x_if_eq (t := 78) (q := 62) dX12_readLine_59 (by decide) rfl (fun c59 => ?_) (fun c59 => absurd c59 ((by decide)))
  refine x_aload_n (q := 79) dX12_readLine_78 rfl rfl ?_
  refine x_ldc2 (v := 1936484720) (q := 82) dX12_readLine_79 rfl tw_1380 ?_
  refine q_callV (ci := 12) (N := 79) (T := TX12) (As := [.long 1936484720]) (rest := []) (q := 85) dX12_readLine_82 rfl okX12_isWord tw_1359 rfl rfl (c_isW_b r h h0 (i := 3) (by decide) (by omega)) rfl rfl (Nat.le_of_ble_eq_true rfl) ⟨by decide, by decide⟩ ⟨rfl, rfl⟩ (fun rv_ I_ r_ J_ hv_ => ?_)
  obtain ⟨a1_, a2_, a3_, a4_⟩ := hv_
  rw [a1_, a2_, a3_, a4_]
  show Wq MX12_readLine 85 [some (.ref 100)] [.int 0] M r J _
  refine x_if_eq (t := 104) (q := 88) dX12_readLine_85 (by decide) rfl (fun c85 => ?_) (fun c85 => absurd c85 ((by decide)))
  refine x_aload_n (q := 105) dX12_readLine_104 rfl rfl ?_
  refine x_ldc2 (v := 1667329132) (q := 108) dX12_readLine_105 rfl tw_1382 ?_
  refine q_callV (ci := 12) (N := 79) (T := TX12) (As := [.long 1667329132]) (rest := []) (q := 111) dX12_readLine_108 rfl okX12_isWord tw_1359 rfl rfl (c_isW_b r h h0 (i := 4) (by decide) (by omega)) rfl rfl (Nat.le_of_ble_eq_true rfl) ⟨by decide, by decide⟩ ⟨rfl, rfl⟩ (fun rv_ I_ r_ J_ hv_ => ?_)
  obtain ⟨a1_, a2_, a3_, a4_⟩ := hv_
  rw [a1_, a2_, a3_, a4_]
  show Wq MX12_readLine 111 [some (.ref 100)] [.int 0] M r J _
  refine x_if_eq (t := 132) (q := 114) dX12_readLine_111 (by decide) rfl (fun c111 => ?_) (fun c111 => absurd c111 ((by decide)))
  refine x_aload_n (q := 133) dX12_readLine_132 rfl rfl ?_
  refine x_ldc2 (v := 1751216749) (q := 136) dX12_readLine_133 rfl tw_1383 ?_
  refine q_callV (ci := 12) (N := 79) (T := TX12) (As := [.long 1751216749]) (rest := []) (q := 139) dX12_readLine_136 rfl okX12_isWord tw_1359 rfl rfl (c_isW_b r h h0 (i := 5) (by decide) (by omega)) rfl rfl (Nat.le_of_ble_eq_true rfl) ⟨by decide, by decide⟩ ⟨rfl, rfl⟩ (fun rv_ I_ r_ J_ hv_ => ?_)
  obtain ⟨a1_, a2_, a3_, a4_⟩ := hv_
  rw [a1_, a2_, a3_, a4_]
  show Wq MX12_readLine 139 [some (.ref 100)] [.int 0] M r J _
  refine x_if_eq (t := 160) (q := 142) dX12_readLine_139 (by decide) rfl (fun c139 => ?_) (fun c139 => absurd c139 ((by decide)))
  refine x_aload_n (q := 161) dX12_readLine_160 rfl rfl ?_
  refine x_ldc2 (v := 431198596980) (q := 164) dX12_readLine_161 rfl tw_1384 ?_
  refine q_callV (ci := 12) (N := 79) (T := TX12) (As := [.long 431198596980]) (rest := []) (q := 167) dX12_readLine_164 rfl okX12_isWord tw_1359 rfl rfl (c_isW_b r h h0 (i := 6) (by decide) (by omega)) rfl rfl (Nat.le_of_ble_eq_true rfl) ⟨by decide, by decide⟩ ⟨rfl, rfl⟩ (fun rv_ I_ r_ J_ hv_ => ?_)
  obtain ⟨a1_, a2_, a3_, a4_⟩ := hv_
  rw [a1_, a2_, a3_, a4_]
  show Wq MX12_readLine 167 [some (.ref 100)] [.int 0] M r J _
  refine x_if_eq (t := 188) (q := 170) dX12_readLine_167 (by decide) rfl (fun c167 => ?_) (fun c167 => absurd c167 ((by decide)))
  refine x_aload_n (q := 189) dX12_readLine_188 rfl rfl ?_
  refine x_ldc2 (v := 495874699877) (q := 192) dX12_readLine_189 rfl tw_1385 ?_
  refine q_callV (ci := 12) (N := 79) (T := TX12) (As := [.long 495874699877]) (rest := []) (q := 195) dX12_readLine_192 rfl okX12_isWord tw_1359 rfl rfl (c_isW_g r h h0 (i := 7) (by decide) hk) rfl rfl (Nat.le_of_ble_eq_true rfl) ⟨by decide, by decide⟩ ⟨rfl, rfl⟩ (fun rv_ I_ r_ J_ hv_ => ?_)
  obtain ⟨a1_, a2_, a3_, a4_⟩ := hv_
  rw [a1_, a2_, a3_, a4_]
  show Wq MX12_readLine 195 [some (.ref 100)] [.int 1] M r J _
  refine x_if_eq (t := 216) (q := 198) dX12_readLine_195 (by decide) rfl (fun c195 => absurd c195 ((by decide))) (fun c195 => ?_)
  refine x_aload_n (q := 199) dX12_readLine_198 rfl rfl ?_
  refine q_gi (K := 40) (q := 202) dX12_readLine_199 rfl cl_12 (by decide) tw_1122 rfl rfl ?_
  refine x_if_ge (t := 216) (q := 205) dX12_readLine_202 (by decide) rfl (fun c202 => ?_) (fun c202 => absurd c202 (fun z => z (by rw [v3]; exact nI_pos' (by omega))))
  refine x_aload_n (q := 217) dX12_readLine_216 rfl rfl ?_
  refine x_iconst (2) (q := 218) dX12_readLine_217 rfl (by decide) ?_
  refine q_callV (ci := 12) (N := 79) (T := TX12) (As := [.int 2]) (rest := []) (q := 221) dX12_readLine_218 rfl okX12_wrong tw_1390 rfl rfl (c_wr r h (k := 2) (by decide) h0) rfl rfl (Nat.le_of_ble_eq_true rfl) ⟨by decide, by decide⟩ ⟨rfl, rfl⟩ (fun rv_ V1 r_ K1 hv_ => ?_)
  obtain ⟨a1_, pm1, fm1, a3_⟩ := hv_
  rw [a1_, a3_]
  have pm1 : PM T n (rfT T n s) V1 K1 := pm1
  show Wq MX12_readLine 221 [some (.ref 100)] [] V1 r K1 _
  exact rl_fin (y := 0) (w := 0) (h := 0) (c := 0) elb pm1 fm1.l (fun z => absurd z rfT_n)
set_option maxRecDepth 100000 in
theorem c_rl7 {T : Nat → Nat} {n : Nat} (r : MR) {M : MI} {J : MJ} {s : Nat × Nat × Nat} (h : PM T n s M J) (h0 : s.1 = 0) {A : MI} {yn wn hn sn : Nat} (hD : MD T n A yn wn hn sn M J) (hk : kw T n s.2.2 = 7) (hf : ¬ (tA A).testBit 7 = true) : Cq yX12_readLine MX12_readLine [.ref 100] M r J (RML T n (tsc T n (lb T n s A).1) (fun Y K => ∃ y w h c, MD T n (lb T n s A).2 y w h c Y K) M J r) := by
  obtain ⟨⟨k1, k5, k9, k12⟩, ⟨y8, w16, h12, s7⟩, ⟨m33, m34, m35, m36⟩, hMN, hMy, hMh, hMs, hMw, hMo⟩ := id hD
  have hkk := MD_k hD
  obtain ⟨tb, t256, k17, o4, o5, o6, o7, o8⟩ := hMo
  have hta : tA A = tb := by unfold tA; rw [k17, nI_clamp (by omega)]
  have hk1 : ¬ kd T n s.2.2 = 1 := by rw [kw_2 (by omega)]; decide
  have elb : lb T n s A = (tnuT T n 0 9999 (adv T n s), upI (upI A 0 17 (nI (tb ||| 2 ^ 7))) 0 16 (nI (vl T n (adv T n s).2.2))) := by
    unfold lb; rw [hk]; rw [if_neg (by decide), if_neg (by decide), if_neg (by decide), if_neg (by decide), if_pos (by decide), if_neg hf, hta, hkk.1]
    rfl
  rw [hta] at hf
  have v3 := (o7.1 (eq_false_of_ne_true hf)).1
  refine cq_of [some (.ref 100)] 0 (by decide +kernel) rfl rfl (Nat.le_of_ble_eq_true rfl) rfl ?_
  refine x_aload_n (q := 1) dX12_readLine_0 rfl rfl ?_
  refine x_ldc2 (v := 2036429412) (q := 4) dX12_readLine_1 rfl tw_1358 ?_
  refine q_callV (ci := 12) (N := 79) (T := TX12) (As := [.long 2036429412]) (rest := []) (q := 7) dX12_readLine_4 rfl okX12_isWord tw_1359 rfl rfl (c_isW_b r h h0 (i := 0) (by decide) (by omega)) rfl rfl (Nat.le_of_ble_eq_true rfl) ⟨by decide, by decide⟩ ⟨rfl, rfl⟩ (fun rv_ I_ r_ J_ hv_ => ?_)
  obtain ⟨a1_, a2_, a3_, a4_⟩ := hv_
  rw [a1_, a2_, a3_, a4_]
  show Wq MX12_readLine 7 [some (.ref 100)] [.int 0] M r J _
  refine x_if_eq (t := 26) (q := 10) dX12_readLine_7 (by decide) rfl (fun c7 => ?_) (fun c7 => absurd c7 ((by decide)))
  refine x_aload_n (q := 27) dX12_readLine_26 rfl rfl ?_
  refine x_ldc2 (v := 7823737) (q := 30) dX12_readLine_27 rfl tw_1374 ?_
  refine q_callV (ci := 12) (N := 79) (T := TX12) (As := [.long 7823737]) (rest := []) (q := 33) dX12_readLine_30 rfl okX12_isWord tw_1359 rfl rfl (c_isW_b r h h0 (i := 1) (by decide) (by omega)) rfl rfl (Nat.le_of_ble_eq_true rfl) ⟨by decide, by decide⟩ ⟨rfl, rfl⟩ (fun rv_ I_ r_ J_ hv_ => ?_)
  obtain ⟨a1_, a2_, a3_, a4_⟩ := hv_
  rw [a1_, a2_, a3_, a4_]
  show Wq MX12_readLine 33 [some (.ref 100)] [.int 0] M r J _
  refine x_if_eq (t := 52) (q := 36) dX12_readLine_33 (by decide) rfl (fun c33 => ?_) (fun c33 => absurd c33 ((by decide)))
  refine x_aload_n (q := 53) dX12_readLine_52 rfl rfl ?_
  refine x_ldc2 (v := 1752135026) (q := 56) dX12_readLine_53 rfl tw_1376 ?_
  refine q_callV (ci := 12) (N := 79) (T := TX12) (As := [.long 1752135026]) (rest := []) (q := 59) dX12_readLine_56 rfl okX12_isWord tw_1359 rfl rfl (c_isW_b r h h0 (i := 2) (by decide) (by omega)) rfl rfl (Nat.le_of_ble_eq_true rfl) ⟨by decide, by decide⟩ ⟨rfl, rfl⟩ (fun rv_ I_ r_ J_ hv_ => ?_)
  obtain ⟨a1_, a2_, a3_, a4_⟩ := hv_
  rw [a1_, a2_, a3_, a4_]
  show Wq MX12_readLine 59 [some (.ref 100)] [.int 0] M r J _
  refine x_if_eq (t := 78) (q := 62) dX12_readLine_59 (by decide) rfl (fun c59 => ?_) (fun c59 => absurd c59 ((by decide)))
  refine x_aload_n (q := 79) dX12_readLine_78 rfl rfl ?_
  refine x_ldc2 (v := 1936484720) (q := 82) dX12_readLine_79 rfl tw_1380 ?_
  refine q_callV (ci := 12) (N := 79) (T := TX12) (As := [.long 1936484720]) (rest := []) (q := 85) dX12_readLine_82 rfl okX12_isWord tw_1359 rfl rfl (c_isW_b r h h0 (i := 3) (by decide) (by omega)) rfl rfl (Nat.le_of_ble_eq_true rfl) ⟨by decide, by decide⟩ ⟨rfl, rfl⟩ (fun rv_ I_ r_ J_ hv_ => ?_)
  obtain ⟨a1_, a2_, a3_, a4_⟩ := hv_
  rw [a1_, a2_, a3_, a4_]
  show Wq MX12_readLine 85 [some (.ref 100)] [.int 0] M r J _
  refine x_if_eq (t := 104) (q := 88) dX12_readLine_85 (by decide) rfl (fun c85 => ?_) (fun c85 => absurd c85 ((by decide)))
  refine x_aload_n (q := 105) dX12_readLine_104 rfl rfl ?_
  refine x_ldc2 (v := 1667329132) (q := 108) dX12_readLine_105 rfl tw_1382 ?_
  refine q_callV (ci := 12) (N := 79) (T := TX12) (As := [.long 1667329132]) (rest := []) (q := 111) dX12_readLine_108 rfl okX12_isWord tw_1359 rfl rfl (c_isW_b r h h0 (i := 4) (by decide) (by omega)) rfl rfl (Nat.le_of_ble_eq_true rfl) ⟨by decide, by decide⟩ ⟨rfl, rfl⟩ (fun rv_ I_ r_ J_ hv_ => ?_)
  obtain ⟨a1_, a2_, a3_, a4_⟩ := hv_
  rw [a1_, a2_, a3_, a4_]
  show Wq MX12_readLine 111 [some (.ref 100)] [.int 0] M r J _
  refine x_if_eq (t := 132) (q := 114) dX12_readLine_111 (by decide) rfl (fun c111 => ?_) (fun c111 => absurd c111 ((by decide)))
  refine x_aload_n (q := 133) dX12_readLine_132 rfl rfl ?_
  refine x_ldc2 (v := 1751216749) (q := 136) dX12_readLine_133 rfl tw_1383 ?_
  refine q_callV (ci := 12) (N := 79) (T := TX12) (As := [.long 1751216749]) (rest := []) (q := 139) dX12_readLine_136 rfl okX12_isWord tw_1359 rfl rfl (c_isW_b r h h0 (i := 5) (by decide) (by omega)) rfl rfl (Nat.le_of_ble_eq_true rfl) ⟨by decide, by decide⟩ ⟨rfl, rfl⟩ (fun rv_ I_ r_ J_ hv_ => ?_)
  obtain ⟨a1_, a2_, a3_, a4_⟩ := hv_
  rw [a1_, a2_, a3_, a4_]
  show Wq MX12_readLine 139 [some (.ref 100)] [.int 0] M r J _
  refine x_if_eq (t := 160) (q := 142) dX12_readLine_139 (by decide) rfl (fun c139 => ?_) (fun c139 => absurd c139 ((by decide)))
  refine x_aload_n (q := 161) dX12_readLine_160 rfl rfl ?_
  refine x_ldc2 (v := 431198596980) (q := 164) dX12_readLine_161 rfl tw_1384 ?_
  refine q_callV (ci := 12) (N := 79) (T := TX12) (As := [.long 431198596980]) (rest := []) (q := 167) dX12_readLine_164 rfl okX12_isWord tw_1359 rfl rfl (c_isW_b r h h0 (i := 6) (by decide) (by omega)) rfl rfl (Nat.le_of_ble_eq_true rfl) ⟨by decide, by decide⟩ ⟨rfl, rfl⟩ (fun rv_ I_ r_ J_ hv_ => ?_)
  obtain ⟨a1_, a2_, a3_, a4_⟩ := hv_
  rw [a1_, a2_, a3_, a4_]
  show Wq MX12_readLine 167 [some (.ref 100)] [.int 0] M r J _
  refine x_if_eq (t := 188) (q := 170) dX12_readLine_167 (by decide) rfl (fun c167 => ?_) (fun c167 => absurd c167 ((by decide)))
  refine x_aload_n (q := 189) dX12_readLine_188 rfl rfl ?_
  refine x_ldc2 (v := 495874699877) (q := 192) dX12_readLine_189 rfl tw_1385 ?_
  refine q_callV (ci := 12) (N := 79) (T := TX12) (As := [.long 495874699877]) (rest := []) (q := 195) dX12_readLine_192 rfl okX12_isWord tw_1359 rfl rfl (c_isW_g r h h0 (i := 7) (by decide) hk) rfl rfl (Nat.le_of_ble_eq_true rfl) ⟨by decide, by decide⟩ ⟨rfl, rfl⟩ (fun rv_ I_ r_ J_ hv_ => ?_)
  obtain ⟨a1_, a2_, a3_, a4_⟩ := hv_
  rw [a1_, a2_, a3_, a4_]
  show Wq MX12_readLine 195 [some (.ref 100)] [.int 1] M r J _
  refine x_if_eq (t := 216) (q := 198) dX12_readLine_195 (by decide) rfl (fun c195 => absurd c195 ((by decide))) (fun c195 => ?_)
  refine x_aload_n (q := 199) dX12_readLine_198 rfl rfl ?_
  refine q_gi (K := 40) (q := 202) dX12_readLine_199 rfl cl_12 (by decide) tw_1122 rfl rfl ?_
  refine x_if_ge (t := 216) (q := 205) dX12_readLine_202 (by decide) rfl (fun c202 => absurd c202 (by rw [v3]; decide)) (fun c202 => ?_)
  refine x_aload_n (q := 206) dX12_readLine_205 rfl rfl ?_
  refine x_aload_n (q := 207) dX12_readLine_206 rfl rfl ?_
  refine q_callV (ci := 12) (N := 79) (T := TX12) (As := []) (rest := [.ref 100]) (q := 210) dX12_readLine_207 rfl okX12_readNumber tw_1434 rfl rfl (c_rnM r h h0 hk1) rfl rfl (Nat.le_of_ble_eq_true rfl) ⟨by decide, by decide⟩ ⟨rfl, rfl⟩ (fun rv_ V1 r_ K1 hv_ => ?_)
  obtain ⟨x1, a1_, hx1, pm1, fm1, a3_⟩ := hv_
  rw [a1_, a3_]
  show Wq MX12_readLine 210 [some (.ref 100)] [.int x1, .ref 100] V1 r K1 _
  refine q_pi (K := 40) (q := 213) dX12_readLine_210 rfl cl_12 (by decide) tw_1122 rfl rfl rfl rfl (fun I1 eI1 => ?_)
  refine x_goto (t := 221) dX12_readLine_213 (by decide) ?_
  have pm2 : PM T n (tnuT T n 0 9999 (adv T n s)) I1 K1 := by rw [eI1]; exact PM_0 pm1 (by decide)
  have fl2 : FL M J I1 K1 := fm1.l.tr (by rw [eI1]; exact FL_0 (by decide))
  refine rl_fin (y := yn) (w := wn) (h := hn) (c := sn) elb pm2 fl2 (fun z => ?_)
  have hx := hx1 z
  have g := (tnuT_0 z).2.1
  refine MD_on7 hD t256 k17 g.2 ?_ (fun i => fm1.2.2 102 i (by omega))
  rw [← hx, eI1]
  exact DA_u (DA_f DA.rf fm1)
theorem c_rl {T : Nat → Nat} {n : Nat} (r : MR) {M : MI} {J : MJ} {s : Nat × Nat × Nat} (h : PM T n s M J) (h0 : s.1 = 0) {A : MI} {yn wn hn sn : Nat} (hD : MD T n A yn wn hn sn M J) : Cq yX12_readLine MX12_readLine [.ref 100] M r J (RML T n (tsc T n (lb T n s A).1) (fun Y K => ∃ y w h c, MD T n (lb T n s A).2 y w h c Y K) M J r) := by
  by_cases hk0 : kw T n s.2.2 = 0
  · by_cases hf : yn < 8
    · exact c_rl0 r h h0 hD hk0 hf
    · exact c_rl0_f r h h0 hD hk0 hf
  by_cases hk1 : kw T n s.2.2 = 1
  · by_cases hf : wn < 16
    · exact c_rl1 r h h0 hD hk1 hf
    · exact c_rl1_f r h h0 hD hk1 hf
  by_cases hk2 : kw T n s.2.2 = 2
  · by_cases hf : hn < 12
    · exact c_rl2 r h h0 hD hk2 hf
    · exact c_rl2_f r h h0 hD hk2 hf
  by_cases hk3 : kw T n s.2.2 = 3
  · by_cases hf : sn < 7
    · exact c_rl3 r h h0 hD hk3 hf
    · exact c_rl3_f r h h0 hD hk3 hf
  by_cases hk4 : kw T n s.2.2 = 4
  · by_cases hf : (tA A).testBit 4 = true
    · exact c_rl4_f r h h0 hD hk4 hf
    · exact c_rl4 r h h0 hD hk4 hf
  by_cases hk5 : kw T n s.2.2 = 5
  · by_cases hf : (tA A).testBit 5 = true
    · exact c_rl5_f r h h0 hD hk5 hf
    · exact c_rl5 r h h0 hD hk5 hf
  by_cases hk6 : kw T n s.2.2 = 6
  · by_cases hf : (tA A).testBit 6 = true
    · exact c_rl6_f r h h0 hD hk6 hf
    · exact c_rl6 r h h0 hD hk6 hf
  by_cases hk7 : kw T n s.2.2 = 7
  · by_cases hf : (tA A).testBit 7 = true
    · exact c_rl7_f r h h0 hD hk7 hf
    · exact c_rl7 r h h0 hD hk7 hf
  exact c_rl8 r h h0 hD (by omega)
