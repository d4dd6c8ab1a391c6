/-- one step of the day: what it leaves -/
def dgP (X : MI) (b yn hn s i : Nat) (Y : MI) : Prop := (∀ z, z < i → gGet Y (60 + 2 * z) = stepY X b z hn (X 58 3) s (gGet X (60 + 2 * z))) ∧ (∀ z, i ≤ z → z < 8 → gGet Y (60 + 2 * z) = gGet X (60 + 2 * z)) ∧ ∀ c, ¬ (60 ≤ c ∧ c < 76) → Y c = X c
theorem dgP_s {X Y : MI} {b yn hn s i : Nat} (hb : b ≤ 28) (hi : i < 8) (h : dgP X b yn hn s i Y) : dgP X b yn hn s (i + 1) (gPut Y (60 + 2 * i) (stepY Y b i hn (X 58 3) s (gGet Y (60 + 2 * i)))) := by
  have hc : ∀ c, regL b c → Y c = X c := fun c q => h.2.2 c (by unfold regL at q; omega)
  have key : ∀ z, z ≠ i → gGet (gPut Y (60 + 2 * i) (stepY Y b i hn (X 58 3) s (gGet Y (60 + 2 * i)))) (60 + 2 * z) = gGet Y (60 + 2 * z) := fun z hz => by
    funext j
    unfold gGet
    rw [gPut_o _ _ _ _ _ (by omega) (by omega), gPut_o _ _ _ _ _ (by omega) (by omega)]
  refine ⟨fun z hz => ?_, fun z z1 z2 => ?_, fun c hc' => ?_⟩
  · by_cases e : z = i
    · subst e
      rw [gGet_put, stepY_c hc hi, h.2.1 z (by omega) hi]
    · rw [key z e]
      exact h.1 z (by omega)
  · rw [key z (by omega)]
    exact h.2.1 z (by omega) z2
  · funext j
    rw [gPut_o _ _ _ _ _ (by omega) (by omega), h.2.2 c hc']
def dgF (X : MI) (b yn hn s : Nat) (Y : MI) : Prop := (∀ z, z < yn → gGet Y (60 + 2 * z) = stepY X b z hn (X 58 3) s (gGet X (60 + 2 * z))) ∧ Y 58 2 = nI (s + 1) ∧ (∀ j, ¬ j = 2 → Y 58 j = X 58 j) ∧ ∀ c, ¬ (60 ≤ c ∧ c < 76) → ¬ c = 58 → Y c = X c
theorem dg_end {X Y : MI} {b yn hn s : Nat} (hs : X 58 2 = nI s) (h : dgP X b yn hn s yn Y) : dgF X b yn hn s (upI Y 58 2 (Y 58 2 + 1)) := by
  refine ⟨fun z hz => ?_, ?_, fun j hj => ?_, fun c c1 c2 => ?_⟩
  · have e : gGet (upI Y 58 2 (Y 58 2 + 1)) (60 + 2 * z) = gGet Y (60 + 2 * z) := by
      unfold gGet
      rw [upc (by omega), upc (by omega)]
    rw [e]
    exact h.1 z hz
  · rw [upq, h.2.2 58 (by omega), hs, nI_p1]
  · rw [ups hj, h.2.2 58 (by omega)]
  · rw [upc c2, h.2.2 c c1]
set_option maxRecDepth 100000 in
theorem l_dgo {X : MI} {b yn hn s n : Nat} (hL : LOk X b yn hn) (hb : b ≤ 28) (es : X 58 2 = nI s) (hs : s ≤ 800) (hn9 : n ≤ 900) (hsh : ShOk (X 58 3)) (hG : ∀ z, z < yn → GB (laN X b z) n (gGet X (60 + 2 * z))) {r : MR} (hr3 : r 3 = b) (J : MJ) : ∀ (f : Nat) (i : Nat) (Y : MI) (_ : i + f = yn) (_ : dgP X b yn hn s i Y), Wq MX1_goStep 2 [some (.ref 58), some (.int (nI i))] [] Y r J (Rp none (dgF X b yn hn s) r J) := by
  have h8 : yn ≤ 8 := hL.2.2.1
  intro f
  induction f with
  | zero =>
    intro i Y hik hY
    have hcY : ∀ c, regL b c → Y c = X c := fun c q => hY.2.2 c (by unfold regL at q; omega)
    have eb : Y b = X b := hY.2.2 b (by omega)
    have e58 : Y 58 = X 58 := hY.2.2 58 (by omega)
    refine x_iload_n (q := 3) dX1_goStep_2 rfl rfl ?_
    refine x_aload_n (q := 4) dX1_goStep_3 rfl rfl ?_
    refine q_gr (K := 0) (b := b) (q := 7) dX1_goStep_4 rfl cl_1 (by decide) tw_421 rfl rfl (by rw [← hr3]; rfl) ?_
    refine q_gi (K := 1) (q := 10) dX1_goStep_7 rfl cl_5 (by decide) tw_166 hL.1 rfl ?_
    refine x_icmp_ge (t := 49) (q := 13) dX1_goStep_10 (by decide) rfl (fun c10 => ?_) (fun c10 => absurd c10 (fun q => q (by rw [eb, hL.2.1]; exact nI_le (by omega) (by omega))))
    refine x_aload_n (q := 50) dX1_goStep_49 rfl rfl ?_
    refine x_dup (q := 51) dX1_goStep_50 rfl rfl ?_
    refine q_gi (K := 2) (q := 54) dX1_goStep_51 rfl cl_1 (by decide) tw_429 rfl rfl ?_
    refine x_iconst (1) (q := 55) dX1_goStep_54 rfl (by decide) ?_
    refine x_iadd (q := 56) dX1_goStep_55 rfl ?_
    refine q_pi (K := 2) (q := 59) dX1_goStep_56 rfl cl_1 (by decide) tw_429 rfl rfl rfl rfl (fun I1 eI1 => ?_)
    refine q_vret dX1_goStep_59 rfl ?_
    have ei : i = yn := by omega
    subst ei
    refine ⟨rfl, ?_, rfl, rfl⟩
    rw [eI1]
    exact dg_end es hY
  | succ f ih =>
    intro i Y hik hY
    have hcY : ∀ c, regL b c → Y c = X c := fun c q => hY.2.2 c (by unfold regL at q; omega)
    have eb : Y b = X b := hY.2.2 b (by omega)
    have e58 : Y 58 = X 58 := hY.2.2 58 (by omega)
    refine x_iload_n (q := 3) dX1_goStep_2 rfl rfl ?_
    refine x_aload_n (q := 4) dX1_goStep_3 rfl rfl ?_
    refine q_gr (K := 0) (b := b) (q := 7) dX1_goStep_4 rfl cl_1 (by decide) tw_421 rfl rfl (by rw [← hr3]; rfl) ?_
    refine q_gi (K := 1) (q := 10) dX1_goStep_7 rfl cl_5 (by decide) tw_166 hL.1 rfl ?_
    refine x_icmp_ge (t := 49) (q := 13) dX1_goStep_10 (by decide) rfl (fun c10 => absurd c10 (by rw [eb, hL.2.1]; exact nI_ge (by omega) (by omega))) (fun c10 => ?_)
    refine x_aload_n (q := 14) dX1_goStep_13 rfl rfl ?_
    refine q_gr (K := 1) (b := 59) (q := 17) dX1_goStep_14 rfl cl_1 (by decide) tw_426 rfl rfl rfl ?_
    refine x_iload_n (q := 18) dX1_goStep_17 rfl rfl ?_
    refine q_aald5 (b := (60 + 2 * i)) (q := 19) dX1_goStep_18 rfl rfl (vp_in_nI (by omega) (by decide)) (by rw [nI_clamp (by omega)]; exact (gy_w (by omega) _).1) ?_
    refine x_aload_n (q := 20) dX1_goStep_19 rfl rfl ?_
    refine q_gr (K := 0) (b := b) (q := 23) dX1_goStep_20 rfl cl_1 (by decide) tw_421 rfl rfl (by rw [← hr3]; rfl) ?_
    refine q_gr (K := 0) (b := (b + 1)) (q := 26) dX1_goStep_23 rfl cl_5 (by decide) tw_159 hL.1 rfl (lr_w hL.1 _).1 ?_
    refine x_iload_n (q := 27) dX1_goStep_26 rfl rfl ?_
    refine q_aald4 (b := (b + 10 + 2 * i)) (q := 28) dX1_goStep_27 rfl (ls_w hL.1).1 (vp_in_nI (by omega) (by decide)) (by rw [nI_clamp (by omega)]; exact (ly_w hL.1 (by omega) _).1) ?_
    refine x_aload_n (q := 29) dX1_goStep_28 rfl rfl ?_
    refine q_gr (K := 0) (b := b) (q := 32) dX1_goStep_29 rfl cl_1 (by decide) tw_421 rfl rfl (by rw [← hr3]; rfl) ?_
    refine x_aload_n (q := 33) dX1_goStep_32 rfl rfl ?_
    refine q_gi (K := 2) (q := 36) dX1_goStep_33 rfl cl_1 (by decide) tw_429 rfl rfl ?_
    refine x_aload_n (q := 37) dX1_goStep_36 rfl rfl ?_
    refine q_gi (K := 3) (q := 40) dX1_goStep_37 rfl cl_1 (by decide) tw_432 rfl rfl ?_
    rw [e58, es]
    refine q_callV (ci := 4) (N := 5) (T := TX4) (As := [.ref (b + 10 + 2 * i), .ref b, .int (nI s), .int (X 58 3)]) (rest := []) (q := 43) dX1_goStep_40 rfl okX4_goStep tw_769 (gy_w (by omega) r).2 rfl (by have q := c_stepY (g := 60 + 2 * i) (gy_w (by omega) r).2 (LOk_c hcY hL) (show i < yn by omega) hsh hs hn9 (G := gGet Y (60 + 2 * i)) (by rw [hY.2.1 i (by omega) (by omega), laN_c hcY (by omega)]; exact hG i (by omega)) r J; rw [gPut_get] at q; exact q) rfl rfl (Nat.le_of_ble_eq_true rfl) ⟨by decide, by decide⟩ ⟨rfl, rfl⟩ (fun rv_ I_ r_ J_ hv_ => ?_)
    obtain ⟨a1_, a2_, a3_, a4_⟩ := hv_
    rw [a1_, a2_, a3_, a4_]
    show Wq MX1_goStep 43 [some (.ref 58), some (.int (nI i))] [] (gPut Y (60 + 2 * i) (stepY Y b i hn (X 58 3) s (gGet Y (60 + 2 * i)))) r J _
    obtain ⟨v1, ev1⟩ : ∃ y : Int32, y = (nI i) + 1 := ⟨_, rfl⟩
    refine x_iinc (v := v1) (L2 := [some (.ref 58), some (.int v1)]) (q := 46) dX1_goStep_43 rfl (by decide) rfl rfl (by rw [ev1]; rfl) rfl ?_
    refine x_goto (t := 2) dX1_goStep_46 (by decide) ?_
    rw [show v1 = nI (i + 1) by rw [ev1, nI_p1]]
    exact ih (i + 1) _ (by omega) (dgP_s hb (by omega) hY)
set_option maxRecDepth 100000 in
theorem c_dgo {X : MI} {b yn hn s n : Nat} (hL : LOk X b yn hn) (hb : b ≤ 28) (es : X 58 2 = nI s) (hs : s ≤ 800) (hn9 : n ≤ 900) (hsh : ShOk (X 58 3)) (hG : ∀ z, z < yn → GB (laN X b z) n (gGet X (60 + 2 * z))) {r : MR} (hr3 : r 3 = b) (J : MJ) : Cq yX1_goStep MX1_goStep [.ref 58] X r J (Rp none (dgF X b yn hn s) r J) := by
  refine cq_of [some (.ref 58), none] 1 (by decide +kernel) rfl rfl (Nat.le_of_ble_eq_true rfl) rfl ?_
  refine x_iconst (0) (q := 1) dX1_goStep_0 rfl (by decide) ?_
  refine x_istore_n (L2 := [some (.ref 58), some (.int 0)]) (q := 2) dX1_goStep_1 rfl (by decide) rfl rfl ?_
  exact l_dgo hL hb es hs hn9 hsh hG hr3 J yn 0 X (by omega) ⟨fun z hz => absurd hz (by omega), fun _ _ _ => rfl, fun _ _ => rfl⟩
/-- behind n steps of run -/
def rnP (I : MI) (b yn hn st n : Nat) (X : MI) : Prop := (∀ z, z < yn → gGet X (60 + 2 * z) = trajY I b z hn (I 58 3) st n (gGet I (60 + 2 * z))) ∧ X 58 2 = nI (st + n) ∧ (∀ j, ¬ j = 2 → X 58 j = I 58 j) ∧ ∀ c, ¬ (60 ≤ c ∧ c < 76) → ¬ c = 58 → X c = I c
theorem rnP_s {I X Y : MI} {b yn hn st n : Nat} (hb : b ≤ 28) (h8 : yn ≤ 8) (h : rnP I b yn hn st n X) (h2 : dgF X b yn hn (st + n) Y) : rnP I b yn hn st (n + 1) Y := by
  have hc : ∀ c, regL b c → X c = I c := fun c q => h.2.2.2 c (by unfold regL at q; omega) (by unfold regL at q; omega)
  refine ⟨fun z hz => ?_, by rw [h2.2.1, Nat.add_assoc], fun j hj => by rw [h2.2.2.1 j hj, h.2.2.1 j hj], fun c c1 c2 => by rw [h2.2.2.2 c c1 c2, h.2.2.2 c c1 c2]⟩
  rw [h2.1 z hz, h.1 z hz, h.2.2.1 3 (by decide), stepY_c hc (by omega)]
  rfl
set_option maxRecDepth 100000 in
theorem l_Xrun {I : MI} {b yn wn hn sn st : Nat} {r : MR} (J : MJ) (hr : RefOk r b) (h : RelL I b yn wn hn sn st) {n : Nat} (hn1 : st + n ≤ 720) : ∀ (f : Nat) (k : Nat) (X : MI) (_ : k + f = n) (_ : rnP I b yn hn st k X), Wq MX11_run 30 [some (.ref 0), some (.int (nI n)), some (.int (nI k))] [] X r J (Rp (some (.int (nI (st + n)))) (rnP I b yn hn st n) r J) := by
  have hb28 := (refs_L hr).2
  have h8 : yn ≤ 8 := h.1.2.2.1
  obtain ⟨d1, d2, d3, d4, d5, d6, d7, d8⟩ := h.2.2.2.2.1
  intro f
  induction f with
  | zero =>
    intro k X hik hX
    have hcX : ∀ c, regL b c → X c = I c := fun c q => hX.2.2.2 c (by unfold regL at q; omega) (by unfold regL at q; omega)
    refine x_iload_n (q := 31) dX11_run_30 rfl rfl ?_
    refine x_iload_n (q := 32) dX11_run_31 rfl rfl ?_
    refine x_icmp_ge (t := 48) (q := 35) dX11_run_32 (by decide) rfl (fun c32 => ?_) (fun c32 => absurd c32 (fun q => q (nI_le (by omega) (by omega))))
    refine x_aload_n (q := 49) dX11_run_48 rfl rfl ?_
    refine q_gr (K := 5) (b := 58) (q := 52) dX11_run_49 rfl cl_11 (by decide) tw_572 rfl rfl rfl ?_
    refine q_gi (K := 2) (q := 55) dX11_run_52 rfl cl_1 (by decide) tw_431 rfl rfl ?_
    refine q_iret dX11_run_55 rfl ?_
    have ei : k = n := by omega
    subst ei
    rw [hX.2.1]
    exact ⟨rfl, hX, rfl, rfl⟩
  | succ f ih =>
    intro k X hik hX
    have hcX : ∀ c, regL b c → X c = I c := fun c q => hX.2.2.2 c (by unfold regL at q; omega) (by unfold regL at q; omega)
    refine x_iload_n (q := 31) dX11_run_30 rfl rfl ?_
    refine x_iload_n (q := 32) dX11_run_31 rfl rfl ?_
    refine x_icmp_ge (t := 48) (q := 35) dX11_run_32 (by decide) rfl (fun c32 => absurd c32 (nI_ge (by omega) (by omega))) (fun c32 => ?_)
    refine x_aload_n (q := 36) dX11_run_35 rfl rfl ?_
    refine q_gr (K := 5) (b := 58) (q := 39) dX11_run_36 rfl cl_11 (by decide) tw_572 rfl rfl rfl ?_
    refine q_callV (ci := 1) (N := 5) (T := TX1) (As := []) (rest := []) (q := 42) dX11_run_39 rfl okX1_goStep tw_765 rfl rfl (c_dgo (n := st + k) (LOk_c hcX h.1) hb28 hX.2.1 (by omega) (by omega) (by rw [hX.2.2.1 3 (by decide)]; exact d5) (fun z hz => by rw [hX.1 z hz, laN_c hcX (by omega)]; exact GB_traj h.1 hz d5 st (d8 z hz).2.1 k (by omega)) hr.2.1 J) rfl rfl (Nat.le_of_ble_eq_true rfl) ⟨by decide, by decide⟩ ⟨rfl, rfl⟩ (fun rv_ Y r_ J_ hv_ => ?_)
    obtain ⟨a1_, f1, a3_, a4_⟩ := hv_
    rw [a1_, a3_, a4_]
    show Wq MX11_run 42 [some (.ref 0), some (.int (nI n)), some (.int (nI k))] [] Y r J _
    obtain ⟨v1, ev1⟩ : ∃ y : Int32, y = (nI k) + 1 := ⟨_, rfl⟩
    refine x_iinc (v := v1) (L2 := [some (.ref 0), some (.int (nI n)), some (.int v1)]) (q := 45) dX11_run_42 rfl (by decide) rfl rfl (by rw [ev1]; rfl) rfl ?_
    refine x_goto (t := 30) dX11_run_45 (by decide) ?_
    rw [show v1 = nI (k + 1) by rw [ev1, nI_p1]]
    exact ih (k + 1) Y (by omega) (rnP_s hb28 h8 hX f1)
set_option maxRecDepth 100000 in
theorem c_Xrun_g {I : MI} {b yn wn hn sn st : Nat} {r : MR} (J : MJ) (hr : RefOk r b) (h : RelL I b yn wn hn sn st) {n : Nat} (hn1 : st + n ≤ 720) (h144 : n ≤ 144) : Cq yX11_run MX11_run [.ref 0, .int (nI n)] I r J (Rp (some (.int (nI (st + n)))) (rnP I b yn hn st n) r J) := by
  have hb28 := (refs_L hr).2
  have h8 : yn ≤ 8 := h.1.2.2.1
  obtain ⟨d1, d2, d3, d4, d5, d6, d7, d8⟩ := h.2.2.2.2.1
  refine cq_of [some (.ref 0), some (.int (nI n)), none] 1 (by decide +kernel) rfl rfl (Nat.le_of_ble_eq_true rfl) rfl ?_
  refine x_iload_n (q := 1) dX11_run_0 rfl rfl ?_
  refine x_if_lt (t := 26) (q := 4) dX11_run_1 (by decide) rfl (fun c1 => absurd c1 (nI_pos (by omega))) (fun c1 => ?_)
  refine x_iload_n (q := 5) dX11_run_4 rfl rfl ?_
  refine x_sipush (144) (q := 8) dX11_run_5 rfl (by decide) ?_
  refine x_icmp_gt (t := 26) (q := 11) dX11_run_8 (by decide) rfl (fun c8 => absurd c8 (fun q => absurd ((nI_ltI (a := 144) (by omega) (by omega)).mp q) (by omega))) (fun c8 => ?_)
  refine x_aload_n (q := 12) dX11_run_11 rfl rfl ?_
  refine q_gr (K := 5) (b := 58) (q := 15) dX11_run_12 rfl cl_11 (by decide) tw_572 rfl rfl rfl ?_
  refine q_gi (K := 2) (q := 18) dX11_run_15 rfl cl_1 (by decide) tw_431 rfl rfl ?_
  refine x_iload_n (q := 19) dX11_run_18 rfl rfl ?_
  refine x_iadd (q := 20) dX11_run_19 rfl ?_
  refine x_sipush (720) (q := 23) dX11_run_20 rfl (by decide) ?_
  refine x_icmp_le (t := 28) (q := 26) dX11_run_23 (by decide) rfl (fun c23 => ?_) (fun c23 => absurd c23 (fun q => q (by rw [d1, nI_add]; exact nI_le (b := 720) (by omega) (by decide))))
  refine x_iconst (0) (q := 29) dX11_run_28 rfl (by decide) ?_
  refine x_istore_n (L2 := [some (.ref 0), some (.int (nI n)), some (.int 0)]) (q := 30) dX11_run_29 rfl (by decide) rfl rfl ?_
  exact l_Xrun J hr h hn1 n 0 I (by omega) ⟨fun z hz => rfl, d1, fun _ _ => rfl, fun _ _ _ => rfl⟩
def runOk (st : Nat) (x : Int32) : Prop := ∃ n, n ≤ 144 ∧ st + n ≤ 720 ∧ x = nI n
theorem run_no {st : Nat} {x : Int32} (hst : st ≤ 720) (h : ¬ runOk st x) (h1 : ¬ x < 0) (h2 : x ≤ 144) (h3 : nI st + x ≤ 720) : False := by
  obtain ⟨n, q1, rfl⟩ := st_of (N := 144) (by decide) ⟨Int32.not_lt.mp h1, h2⟩
  rw [nI_add] at h3
  have := (nI_leI (a := st + n) (b := 720) (by omega) (by decide)).mp h3
  exact h ⟨n, q1, by omega, rfl⟩
set_option maxRecDepth 100000 in
theorem c_Xrun_b {I : MI} {b yn wn hn sn st : Nat} {r : MR} (J : MJ) (hr : RefOk r b) (h : RelL I b yn wn hn sn st) {x : Int32} (hno : ¬ runOk st x) : Cq yX11_run MX11_run [.ref 0, .int x] I r J (Rt (some (.int (-1))) I r J) := by
  have hb28 := (refs_L hr).2
  have h8 : yn ≤ 8 := h.1.2.2.1
  obtain ⟨d1, d2, d3, d4, d5, d6, d7, d8⟩ := h.2.2.2.2.1
  refine cq_of [some (.ref 0), some (.int x), none] 1 (by decide +kernel) rfl rfl (Nat.le_of_ble_eq_true rfl) rfl ?_
  refine x_iload_n (q := 1) dX11_run_0 rfl rfl ?_
  refine x_if_lt (t := 26) (q := 4) dX11_run_1 (by decide) rfl (fun c1 => ?_) (fun c1 => ?_)
  · refine x_iconst (-1) (q := 27) dX11_run_26 rfl (by decide) ?_
    refine q_iret dX11_run_27 rfl ?_
    exact ⟨rfl, rfl, rfl, rfl⟩
  · refine x_iload_n (q := 5) dX11_run_4 rfl rfl ?_
    refine x_sipush (144) (q := 8) dX11_run_5 rfl (by decide) ?_
    refine x_icmp_gt (t := 26) (q := 11) dX11_run_8 (by decide) rfl (fun c8 => ?_) (fun c8 => ?_)
    · refine x_iconst (-1) (q := 27) dX11_run_26 rfl (by decide) ?_
      refine q_iret dX11_run_27 rfl ?_
      exact ⟨rfl, rfl, rfl, rfl⟩
    · refine x_aload_n (q := 12) dX11_run_11 rfl rfl ?_
      refine q_gr (K := 5) (b := 58) (q := 15) dX11_run_12 rfl cl_11 (by decide) tw_572 rfl rfl rfl ?_
      refine q_gi (K := 2) (q := 18) dX11_run_15 rfl cl_1 (by decide) tw_431 rfl rfl ?_
      refine x_iload_n (q := 19) dX11_run_18 rfl rfl ?_
      refine x_iadd (q := 20) dX11_run_19 rfl ?_
      refine x_sipush (720) (q := 23) dX11_run_20 rfl (by decide) ?_
      refine x_icmp_le (t := 28) (q := 26) dX11_run_23 (by decide) rfl (fun c23 => ?_) (fun c23 => ?_)
      · exfalso
        rw [d1] at c23
        exact run_no d3 hno c1 (Int32.not_lt.mp c8) c23
      · refine x_iconst (-1) (q := 27) dX11_run_26 rfl (by decide) ?_
        refine q_iret dX11_run_27 rfl ?_
        exact ⟨rfl, rfl, rfl, rfl⟩
def mrP (I : MI) (b yn hn st n i : Nat) (X : MI) : Prop := (∀ z, z < i → GE (laN I b z) (yGet X z) (trajY I b z hn (I 100 56) st n (yGet I z))) ∧ (∀ z, i ≤ z → z < 8 → ∀ j, j < 9 → yGet X z j = yGet I z j) ∧ (∀ j, ¬ (49 ≤ j ∧ j ≤ 52) → X 100 j = I 100 j) ∧ ∀ c, ¬ c = 100 → ¬ (125 ≤ c ∧ c ≤ 127) → X c = I c
theorem yPut_in {I : MI} {y : Nat} {G : GT} : ∀ j, j < 9 → yGet (yPut I y G) y j = G j := by
  intro j hj
  unfold yGet yPut
  by_cases h : j < 5
  · rw [if_pos h, if_pos ⟨rfl, by omega, by omega⟩]
    congr 1
    omega
  · rw [if_neg h, if_neg (fun q => absurd q.1 (by decide)), if_pos ⟨rfl, by omega, by omega⟩]
    congr 1
    omega
theorem yPut_z {I : MI} {y z : Nat} {G : GT} (hz : z ≠ y) : ∀ j, j < 9 → yGet (yPut I y G) z j = yGet I z j := by
  intro j hj
  unfold yGet yPut
  by_cases h : j < 5
  · rw [if_pos h, if_pos h, if_neg (by omega), if_neg (by omega)]
  · rw [if_neg h, if_neg h, if_neg (by omega), if_neg (by omega)]
theorem yPut_c {I : MI} {y c : Nat} {G : GT} (h1 : c ≠ 126) (h2 : c ≠ 127) : yPut I y G c = I c := by
  funext j
  unfold yPut
  rw [if_neg (fun q => h1 q.1), if_neg (fun q => h2 q.1)]
theorem yGet_m {X : MI} {G : GT} {z : Nat} : yGet (mPut X G) z = yGet X z := by
  unfold yGet
  rw [mPc (by decide) (by decide), mPc (by decide) (by decide)]
theorem mrP_s {I X : MI} {b yn hn st n i : Nat} {G : GT} (h5 : ∀ z, z ≤ i → laN I b z ≤ 5) (h : mrP I b yn hn st n i X) (hG : GE (laN I b i) G (trajY I b i hn (I 100 56) st n (yGet I i))) : mrP I b yn hn st n (i + 1) (yPut (mPut X G) i G) := by
  refine ⟨fun z hz => ?_, fun z z1 z2 j hj => ?_, fun j hj => ?_, fun c c1 c2 => ?_⟩
  · by_cases e : z = i
    · subst e
      exact GE_v (h5 z (by omega)) yPut_in (fun _ _ => rfl) hG
    · refine GE_v (h5 z (by omega)) (fun j hj => ?_) (fun _ _ => rfl) (h.1 z (by omega))
      rw [yPut_z e j hj, yGet_m]
  · rw [yPut_z (by omega) j hj, yGet_m]
    exact h.2.1 z (by omega) z2 j hj
  · rw [yPut_c (by decide) (by decide), mP100 (by omega)]
    exact h.2.2.1 j hj
  · rw [yPut_c (by omega) (by omega), mPc (by omega) c1]
    exact h.2.2.2 c c1 c2
theorem traj_v {I : MI} {b yn hn y : Nat} (h : LOk I b yn hn) (hy : y < yn) {sh : Int32} {s : Nat} {G G' : GT} (hg : GE (laN I b y) G G') (k : Nat) : GE (laN I b y) (trajY I b y hn sh s k G) (trajY I b y hn sh s k G') := GE_traj h hy hg k
set_option maxRecDepth 100000 in
theorem l_Mrun1 {X : MI} {b yn hn st y n : Nat} (hL : LOk X b yn hn) (hD : RLd X b yn hn) (hy : y < yn) (e55 : X 100 55 = nI st) (hst : st + n ≤ 720) (hsh : ShOk (X 100 56)) {G : GT} (hG : GB (laN X b y) st G) (r : MR) (J : MJ) (post : Option Value → MI → MR → MJ → Prop) (kx : Wq MX12_run 68 [some (.ref 100), some (.int (nI n)), some (.int (nI y)), some (.int (nI n))] [] (mPut X (trajY X b y hn (X 100 56) st n G)) r J post) : ∀ (f k : Nat) (_ : k + f = n), Wq MX12_run 42 [some (.ref 100), some (.int (nI n)), some (.int (nI y)), some (.int (nI k))] [] (mPut X (trajY X b y hn (X 100 56) st k G)) r J post := by
  intro f
  induction f with
  | zero =>
    intro k hik
    refine x_iload_n (q := 43) dX12_run_42 rfl rfl ?_
    refine x_iload_n (q := 44) dX12_run_43 rfl rfl ?_
    refine x_icmp_ge (t := 68) (q := 47) dX12_run_44 (by decide) rfl (fun c44 => ?_) (fun c44 => absurd c44 (fun q => q (nI_le (by omega) (by omega))))
    have ek : k = n := by omega
    subst ek
    exact kx
  | succ f ih =>
    intro k hik
    refine x_iload_n (q := 43) dX12_run_42 rfl rfl ?_
    refine x_iload_n (q := 44) dX12_run_43 rfl rfl ?_
    refine x_icmp_ge (t := 68) (q := 47) dX12_run_44 (by decide) rfl (fun c44 => absurd c44 (nI_ge (by omega) (by omega))) (fun c44 => ?_)
    refine x_aload_n (q := 48) dX12_run_47 rfl rfl ?_
    refine x_iload_n (q := 49) dX12_run_48 rfl rfl ?_
    refine x_aload_n (q := 50) dX12_run_49 rfl rfl ?_
    refine q_gi (K := 55) (q := 53) dX12_run_50 rfl cl_12 (by decide) tw_1137 rfl rfl ?_
    refine x_iload_n (q := 54) dX12_run_53 rfl rfl ?_
    refine x_iadd (q := 55) dX12_run_54 rfl ?_
    refine x_aload_n (q := 56) dX12_run_55 rfl rfl ?_
    refine q_gi (K := 56) (q := 59) dX12_run_56 rfl cl_12 (by decide) tw_1138 rfl rfl ?_
    rw [mP100 (by omega), mP100 (by omega), e55, nI_add]
    refine q_callV (ci := 12) (N := 79) (T := TX12) (As := [.int (nI y), .int (nI (st + k)), .int (X 100 56)]) (rest := []) (q := 62) dX12_run_59 rfl okX12_goOn tw_1457 rfl rfl (c_mstep (s := st + k) (n := st + k) hL hD hy hsh (by omega) (by omega) (GB_traj hL hy hsh st hG k (by omega)) r J) rfl rfl (Nat.le_of_ble_eq_true rfl) ⟨by decide, by decide⟩ ⟨rfl, rfl⟩ (fun rv_ I_ r_ J_ hv_ => ?_)
    obtain ⟨a1_, a2_, a3_, a4_⟩ := hv_
    rw [a1_, a2_, a3_, a4_]
    show Wq MX12_run 62 [some (.ref 100), some (.int (nI n)), some (.int (nI y)), some (.int (nI k))] [] (mPut X (trajY X b y hn (X 100 56) st (k + 1) G)) r J _
    obtain ⟨v1, ev1⟩ : ∃ y : Int32, y = (nI k) + 1 := ⟨_, rfl⟩
    refine x_iinc (v := v1) (L2 := [some (.ref 100), some (.int (nI n)), some (.int (nI y)), some (.int v1)]) (q := 65) dX12_run_62 rfl (by decide) rfl rfl (by rw [ev1]; rfl) rfl ?_
    refine x_goto (t := 42) dX12_run_65 (by decide) ?_
    rw [show v1 = nI (k + 1) by rw [ev1, nI_p1]]
    exact ih (k + 1) (by omega)
set_option maxRecDepth 100000 in
theorem l_Mrun {I : MI} {b yn hn st : Nat} (hb : b ≤ 28) (r : MR) (J : MJ) (hl1 : LOk I b yn hn) (hl3 : RLd I b yn hn) (d2 : I 100 55 = nI st) (d5 : ShOk (I 100 56)) (hy0 : ∀ z, z < yn → GB (laN I b z) st (yGet I z)) {n : Nat} (hn1 : st + n ≤ 720) : ∀ (f : Nat) (i : Nat) (X : MI) (x3 : Option Value) (_ : i + f = yn) (_ : mrP I b yn hn st n i X), Wq MX12_run 27 [some (.ref 100), some (.int (nI n)), some (.int (nI i)), x3] [] X r J (Rp (some (.int (nI (st + n)))) (fun Y => ∃ X, mrP I b yn hn st n yn X ∧ Y = upI X 100 55 (nI (st + n))) r J) := by
  have hb28 : b ≤ 28 := hb
  have h8 : yn ≤ 8 := hl1.2.2.1
  intro f
  induction f with
  | zero =>
    intro i X x3 hik hX
    have hcX : ∀ c, regL b c → X c = I c := fun c q => hX.2.2.2 c (by unfold regL at q; omega) (by unfold regL at q; omega)
    have hcM : ∀ c, regM c → X c = I c := fun c q => hX.2.2.2 c (by unfold regM at q; omega) (by unfold regM at q; omega)
    have hLX := LOk_c hcX hl1
    have hDX := RLd_c hcX hcM (hX.2.2.1 41 (by omega)) (hX.2.2.1 43 (by omega)) h8 hl3
    have e41 : X 100 41 = nI yn := by rw [hX.2.2.1 41 (by omega)]; exact hl3.1
    have e55 : X 100 55 = nI st := by rw [hX.2.2.1 55 (by omega)]; exact d2
    have e56 : X 100 56 = I 100 56 := hX.2.2.1 56 (by omega)
    refine x_iload_n (q := 28) dX12_run_27 rfl rfl ?_
    refine x_aload_n (q := 29) dX12_run_28 rfl rfl ?_
    refine q_gi (K := 41) (q := 32) dX12_run_29 rfl cl_12 (by decide) tw_1123 rfl rfl ?_
    refine x_icmp_ge (t := 79) (q := 35) dX12_run_32 (by decide) rfl (fun c32 => ?_) (fun c32 => absurd c32 (fun q => q (by rw [e41]; exact nI_le (by omega) (by omega))))
    refine x_aload_n (q := 80) dX12_run_79 rfl rfl ?_
    refine x_dup (q := 81) dX12_run_80 rfl rfl ?_
    refine q_gi (K := 55) (q := 84) dX12_run_81 rfl cl_12 (by decide) tw_1137 rfl rfl ?_
    refine x_iload_n (q := 85) dX12_run_84 rfl rfl ?_
    refine x_iadd (q := 86) dX12_run_85 rfl ?_
    refine q_pi (K := 55) (q := 89) dX12_run_86 rfl cl_12 (by decide) tw_1137 rfl rfl rfl rfl (fun I1 eI1 => ?_)
    refine x_aload_n (q := 90) dX12_run_89 rfl rfl ?_
    refine q_gi (K := 55) (q := 93) dX12_run_90 rfl cl_12 (by decide) tw_1137 rfl rfl ?_
    refine q_iret dX12_run_93 rfl ?_
    have ei : i = yn := by omega
    subst ei
    rw [e55, nI_add] at eI1
    rw [eI1, upq]
    exact ⟨rfl, ⟨X, hX, rfl⟩, rfl, rfl⟩
  | succ f ih =>
    intro i X x3 hik hX
    have hcX : ∀ c, regL b c → X c = I c := fun c q => hX.2.2.2 c (by unfold regL at q; omega) (by unfold regL at q; omega)
    have hcM : ∀ c, regM c → X c = I c := fun c q => hX.2.2.2 c (by unfold regM at q; omega) (by unfold regM at q; omega)
    have hLX := LOk_c hcX hl1
    have hDX := RLd_c hcX hcM (hX.2.2.1 41 (by omega)) (hX.2.2.1 43 (by omega)) h8 hl3
    have e41 : X 100 41 = nI yn := by rw [hX.2.2.1 41 (by omega)]; exact hl3.1
    have e55 : X 100 55 = nI st := by rw [hX.2.2.1 55 (by omega)]; exact d2
    have e56 : X 100 56 = I 100 56 := hX.2.2.1 56 (by omega)
    refine x_iload_n (q := 28) dX12_run_27 rfl rfl ?_
    refine x_aload_n (q := 29) dX12_run_28 rfl rfl ?_
    refine q_gi (K := 41) (q := 32) dX12_run_29 rfl cl_12 (by decide) tw_1123 rfl rfl ?_
    refine x_icmp_ge (t := 79) (q := 35) dX12_run_32 (by decide) rfl (fun c32 => absurd c32 (by rw [e41]; exact nI_ge (by omega) (by omega))) (fun c32 => ?_)
    refine x_aload_n (q := 36) dX12_run_35 rfl rfl ?_
    refine x_iload_n (q := 37) dX12_run_36 rfl rfl ?_
    refine q_callV (ci := 12) (N := 79) (T := TX12) (As := [.int (nI i)]) (rest := []) (q := 40) dX12_run_37 rfl okX12_bring tw_1453 rfl rfl (by have k := c_bring i (by omega) X (mGet X) r J; rw [mPut_get] at k; exact k) rfl rfl (Nat.le_of_ble_eq_true rfl) ⟨by decide, by decide⟩ ⟨rfl, rfl⟩ (fun rv_ I_ r_ J_ hv_ => ?_)
    obtain ⟨a1_, a2_, a3_, a4_⟩ := hv_
    rw [a1_, a2_, a3_, a4_]
    show Wq MX12_run 40 [some (.ref 100), some (.int (nI n)), some (.int (nI i)), x3] [] (mPut X (yGet X i)) r J _
    refine x_iconst (0) (q := 41) dX12_run_40 rfl (by decide) ?_
    refine x_istore_n (L2 := [some (.ref 100), some (.int (nI n)), some (.int (nI i)), some (.int 0)]) (q := 42) dX12_run_41 rfl (by decide) rfl rfl ?_
    have hGB := hy0 i (by omega)
    have h5 := (la5 hl1 (show i < yn by omega)).2
    have hyX : ∀ j, j < 9 → yGet X i j = yGet I i j := hX.2.1 i (by omega) (by omega)
    have hla : laN X b i = laN I b i := laN_c hcX (by omega)
    have hGX : GB (laN X b i) st (yGet X i) := by rw [hla]; exact GB_v h5 hyX hGB
    have hshX : ShOk (X 100 56) := by rw [e56]; exact d5
    have hGv0 := traj_v (sh := I 100 56) (s := st) hl1 (show i < yn by omega) (GE_v h5 hyX (fun _ _ => rfl) (⟨fun _ _ => rfl, fun _ _ _ => rfl⟩ : GE (laN I b i) (yGet I i) (yGet I i))) n
    refine l_Mrun1 hLX hDX (show i < yn by omega) e55 hn1 hshX hGX r J _ ?_ n 0 (by omega)
    refine x_aload_n (q := 69) dX12_run_68 rfl rfl ?_
    refine x_iload_n (q := 70) dX12_run_69 rfl rfl ?_
    refine q_callV (ci := 12) (N := 79) (T := TX12) (As := [.int (nI i)]) (rest := []) (q := 73) dX12_run_70 rfl okX12_takeBack tw_1472 rfl rfl (c_takeBack i (by omega) X (trajY X b i hn (X 100 56) st n (yGet X i)) r J) rfl rfl (Nat.le_of_ble_eq_true rfl) ⟨by decide, by decide⟩ ⟨rfl, rfl⟩ (fun rv_ I_ r_ J_ hv_ => ?_)
    obtain ⟨a1_, a2_, a3_, a4_⟩ := hv_
    rw [a1_, a2_, a3_, a4_]
    show Wq MX12_run 73 [some (.ref 100), some (.int (nI n)), some (.int (nI i)), some (.int (nI n))] [] (yPut (mPut X (trajY X b i hn (X 100 56) st n (yGet X i))) i (trajY X b i hn (X 100 56) st n (yGet X i))) r J _
    obtain ⟨v1, ev1⟩ : ∃ y : Int32, y = (nI i) + 1 := ⟨_, rfl⟩
    refine x_iinc (v := v1) (L2 := [some (.ref 100), some (.int (nI n)), some (.int v1), some (.int (nI n))]) (q := 76) dX12_run_73 rfl (by decide) rfl rfl (by rw [ev1]; rfl) rfl ?_
    refine x_goto (t := 27) dX12_run_76 (by decide) ?_
    rw [show v1 = nI (i + 1) by rw [ev1, nI_p1]]
    exact ih (i + 1) _ _ (by omega) (mrP_s (fun z hz => (la5 hl1 (show z < yn by omega)).2) hX (by rw [e56, trajY_c hcX (by omega)]; exact hGv0))
set_option maxRecDepth 100000 in
theorem c_Mrun_h {I : MI} {b yn hn st : Nat} (hb : b ≤ 28) (r : MR) (J : MJ) (hl1 : LOk I b yn hn) (hl3 : RLd I b yn hn) (d2 : I 100 55 = nI st) (d5 : ShOk (I 100 56)) (hy0 : ∀ z, z < yn → GB (laN I b z) st (yGet I z)) {n : Nat} (hn1 : st + n ≤ 720) (h144 : n ≤ 144) : Cq yX12_run MX12_run [.ref 100, .int (nI n)] I r J (Rp (some (.int (nI (st + n)))) (fun Y => ∃ X, mrP I b yn hn st n yn X ∧ Y = upI X 100 55 (nI (st + n))) r J) := by
  have hb28 : b ≤ 28 := hb
  have h8 : yn ≤ 8 := hl1.2.2.1
  refine cq_of [some (.ref 100), some (.int (nI n)), none, none] 2 (by decide +kernel) rfl rfl (Nat.le_of_ble_eq_true rfl) rfl ?_
  refine x_iload_n (q := 1) dX12_run_0 rfl rfl ?_
  refine x_iconst (0) (q := 2) dX12_run_1 rfl (by decide) ?_
  refine x_sipush (144) (q := 5) dX12_run_2 rfl (by decide) ?_
  refine q_callS (As := [.int (nI n), .int 0, .int 144]) (rest := []) (q := 8) dX12_run_5 rfl okX12_isIn tw_1450 (c_isIn_g I r J (nI_pos' (by omega)) (nI_le (b := 144) (by omega) (by decide))) rfl rfl (Nat.le_of_ble_eq_true rfl) ⟨by decide, by decide⟩ ⟨rfl, rfl⟩ (fun rv_ I_ r_ J_ hv_ => ?_)
  obtain ⟨a1_, a2_, a3_, a4_⟩ := hv_
  rw [a1_, a2_, a3_, a4_]
  show Wq MX12_run 8 [some (.ref 100), some (.int (nI n)), none, none] [.int 1] I r J _
  refine x_if_eq (t := 23) (q := 11) dX12_run_8 (by decide) rfl (fun c8 => absurd c8 ((by decide))) (fun c8 => ?_)
  refine x_aload_n (q := 12) dX12_run_11 rfl rfl ?_
  refine q_gi (K := 55) (q := 15) dX12_run_12 rfl cl_12 (by decide) tw_1137 rfl rfl ?_
  refine x_iload_n (q := 16) dX12_run_15 rfl rfl ?_
  refine x_iadd (q := 17) dX12_run_16 rfl ?_
  refine x_sipush (720) (q := 20) dX12_run_17 rfl (by decide) ?_
  refine x_icmp_le (t := 25) (q := 23) dX12_run_20 (by decide) rfl (fun c20 => ?_) (fun c20 => absurd c20 (fun q => q (by rw [d2, nI_add]; exact nI_le (b := 720) (by omega) (by decide))))
  refine x_iconst (0) (q := 26) dX12_run_25 rfl (by decide) ?_
  refine x_istore_n (L2 := [some (.ref 100), some (.int (nI n)), some (.int 0), none]) (q := 27) dX12_run_26 rfl (by decide) rfl rfl ?_
  exact l_Mrun hb28 r J hl1 hl3 d2 d5 hy0 hn1 yn 0 I _ (by omega) ⟨fun z hz => absurd hz (by omega), fun _ _ _ _ _ => rfl, fun _ _ => rfl, fun _ _ _ => rfl⟩
set_option maxRecDepth 100000 in
theorem c_Mrun_1 {I : MI} {b yn wn hn sn st : Nat} (r : MR) (J : MJ) (h : RelL I b yn wn hn sn st) {x : Int32} (hno : ¬ runOk st x) (hi : (0 : Int32) ≤ x ∧ x ≤ 144) : Cq yX12_run MX12_run [.ref 100, .int x] I r J (Rt (some (.int (-1))) I r J) := by
  obtain ⟨d1, d2, d3, d4, d5, d6, d7, d8⟩ := h.2.2.2.2.1
  refine cq_of [some (.ref 100), some (.int x), none, none] 2 (by decide +kernel) rfl rfl (Nat.le_of_ble_eq_true rfl) rfl ?_
  refine x_iload_n (q := 1) dX12_run_0 rfl rfl ?_
  refine x_iconst (0) (q := 2) dX12_run_1 rfl (by decide) ?_
  refine x_sipush (144) (q := 5) dX12_run_2 rfl (by decide) ?_
  refine q_callS (As := [.int x, .int 0, .int 144]) (rest := []) (q := 8) dX12_run_5 rfl okX12_isIn tw_1450 (c_isIn_g I r J hi.1 hi.2) rfl rfl (Nat.le_of_ble_eq_true rfl) ⟨by decide, by decide⟩ ⟨rfl, rfl⟩ (fun rv_ I_ r_ J_ hv_ => ?_)
  obtain ⟨a1_, a2_, a3_, a4_⟩ := hv_
  rw [a1_, a2_, a3_, a4_]
  show Wq MX12_run 8 [some (.ref 100), some (.int x), none, none] [.int 1] I r J _
  refine x_if_eq (t := 23) (q := 11) dX12_run_8 (by decide) rfl (fun c8 => absurd c8 ((by decide))) (fun c8 => ?_)
  refine x_aload_n (q := 12) dX12_run_11 rfl rfl ?_
  refine q_gi (K := 55) (q := 15) dX12_run_12 rfl cl_12 (by decide) tw_1137 rfl rfl ?_
  refine x_iload_n (q := 16) dX12_run_15 rfl rfl ?_
  refine x_iadd (q := 17) dX12_run_16 rfl ?_
  refine x_sipush (720) (q := 20) dX12_run_17 rfl (by decide) ?_
  refine x_icmp_le (t := 25) (q := 23) dX12_run_20 (by decide) rfl (fun c20 => ?_) (fun c20 => ?_)
  · exfalso
    rw [d2] at c20
    exact run_no d3 hno (Int32.not_lt.mpr hi.1) hi.2 c20
  · refine x_iconst (-1) (q := 24) dX12_run_23 rfl (by decide) ?_
    refine q_iret dX12_run_24 rfl ?_
    exact ⟨rfl, rfl, rfl, rfl⟩
set_option maxRecDepth 100000 in
theorem c_Mrun_2 {I : MI} {b yn wn hn sn st : Nat} (r : MR) (J : MJ) (h : RelL I b yn wn hn sn st) {x : Int32} (hno : ¬ runOk st x) (hi : ¬ ((0 : Int32) ≤ x ∧ x ≤ 144)) : Cq yX12_run MX12_run [.ref 100, .int x] I r J (Rt (some (.int (-1))) I r J) := by
  obtain ⟨d1, d2, d3, d4, d5, d6, d7, d8⟩ := h.2.2.2.2.1
  refine cq_of [some (.ref 100), some (.int x), none, none] 2 (by decide +kernel) rfl rfl (Nat.le_of_ble_eq_true rfl) rfl ?_
  refine x_iload_n (q := 1) dX12_run_0 rfl rfl ?_
  refine x_iconst (0) (q := 2) dX12_run_1 rfl (by decide) ?_
  refine x_sipush (144) (q := 5) dX12_run_2 rfl (by decide) ?_
  refine q_callS (As := [.int x, .int 0, .int 144]) (rest := []) (q := 8) dX12_run_5 rfl okX12_isIn tw_1450 (c_isIn_b I r J hi) rfl rfl (Nat.le_of_ble_eq_true rfl) ⟨by decide, by decide⟩ ⟨rfl, rfl⟩ (fun rv_ I_ r_ J_ hv_ => ?_)
  obtain ⟨a1_, a2_, a3_, a4_⟩ := hv_
  rw [a1_, a2_, a3_, a4_]
  show Wq MX12_run 8 [some (.ref 100), some (.int x), none, none] [.int 0] I r J _
  refine x_if_eq (t := 23) (q := 11) dX12_run_8 (by decide) rfl (fun c8 => ?_) (fun c8 => absurd c8 ((by decide)))
  refine x_iconst (-1) (q := 24) dX12_run_23 rfl (by decide) ?_
  refine q_iret dX12_run_24 rfl ?_
  exact ⟨rfl, rfl, rfl, rfl⟩
theorem GC_traj {I : MI} {b yn hn y n : Nat} {c : Int} (h : LOk I b yn hn) (hy : y < yn) {sh : Int32} (hsh : ShOk sh) (s : Nat) {G : GT} (hG : GC (laN I b y) n c G) : ∀ k, n + k ≤ 900 → GC (laN I b y) (n + k) c (trajY I b y hn sh s k G) := by
  intro k
  induction k with
  | zero => intro _; exact hG
  | succ k ih =>
    intro hk
    have q := GC_stepY h hy hsh (s + k) (n := n + k) (by omega) (ih (by omega))
    exact q.1
theorem op_run (x : Int32) : OpOk yX11_run MX11_run yX12_run MX12_run [.int x] := by
  intro I r J hrel
  have hre2 := hrel
  obtain ⟨b, yn, wn, hn, sn, st, hr, hl, hR, hJ⟩ := hrel
  have hb := (refs_L hr).2
  have h8 : yn ≤ 8 := hl.1.2.2.1
  obtain ⟨d1, d2, d3, d4, d5, d6, d7, d8⟩ := hl.2.2.2.2.1
  by_cases h1 : runOk st x
  · obtain ⟨n, n1, n2, rfl⟩ := h1
    refine op_of (res := nI (st + n)) (c_Xrun_g J hr hl n2 n1) (fun v I1 r1 J1 hp => ?_)
    obtain ⟨e1, ⟨t1, t2, t3, t4⟩, e3, e4⟩ := hp
    subst e3
    subst e4
    -- the model runs from its own cells: I with the class's day put forward
    have hcL : ∀ c, regL b c → I1 c = I c := fun c q => t4 c (by unfold regL at q; omega) (by unfold regL at q; omega)
    have hcM : ∀ c, regM c → I1 c = I c := fun c q => t4 c (by unfold regM at q; omega) (by unfold regM at q; omega)
    refine ⟨e1, cq_mono (fun v2 I2 r2 J2 hq => ?_) (c_Mrun_h (I := I1) hb _ _ (LOk_c hcL hl.1) (RLd_c hcL hcM (by rw [t4 100 (by omega) (by omega)]) (by rw [t4 100 (by omega) (by omega)]) h8 hl.2.2.1) (by rw [t4 100 (by omega) (by omega)]; exact d2) (by rw [t4 100 (by omega) (by omega), d4]; exact d5) (fun z hz => ?_) n2 n1)⟩
    · obtain ⟨f1, ⟨X, ⟨g1, g2, g3, g4⟩, f2⟩, f3, f4⟩ := hq
      subst f3
      subst f4
      refine ⟨f1, b, yn, wn, hn, sn, st + n, hr, ?_, ?_, hJ⟩
      · have frX : ∀ c, ¬ c = 100 → ¬ (125 ≤ c ∧ c ≤ 127) → I2 c = I1 c := fun c w1 w2 => by rw [f2, upc w1, g4 c w1 w2]
        have fr : ∀ c, ¬ (60 ≤ c ∧ c < 76) → ¬ c = 58 → ¬ c = 100 → ¬ (125 ≤ c ∧ c ≤ 127) → I2 c = I c := fun c w1 w2 w3 w4 => by rw [frX c w3 w4, t4 c w1 w2]
        have f100 : ∀ j, ¬ j = 55 → ¬ (49 ≤ j ∧ j ≤ 52) → I2 100 j = I 100 j := fun j w1 w2 => by rw [f2, ups w1, g3 j w2, t4 100 (by omega) (by omega)]
        refine RelL_d (fun c w1 w2 => fr c (by unfold regL regM at w2; omega) (by unfold regL regM at w2; omega) w1 (by unfold regL regM at w2; omega)) (by rw [fr 88 (by omega) (by omega) (by omega) (by omega)]) (fun j hj => f100 j (by omega) (by omega)) hb ?_ hl
        have v58 : ∀ j, I2 58 j = I1 58 j := fun j => by rw [frX 58 (by decide) (by omega)]
        refine ⟨by rw [v58, t2], by rw [f2, upq], n2, ?_, ?_, ?_, ?_, fun y hy => ?_⟩
        · rw [v58, t3 3 (by decide), f100 56 (by decide) (by decide)]
          exact d4
        · rw [v58, t3 3 (by decide)]
          exact d5
        · rw [v58, t3 4 (by decide), f100 57 (by decide) (by decide)]
          exact d6
        · rw [v58, t3 4 (by decide)]
          exact d7
        · have el : laN I2 b y = laN I b y := laN_c (fun c w => fr c (by unfold regL at w; omega) (by unfold regL at w; omega) (by unfold regL at w; omega) (by unfold regL at w; omega)) (by omega)
          have h5 := (la5 hl.1 hy).2
          have eg : gGet I2 (60 + 2 * y) = trajY I b y hn (I 58 3) st n (gGet I (60 + 2 * y)) := by
            have e : gGet I2 (60 + 2 * y) = gGet I1 (60 + 2 * y) := by
              unfold gGet
              rw [frX _ (by omega) (by omega), frX _ (by omega) (by omega)]
            rw [e, t1 y hy]
          have ey : ∀ j, yGet I2 y j = yGet X y j := fun j => by
            have e : yGet I2 y = yGet X y := by
              unfold yGet
              rw [f2, upc (by decide), upc (by decide)]
            rw [e]
          have ez : yGet I1 y = yGet I y := by
            unfold yGet
            rw [t4 126 (by omega) (by omega), t4 127 (by omega) (by omega)]
          have q1 := g1 y hy
          rw [t4 100 (by omega) (by omega), d4, ez, laN_c hcL (by omega), trajY_c hcL (by omega)] at q1
          obtain ⟨k1, k2, k3⟩ := d8 y hy
          have k4 := GC_traj hl.1 hy d5 st (⟨k2, Int.le_refl _⟩ : GC (laN I b y) st (gGet I (60 + 2 * y) 8).toInt (gGet I (60 + 2 * y))) n (by omega)
          have k5 := GE_traj (sh := I 58 3) (s := st) hl.1 hy k1 n
          rw [el, eg, v58, t3 4 (by decide)]
          refine ⟨⟨fun j hj => ?_, fun j j1 j2 => ?_⟩, k4.1, ?_⟩
          · rw [ey, q1.1 j hj]
            exact k5.1 j hj
          · rw [ey, q1.2 j j1 j2]
            exact k5.2 j j1 j2
          · have := k4.2
            omega
      · have frX : ∀ c, ¬ c = 100 → ¬ (125 ≤ c ∧ c ≤ 127) → I2 c = I1 c := fun c w1 w2 => by rw [f2, upc w1, g4 c w1 w2]
        have fr : ∀ c, ¬ (60 ≤ c ∧ c < 76) → ¬ c = 58 → ¬ c = 100 → ¬ (125 ≤ c ∧ c ≤ 127) → I2 c = I c := fun c w1 w2 w3 w4 => by rw [frX c w3 w4, t4 c w1 w2]
        refine RelR_c ?_ ?_ ?_ ?_ ?_ ?_ ?_ ?_ (fun j hj => ?_) hR
        all_goals first | rw [fr _ (by omega) (by omega) (by omega) (by omega)] | (rw [f2, ups (by omega), g3 j (by omega), t4 100 (by omega) (by omega)])
    · have ez : yGet I1 z = yGet I z := by
        unfold yGet
        rw [t4 126 (by omega) (by omega), t4 127 (by omega) (by omega)]
      rw [ez, laN_c hcL (by omega)]
      exact (day_GC hl hz).2.1.1
  · refine op_put (c_Xrun_b J hr hl h1) ?_ hre2
    by_cases hi : (0 : Int32) ≤ x ∧ x ≤ 144
    · exact c_Mrun_1 r J hl h1 hi
    · exact c_Mrun_2 r J hl h1 hi
