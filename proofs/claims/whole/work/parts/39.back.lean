theorem RelL_b {I I' : MI} {b yn wn hn sn st : Nat} (hc : ∀ c, ¬ c = 100 → (regL b c ∨ regM c ∨ c = 58 ∨ (60 ≤ c ∧ c < 76) ∨ c = 126 ∨ c = 127 ∨ (89 ≤ c ∧ c ≤ 91) ∨ (134 ≤ c ∧ c ≤ 140)) → I' c = I c) (h88 : I' 88 3 = I 88 3) (h100 : ∀ j, (41 ≤ j ∧ j ≤ 47) ∨ (55 ≤ j ∧ j ≤ 57) ∨ j = 72 → I' 100 j = I 100 j) (hb : b ≤ 28) (hd : RBox I' b yn) (hl : RelL I b yn wn hn sn st) : RelL I' b yn wn hn sn st := by
  obtain ⟨l1, l2, l3, l4, l5, l6, l7⟩ := hl
  have h8 := l1.2.2.1
  have hL : ∀ c, regL b c → I' c = I c := fun c q => hc c (by have := q.2; omega) (Or.inl q)
  have hM : ∀ c, regM c → I' c = I c := fun c q => hc c (by have := q.1; omega) (Or.inr (Or.inl q))
  exact ⟨LOk_c hL l1, LOk2_c hL l2, RLd_c hL hM (h100 41 (by omega)) (h100 43 (by omega)) h8 l3, RLe_c hL hM (fun j q1 q2 => h100 j (by omega)) l4, RDay_c hL (fun c q1 q2 => hc c (by omega) (by omega)) (hc 58 (by decide) (by omega)) (hc 126 (by decide) (by omega)) (hc 127 (by decide) (by omega)) (fun j q1 q2 => h100 j (by omega)) h8 l5, RGlass_c hL (fun c q1 q2 => hc c (by omega) (by omega)) (fun c q1 q2 => hc c (by omega) (by omega)) h88 (h100 72 (by omega)) h8 l6, hd⟩
theorem GE_v {la : Nat} {G G' F F' : GT} (h5 : la ≤ 5) (h1 : ∀ j, j < 9 → F j = G j) (h2 : ∀ j, j < 9 → F' j = G' j) (h : GE la G G') : GE la F F' :=
  ⟨fun j hj => by rw [h1 j (by omega), h2 j (by omega)]; exact h.1 j hj, fun j j1 j2 => by rw [h1 j j2, h2 j j2]; exact h.2 j j1 j2⟩
theorem GB_v {la n : Nat} {G F : GT} (h5 : la ≤ 5) (h1 : ∀ j, j < 9 → F j = G j) (h : GB la n G) : GB la n F := by
  obtain ⟨b1, b2⟩ := h
  unfold GB
  rw [h1 5 (by decide), h1 6 (by decide), h1 7 (by decide), h1 8 (by decide)]
  exact ⟨fun j hj => by rw [h1 j (by omega)]; exact b1 j hj, b2⟩
theorem op_image (x : Int32) : OpOk yX11_image MX11_image yX12_image MX12_image [.int x] := by
  intro I r J hrel
  have hre2 := hrel
  obtain ⟨b, yn, wn, hn, sn, st, hr, hl, hR, hJ⟩ := hrel
  have hb := (refs_L hr).2
  have hb2 : 2 ≤ b := by rcases hr.2.2 with ⟨q, -⟩ | ⟨q, -⟩ <;> omega
  have h8 : yn ≤ 8 := hl.1.2.2.1
  obtain ⟨d1, d2, d3, d4, d5, d6, d7, d8⟩ := hl.2.2.2.2.1
  by_cases h1 : ∃ k, k < 3 ∧ x = nI k
  · obtain ⟨k, hk, rfl⟩ := h1
    have qx := c_Ximg_g hk I r J
    generalize hI1 : upI (upI (upI (upI (kpD I (96 + k) 8) (96 + k) 72 (I 58 2)) (96 + k) 73 (I 58 3)) (96 + k) 74 (I 58 4)) 99 k 1 = I1 at qx
    have fr1 : ∀ c, ¬ c = 96 + k → ¬ c = 99 → I1 c = I c := fun c q1 q2 => by rw [← hI1, upc q2, upc q1, upc q1, upc q1, kpD_o q1]
    have qm := c_Mimg_g hk I1 r J
    rw [fr1 100 (by omega) (by omega)] at qm
    generalize hI2 : upI (upI (upI (cpI (cpI (upI I1 142 k 1) 126 0 143 (40 * k) 40) 127 0 144 (32 * k) 32) 145 (3 * k) (I 100 55)) 145 (3 * k + 1) (I 100 56)) 145 (3 * k + 2) (I 100 57) = I2 at qm
    have fr2 : ∀ c, ¬ (142 ≤ c ∧ c ≤ 145) → I2 c = I1 c := fun c q => by rw [← hI2, upc (by omega), upc (by omega), upc (by omega), cpI_o (by omega), cpI_o (by omega), upc (by omega)]
    have fr : ∀ c, ¬ c = 96 + k → ¬ c = 99 → ¬ (142 ≤ c ∧ c ≤ 145) → I2 c = I c := fun c q1 q2 q3 => by rw [fr2 c q3, fr1 c q1 q2]
    refine op_put (res := I 58 2) qx (by rw [d2, ← d1] at qm; exact qm) ⟨b, yn, wn, hn, sn, st, hr, ?_, ?_, hJ⟩
    · refine RelL_b (fun c q1 q2 => fr c (by unfold regL regM at q2; omega) (by unfold regL regM at q2; omega) (by unfold regL regM at q2; omega)) (by rw [fr 88 (by omega) (by omega) (by omega)]) (fun j _ => by rw [fr 100 (by omega) (by omega) (by omega)]) hb ?_ hl
      have eL : ∀ y, y < yn → laN I2 b y = laN I b y := fun y hy => laN_c (fun c q => fr c (by unfold regL at q; omega) (by unfold regL at q; omega) (by unfold regL at q; omega)) (by omega)
      have e142 : ∀ q, I2 142 q = if q = k then 1 else I 142 q := fun q => by
        rw [← hI2, upcj (by decide), upcj (by decide), upcj (by decide), cpI_o (by decide), cpI_o (by decide)]
        by_cases e : q = k
        · rw [if_pos e, e, upq]
        · rw [if_neg e, ups e, fr1 142 (by omega) (by omega)]
      have e99 : ∀ q, I2 99 q = if q = k then 1 else I 99 q := fun q => by
        rw [fr2 99 (by omega), ← hI1]
        by_cases e : q = k
        · rw [if_pos e, e, upq]
        · rw [if_neg e, ups e, upcj (by omega), upcj (by omega), upcj (by omega), kpD_o (by omega)]
      intro q hq
      by_cases e : q = k
      · subst e
        rw [e142, e99, if_pos rfl, if_pos rfl]
        refine ⟨rfl, Or.inr rfl, fun _ => ⟨st, d3, ?_, ?_, ?_, ?_, ?_, ?_, fun y hy => ?_⟩⟩
        · rw [fr2 (96 + q) (by omega), ← hI1, upcj (by omega), ups (by decide), ups (by decide), upq]
          exact d1
        · rw [← hI2, ups (by omega), ups (by omega), upq]
          exact d2
        · rw [← hI2, ups (by omega), upq, hI2, fr2 (96 + q) (by omega), ← hI1, upcj (by omega), ups (by decide), upq]
          exact d4
        · rw [fr2 (96 + q) (by omega), ← hI1, upcj (by omega), ups (by decide), upq]
          exact d5
        · rw [← hI2, upq, hI2, fr2 (96 + q) (by omega), ← hI1, upcj (by omega), upq]
          exact d6
        · rw [fr2 (96 + q) (by omega), ← hI1, upcj (by omega), upq]
          exact d7
        · have h5 := (la5 hl.1 hy).2
          have vx : ∀ j, j < 9 → bxX I2 q y j = gGet I (60 + 2 * y) j := fun j hj => by
            unfold bxX
            rw [fr2 (96 + q) (by omega), ← hI1, upcj (by omega), ups (by omega), ups (by omega), ups (by omega)]
            unfold kpD
            rw [if_pos ⟨rfl, by omega⟩]
            have e1 : (9 * y + j) / 9 = y := by omega
            have e2 : (9 * y + j) % 9 = j := by omega
            rw [e1, e2]
          have vm : ∀ j, j < 9 → bxM I2 q y j = yGet I y j := fun j hj => by
            unfold bxM yGet
            by_cases hj5 : j < 5
            · rw [if_pos hj5, if_pos hj5, ← hI2, upcj (by decide), upcj (by decide), upcj (by decide), cpI_o (by decide), cpI_i (by omega) (by omega), upcj (by decide), fr1 126 (by omega) (by omega)]
              congr 1
              omega
            · rw [if_neg hj5, if_neg hj5, ← hI2, upcj (by decide), upcj (by decide), upcj (by decide), cpI_i (by omega) (by omega), cpI_o (by decide), upcj (by decide), fr1 127 (by omega) (by omega)]
              congr 1
              omega
          obtain ⟨g1, g2, g3⟩ := d8 y hy
          rw [eL y hy, vx 8 (by decide)]
          refine ⟨GE_v h5 vx vm g1, GB_v h5 vx g2, ?_⟩
          rw [fr2 (96 + q) (by omega), ← hI1, upcj (by omega), upq]
          exact g3
      · rw [e142, e99, if_neg e, if_neg e]
        obtain ⟨p1, p2, p3⟩ := hl.2.2.2.2.2.2 q hq
        refine ⟨p1, p2, fun h1 => ?_⟩
        obtain ⟨s', f1, f2, f3, f4, f5, f6, f7, f8⟩ := p3 h1
        have v145 : ∀ j, j < 3 → I2 145 (3 * q + j) = I 145 (3 * q + j) := fun j hj => by
          rw [← hI2, ups (by omega), ups (by omega), ups (by omega), cpI_o (by decide), cpI_o (by decide), upcj (by decide), fr1 145 (by omega) (by omega)]
        have w0 := v145 0 (by decide)
        rw [Nat.add_zero] at w0
        refine ⟨s', f1, ?_, ?_, ?_, ?_, ?_, ?_, fun y hy => ?_⟩
        · rw [fr (96 + q) (by omega) (by omega) (by omega)]
          exact f2
        · rw [w0]
          exact f3
        · rw [v145 1 (by decide), fr (96 + q) (by omega) (by omega) (by omega)]
          exact f4
        · rw [fr (96 + q) (by omega) (by omega) (by omega)]
          exact f5
        · rw [v145 2 (by decide), fr (96 + q) (by omega) (by omega) (by omega)]
          exact f6
        · rw [fr (96 + q) (by omega) (by omega) (by omega)]
          exact f7
        · have h5 := (la5 hl.1 hy).2
          have vx : ∀ j, j < 9 → bxX I2 q y j = bxX I q y j := fun j hj => by
            unfold bxX
            rw [fr (96 + q) (by omega) (by omega) (by omega)]
          have vm : ∀ j, j < 9 → bxM I2 q y j = bxM I q y j := fun j hj => by
            unfold bxM
            by_cases hj5 : j < 5
            · rw [if_pos hj5, if_pos hj5, ← hI2, upcj (by decide), upcj (by decide), upcj (by decide), cpI_o (by decide), cpI_x (by omega), upcj (by decide), fr1 143 (by omega) (by omega)]
            · rw [if_neg hj5, if_neg hj5, ← hI2, upcj (by decide), upcj (by decide), upcj (by decide), cpI_x (by omega), cpI_o (by decide), upcj (by decide), fr1 144 (by omega) (by omega)]
          obtain ⟨g1, g2, g3⟩ := f8 y hy
          rw [eL y hy, vx 8 (by decide), fr (96 + q) (by omega) (by omega) (by omega)]
          exact ⟨GE_v h5 vx vm g1, GB_v h5 vx g2, g3⟩
    · refine RelR_c ?_ ?_ ?_ ?_ ?_ ?_ ?_ ?_ (fun j _ => ?_) hR <;> rw [fr _ (by omega) (by omega) (by omega)]
  · exact op_put (c_Ximg_b h1 I r J) (c_Mimg_b h1 I r J) hre2
set_option maxRecDepth 100000 in
theorem c_gtake {g k at0 : Nat} (hg : SH g = (14, 5)) (hk : k < 3) (h9 : g + 1 < 96) (ha : at0 + 9 ≤ 75) (I : MI) (G : GT) (r : MR) (J : MJ) : Cq yX4_takeFrom MX4_takeFrom [.ref g, .ref (96 + k), .int (nI at0)] (gPut I g G) r J (Rt none (gPut I g (copyG (fun j => I (96 + k) (at0 + j)) G)) r J) := by
  refine cq_of [some (.ref g), some (.ref (96 + k)), some (.int (nI at0))] 0 (by decide +kernel) rfl rfl (Nat.le_of_ble_eq_true rfl) rfl ?_
  refine x_aload_n (q := 1) dX4_takeFrom_0 rfl rfl ?_
  refine x_iload_n (q := 2) dX4_takeFrom_1 rfl rfl ?_
  refine x_aload_n (q := 3) dX4_takeFrom_2 rfl rfl ?_
  refine q_gr (K := 0) (b := (g + 1)) (q := 6) dX4_takeFrom_3 rfl cl_4 (by decide) tw_396 hg rfl (gr_w hg _) ?_
  refine x_iconst (0) (q := 7) dX4_takeFrom_6 rfl (by decide) ?_
  refine x_iconst (5) (q := 8) dX4_takeFrom_7 rfl (by decide) ?_
  refine q_copy (q := 11) dX4_takeFrom_8 rfl tw_746 tw_748 tw_747 tw_100 (by decide) (Nat.le_of_ble_eq_true rfl) (bx_w hk r).2 (gs_w hg) (nI_pos (by omega)) (by decide) (by decide) (by rw [nI_clamp (by omega), cl_lit1]; omega) (by decide) (fun I1 eI1 => ?_)
  refine x_aload_n (q := 12) dX4_takeFrom_11 rfl rfl ?_
  refine x_aload_n (q := 13) dX4_takeFrom_12 rfl rfl ?_
  refine x_iload_n (q := 14) dX4_takeFrom_13 rfl rfl ?_
  refine x_iconst (5) (q := 15) dX4_takeFrom_14 rfl (by decide) ?_
  refine x_iadd (q := 16) dX4_takeFrom_15 rfl ?_
  refine q_iald (q := 17) dX4_takeFrom_16 rfl (bx_w hk r).2 (by rw [nI_p5]; exact vp_in_nI (by omega) (by decide)) ?_
  refine q_pi (K := 1) (q := 20) dX4_takeFrom_17 rfl cl_4 (by decide) tw_399 rfl rfl hg rfl (fun I2 eI2 => ?_)
  refine x_aload_n (q := 21) dX4_takeFrom_20 rfl rfl ?_
  refine x_aload_n (q := 22) dX4_takeFrom_21 rfl rfl ?_
  refine x_iload_n (q := 23) dX4_takeFrom_22 rfl rfl ?_
  refine x_iconst (5) (q := 24) dX4_takeFrom_23 rfl (by decide) ?_
  refine x_iadd (q := 25) dX4_takeFrom_24 rfl ?_
  refine x_iconst (1) (q := 26) dX4_takeFrom_25 rfl (by decide) ?_
  refine x_iadd (q := 27) dX4_takeFrom_26 rfl ?_
  refine q_iald (q := 28) dX4_takeFrom_27 rfl (bx_w hk r).2 (by rw [nI_p5, nI_p1]; exact vp_in_nI (by omega) (by decide)) ?_
  refine q_pi (K := 2) (q := 31) dX4_takeFrom_28 rfl cl_4 (by decide) tw_401 rfl rfl hg rfl (fun I3 eI3 => ?_)
  refine x_aload_n (q := 32) dX4_takeFrom_31 rfl rfl ?_
  refine x_aload_n (q := 33) dX4_takeFrom_32 rfl rfl ?_
  refine x_iload_n (q := 34) dX4_takeFrom_33 rfl rfl ?_
  refine x_iconst (5) (q := 35) dX4_takeFrom_34 rfl (by decide) ?_
  refine x_iadd (q := 36) dX4_takeFrom_35 rfl ?_
  refine x_iconst (2) (q := 37) dX4_takeFrom_36 rfl (by decide) ?_
  refine x_iadd (q := 38) dX4_takeFrom_37 rfl ?_
  refine q_iald (q := 39) dX4_takeFrom_38 rfl (bx_w hk r).2 (by rw [nI_p5, nI_p2]; exact vp_in_nI (by omega) (by decide)) ?_
  refine q_pi (K := 3) (q := 42) dX4_takeFrom_39 rfl cl_4 (by decide) tw_404 rfl rfl hg rfl (fun I4 eI4 => ?_)
  refine x_aload_n (q := 43) dX4_takeFrom_42 rfl rfl ?_
  refine x_aload_n (q := 44) dX4_takeFrom_43 rfl rfl ?_
  refine x_iload_n (q := 45) dX4_takeFrom_44 rfl rfl ?_
  refine x_iconst (5) (q := 46) dX4_takeFrom_45 rfl (by decide) ?_
  refine x_iadd (q := 47) dX4_takeFrom_46 rfl ?_
  refine x_iconst (3) (q := 48) dX4_takeFrom_47 rfl (by decide) ?_
  refine x_iadd (q := 49) dX4_takeFrom_48 rfl ?_
  refine q_iald (q := 50) dX4_takeFrom_49 rfl (bx_w hk r).2 (by rw [nI_p5, nI_p3]; exact vp_in_nI (by omega) (by decide)) ?_
  refine q_pi (K := 4) (q := 53) dX4_takeFrom_50 rfl cl_4 (by decide) tw_406 rfl rfl hg rfl (fun I5 eI5 => ?_)
  refine q_vret dX4_takeFrom_53 rfl ?_
  refine ⟨rfl, ?_, rfl, rfl⟩
  have n1 : 96 + k ≠ g := by omega
  have n2 : 96 + k ≠ g + 1 := by omega
  subst_vars
  simp only [nI_p5, nI_p1, nI_p2, nI_p3, nI_clamp (show at0 < 2 ^ 31 by omega), nI_clamp (show at0 + 5 < 2 ^ 31 by omega), nI_clamp (show at0 + 5 + 1 < 2 ^ 31 by omega), nI_clamp (show at0 + 5 + 2 < 2 ^ 31 by omega), nI_clamp (show at0 + 5 + 3 < 2 ^ 31 by omega)]
  simp only [gPut_f, gPut_w, gPut_uf, gPut_uw, cl_lit0, cl_lit1, gPut_cp, Nat.le_refl, Nat.reduceLeDiff, Nat.reduceLT, Nat.reduceAdd]
  simp only [gPut_o _ _ _ _ _ n1 n2]
  refine congrArg (gPut I g) ?_
  funext j
  simp only [upd, copyG]
  by_cases h5 : j < 5
  · have q1 : ¬ j = 8 := by omega
    have q2 : ¬ j = 7 := by omega
    have q3 : ¬ j = 6 := by omega
    have q4 : ¬ j = 5 := by omega
    have q5 : j < 9 := by omega
    simp [h5, q1, q2, q3, q4, q5]
  · by_cases h6 : j < 9
    · have : j = 5 ∨ j = 6 ∨ j = 7 ∨ j = 8 := by omega
      rcases this with rfl | rfl | rfl | rfl <;> rfl
    · have q1 : ¬ j = 8 := by omega
      have q2 : ¬ j = 7 := by omega
      have q3 : ¬ j = 6 := by omega
      have q4 : ¬ j = 5 := by omega
      simp [h5, h6, q1, q2, q3, q4]
def tkP (I : MI) (k i : Nat) (I1 : MI) : Prop := (∀ z, z < i → ∀ j, j < 9 → gGet I1 (60 + 2 * z) j = I (96 + k) (9 * z + j)) ∧ ∀ c, ¬ (60 ≤ c ∧ c < 76) → I1 c = I c
theorem tkP_s {I I1 : MI} {k i : Nat} (hk : k < 3) (hi : i < 8) (h : tkP I k i I1) : tkP I k (i + 1) (gPut I1 (60 + 2 * i) (copyG (fun j => I1 (96 + k) (9 * i + j)) (gGet I1 (60 + 2 * i)))) := by
  refine ⟨fun z hz j hj => ?_, fun c hc => ?_⟩
  · by_cases e : z = i
    · subst e
      rw [gGet_put]
      unfold copyG
      rw [if_pos hj, h.2 (96 + k) (by omega)]
    · have e1 : gGet (gPut I1 (60 + 2 * i) (copyG (fun j => I1 (96 + k) (9 * i + j)) (gGet I1 (60 + 2 * i)))) (60 + 2 * z) = gGet I1 (60 + 2 * z) := by
        funext j
        unfold gGet
        rw [gPut_o _ _ _ _ _ (by omega) (by omega), gPut_o _ _ _ _ _ (by omega) (by omega)]
      rw [e1]
      exact h.1 z (by omega) j hj
  · funext j
    rw [gPut_o _ _ _ _ _ (by omega) (by omega), h.2 c hc]
def tkF (I : MI) (k : Nat) (I' : MI) : Prop := (∀ z, z < 8 → ∀ j, j < 9 → gGet I' (60 + 2 * z) j = I (96 + k) (9 * z + j)) ∧ I' 58 2 = I (96 + k) 72 ∧ I' 58 3 = I (96 + k) 73 ∧ I' 58 4 = I (96 + k) 74 ∧ ∀ c, ¬ (60 ≤ c ∧ c < 76) → ¬ c = 58 → I' c = I c
def Rp (x : Option Value) (F : MI → Prop) (r : MR) (J : MJ) : Option Value → MI → MR → MJ → Prop := fun v I' r' J' => v = x ∧ F I' ∧ r' = r ∧ J' = J
theorem tk_end {I I1 : MI} {k : Nat} (hk : k < 3) (h : tkP I k 8 I1) : tkF I k (upI (upI (upI I1 58 2 (I1 (96 + k) 72)) 58 3 (I1 (96 + k) 73)) 58 4 (I1 (96 + k) 74)) := by
  rw [h.2 (96 + k) (by omega)]
  refine ⟨fun z hz j hj => ?_, ?_, ?_, ?_, fun c c1 c2 => ?_⟩
  · have e : gGet (upI (upI (upI I1 58 2 (I (96 + k) 72)) 58 3 (I (96 + k) 73)) 58 4 (I (96 + k) 74)) (60 + 2 * z) = gGet I1 (60 + 2 * z) := by
      unfold gGet
      rw [upc (by omega), upc (by omega), upc (by omega), upc (by omega), upc (by omega), upc (by omega)]
    rw [e]
    exact h.1 z hz j hj
  · rw [ups (by decide), ups (by decide), upq]
  · rw [ups (by decide), upq]
  · rw [upq]
  · rw [upc c2, upc c2, upc c2, h.2 c c1]
set_option maxRecDepth 100000 in
theorem l_take {k : Nat} (hk : k < 3) (I : MI) (r : MR) (J : MJ) : ∀ (f : Nat) (i : Nat) (X : MI) (_ : i + f = 8) (_ : tkP I k i X), Wq MX1_takeFrom 2 [some (.ref 58), some (.ref (96 + k)), some (.int (nI i))] [] X r J (Rp none (tkF I k) r J) := by
  intro f
  induction f with
  | zero =>
    intro i X hik hX
    refine x_iload_n (q := 3) dX1_takeFrom_2 rfl rfl ?_
    refine x_bipush (8) (q := 5) dX1_takeFrom_3 rfl (by decide) ?_
    refine x_icmp_ge (t := 28) (q := 8) dX1_takeFrom_5 (by decide) rfl (fun c5 => ?_) (fun c5 => absurd c5 (fun q => q (nI_le (a := 8) (b := i) (by omega) (by omega))))
    refine x_aload_n (q := 29) dX1_takeFrom_28 rfl rfl ?_
    refine x_aload_n (q := 30) dX1_takeFrom_29 rfl rfl ?_
    refine x_bipush (72) (q := 32) dX1_takeFrom_30 rfl (by decide) ?_
    refine q_iald (q := 33) dX1_takeFrom_32 rfl (bx_w hk r).2 (vin (by decide)) ?_
    refine q_pi (K := 2) (q := 36) dX1_takeFrom_33 rfl cl_1 (by decide) tw_429 rfl rfl rfl rfl (fun I1 eI1 => ?_)
    refine x_aload_n (q := 37) dX1_takeFrom_36 rfl rfl ?_
    refine x_aload_n (q := 38) dX1_takeFrom_37 rfl rfl ?_
    refine x_bipush (73) (q := 40) dX1_takeFrom_38 rfl (by decide) ?_
    refine q_iald (q := 41) dX1_takeFrom_40 rfl (bx_w hk r).2 (vin (by decide)) ?_
    refine q_pi (K := 3) (q := 44) dX1_takeFrom_41 rfl cl_1 (by decide) tw_432 rfl rfl rfl rfl (fun I2 eI2 => ?_)
    refine x_aload_n (q := 45) dX1_takeFrom_44 rfl rfl ?_
    refine x_aload_n (q := 46) dX1_takeFrom_45 rfl rfl ?_
    refine x_bipush (74) (q := 48) dX1_takeFrom_46 rfl (by decide) ?_
    refine q_iald (q := 49) dX1_takeFrom_48 rfl (bx_w hk r).2 (vin (by decide)) ?_
    refine q_pi (K := 4) (q := 52) dX1_takeFrom_49 rfl cl_1 (by decide) tw_434 rfl rfl rfl rfl (fun I3 eI3 => ?_)
    refine q_vret dX1_takeFrom_52 rfl ?_
    have ei : i = 8 := by omega
    subst ei
    refine ⟨rfl, ?_, rfl, rfl⟩
    have e1 : ∀ K, I1 (96 + k) K = X (96 + k) K := fun K => by rw [eI1, upcj (by omega)]
    have e2 : ∀ K, I2 (96 + k) K = X (96 + k) K := fun K => by rw [eI2, upcj (by omega), e1]
    rw [eI3, e2, eI2, e1, eI1]
    exact tk_end hk hX
  | succ f ih =>
    intro i X hik hX
    refine x_iload_n (q := 3) dX1_takeFrom_2 rfl rfl ?_
    refine x_bipush (8) (q := 5) dX1_takeFrom_3 rfl (by decide) ?_
    refine x_icmp_ge (t := 28) (q := 8) dX1_takeFrom_5 (by decide) rfl (fun c5 => absurd c5 (nI_ge (b := 8) (by omega) (by decide))) (fun c5 => ?_)
    refine x_aload_n (q := 9) dX1_takeFrom_8 rfl rfl ?_
    refine q_gr (K := 1) (b := 59) (q := 12) dX1_takeFrom_9 rfl cl_1 (by decide) tw_426 rfl rfl rfl ?_
    refine x_iload_n (q := 13) dX1_takeFrom_12 rfl rfl ?_
    refine q_aald5 (b := (60 + 2 * i)) (q := 14) dX1_takeFrom_13 rfl rfl (vp_in_nI (by omega) (by decide)) (by rw [nI_clamp (by omega)]; exact (gy_w (by omega) _).1) ?_
    refine x_aload_n (q := 15) dX1_takeFrom_14 rfl rfl ?_
    refine x_iload_n (q := 16) dX1_takeFrom_15 rfl rfl ?_
    refine x_bipush (9) (q := 18) dX1_takeFrom_16 rfl (by decide) ?_
    refine x_imul (q := 19) dX1_takeFrom_18 rfl ?_
    refine q_callV (ci := 4) (N := 5) (T := TX4) (As := [.ref (96 + k), .int ((nI i) * 9)]) (rest := []) (q := 22) dX1_takeFrom_19 rfl okX4_takeFrom tw_1068 (gy_w (by omega) r).2 rfl (by rw [nI9]; have q := c_gtake (g := 60 + 2 * i) (gy_w (by omega) r).2 hk (by omega) (at0 := 9 * i) (by omega) X (gGet X (60 + 2 * i)) r J; rw [gPut_get] at q; exact q) rfl rfl (Nat.le_of_ble_eq_true rfl) ⟨by decide, by decide⟩ ⟨rfl, rfl⟩ (fun rv_ I_ r_ J_ hv_ => ?_)
    obtain ⟨a1_, a2_, a3_, a4_⟩ := hv_
    rw [a1_, a2_, a3_, a4_]
    show Wq MX1_takeFrom 22 [some (.ref 58), some (.ref (96 + k)), some (.int (nI i))] [] (gPut X (60 + 2 * i) (copyG (fun j => X (96 + k) (9 * i + j)) (gGet X (60 + 2 * i)))) r J _
    obtain ⟨v1, ev1⟩ : ∃ y : Int32, y = (nI i) + 1 := ⟨_, rfl⟩
    refine x_iinc (v := v1) (L2 := [some (.ref 58), some (.ref (96 + k)), some (.int v1)]) (q := 25) dX1_takeFrom_22 rfl (by decide) rfl rfl (by rw [ev1]; rfl) rfl ?_
    refine x_goto (t := 2) dX1_takeFrom_25 (by decide) ?_
    rw [show v1 = nI (i + 1) by rw [ev1, nI_p1]]
    exact ih (i + 1) _ (by omega) (tkP_s hk (by omega) hX)
set_option maxRecDepth 100000 in
theorem c_take {k : Nat} (hk : k < 3) (I : MI) (r : MR) (J : MJ) : Cq yX1_takeFrom MX1_takeFrom [.ref 58, .ref (96 + k)] I r J (Rp none (tkF I k) r J) := by
  refine cq_of [some (.ref 58), some (.ref (96 + k)), none] 1 (by decide +kernel) rfl rfl (Nat.le_of_ble_eq_true rfl) rfl ?_
  refine x_iconst (0) (q := 1) dX1_takeFrom_0 rfl (by decide) ?_
  refine x_istore_n (L2 := [some (.ref 58), some (.ref (96 + k)), some (.int 0)]) (q := 2) dX1_takeFrom_1 rfl (by decide) rfl rfl ?_
  exact l_take hk I r J 8 0 I rfl ⟨fun z hz => absurd hz (by omega), fun _ _ => rfl⟩
set_option maxRecDepth 100000 in
theorem c_Xback_g {k : Nat} (hk : k < 3) {I : MI} (h1 : I 99 k = 1) (r : MR) (J : MJ) : Cq yX11_back MX11_back [.ref 0, .int (nI k)] I r J (Rp (some (.int (I (96 + k) 72))) (tkF I k) r J) := by
  refine cq_of [some (.ref 0), some (.int (nI k))] 0 (by decide +kernel) rfl rfl (Nat.le_of_ble_eq_true rfl) rfl ?_
  refine x_iload_n (q := 1) dX11_back_0 rfl rfl ?_
  refine x_if_lt (t := 18) (q := 4) dX11_back_1 (by decide) rfl (fun c1 => absurd c1 (nI_pos (by omega))) (fun c1 => ?_)
  refine x_iload_n (q := 5) dX11_back_4 rfl rfl ?_
  refine x_iconst (3) (q := 6) dX11_back_5 rfl (by decide) ?_
  refine x_icmp_ge (t := 18) (q := 9) dX11_back_6 (by decide) rfl (fun c6 => absurd c6 (nI_ge (b := 3) (by omega) (by decide))) (fun c6 => ?_)
  refine x_aload_n (q := 10) dX11_back_9 rfl rfl ?_
  refine q_gr (K := 13) (b := 99) (q := 13) dX11_back_10 rfl cl_11 (by decide) tw_580 rfl rfl rfl ?_
  refine x_iload_n (q := 14) dX11_back_13 rfl rfl ?_
  refine q_zald (q := 15) dX11_back_14 rfl rfl (vp_in_nI (by omega) (by decide)) ?_
  refine x_if_ne (t := 20) (q := 18) dX11_back_15 (by decide) rfl (fun c15 => ?_) (fun c15 => absurd c15 (by rw [nI_clamp (by omega), h1]; decide))
  refine x_aload_n (q := 21) dX11_back_20 rfl rfl ?_
  refine q_gr (K := 5) (b := 58) (q := 24) dX11_back_21 rfl cl_11 (by decide) tw_572 rfl rfl rfl ?_
  refine x_aload_n (q := 25) dX11_back_24 rfl rfl ?_
  refine q_gr (K := 12) (b := 95) (q := 28) dX11_back_25 rfl cl_11 (by decide) tw_579 rfl rfl rfl ?_
  refine x_iload_n (q := 29) dX11_back_28 rfl rfl ?_
  refine q_aald6 (b := (96 + k)) (q := 30) dX11_back_29 rfl rfl (vp_in_nI (by omega) (by decide)) (by rw [nI_clamp (by omega)]; exact (bx_w hk _).1) ?_
  refine q_callV (ci := 1) (N := 5) (T := TX1) (As := [.ref (96 + k)]) (rest := []) (q := 33) dX11_back_30 rfl okX1_takeFrom tw_1064 rfl rfl (c_take hk I r J) rfl rfl (Nat.le_of_ble_eq_true rfl) ⟨by decide, by decide⟩ ⟨rfl, rfl⟩ (fun rv_ I1 r_ J_ hv_ => ?_)
  obtain ⟨a1_, f1, a3_, a4_⟩ := hv_
  rw [a1_, a3_, a4_]
  show Wq MX11_back 33 [some (.ref 0), some (.int (nI k))] [] I1 r J _
  refine x_aload_n (q := 34) dX11_back_33 rfl rfl ?_
  refine q_gr (K := 5) (b := 58) (q := 37) dX11_back_34 rfl cl_11 (by decide) tw_572 rfl rfl rfl ?_
  refine q_gi (K := 2) (q := 40) dX11_back_37 rfl cl_1 (by decide) tw_431 rfl rfl ?_
  refine q_iret dX11_back_40 rfl ?_
  rw [f1.2.1]
  exact ⟨rfl, f1, rfl, rfl⟩
set_option maxRecDepth 100000 in
theorem c_Xback_0 {k : Nat} (hk : k < 3) {I : MI} (h1 : I 99 k = 0) (r : MR) (J : MJ) : Cq yX11_back MX11_back [.ref 0, .int (nI k)] I r J (Rt (some (.int (-1))) I r J) := by
  refine cq_of [some (.ref 0), some (.int (nI k))] 0 (by decide +kernel) rfl rfl (Nat.le_of_ble_eq_true rfl) rfl ?_
  refine x_iload_n (q := 1) dX11_back_0 rfl rfl ?_
  refine x_if_lt (t := 18) (q := 4) dX11_back_1 (by decide) rfl (fun c1 => absurd c1 (nI_pos (by omega))) (fun c1 => ?_)
  refine x_iload_n (q := 5) dX11_back_4 rfl rfl ?_
  refine x_iconst (3) (q := 6) dX11_back_5 rfl (by decide) ?_
  refine x_icmp_ge (t := 18) (q := 9) dX11_back_6 (by decide) rfl (fun c6 => absurd c6 (nI_ge (b := 3) (by omega) (by decide))) (fun c6 => ?_)
  refine x_aload_n (q := 10) dX11_back_9 rfl rfl ?_
  refine q_gr (K := 13) (b := 99) (q := 13) dX11_back_10 rfl cl_11 (by decide) tw_580 rfl rfl rfl ?_
  refine x_iload_n (q := 14) dX11_back_13 rfl rfl ?_
  refine q_zald (q := 15) dX11_back_14 rfl rfl (vp_in_nI (by omega) (by decide)) ?_
  refine x_if_ne (t := 20) (q := 18) dX11_back_15 (by decide) rfl (fun c15 => absurd c15 (fun q => q (by rw [nI_clamp (by omega)]; exact h1))) (fun c15 => ?_)
  refine x_iconst (-1) (q := 19) dX11_back_18 rfl (by decide) ?_
  refine q_iret dX11_back_19 rfl ?_
  exact ⟨rfl, rfl, rfl, rfl⟩
set_option maxRecDepth 100000 in
theorem c_Xback_b {x : Int32} (hno : ¬ ∃ k, k < 3 ∧ x = nI k) (I : MI) (r : MR) (J : MJ) : Cq yX11_back MX11_back [.ref 0, .int x] I r J (Rt (some (.int (-1))) I r J) := by
  refine cq_of [some (.ref 0), some (.int x)] 0 (by decide +kernel) rfl rfl (Nat.le_of_ble_eq_true rfl) rfl ?_
  refine x_iload_n (q := 1) dX11_back_0 rfl rfl ?_
  refine x_if_lt (t := 18) (q := 4) dX11_back_1 (by decide) rfl (fun c1 => ?_) (fun c1 => ?_)
  · refine x_iconst (-1) (q := 19) dX11_back_18 rfl (by decide) ?_
    refine q_iret dX11_back_19 rfl ?_
    exact ⟨rfl, rfl, rfl, rfl⟩
  · refine x_iload_n (q := 5) dX11_back_4 rfl rfl ?_
    refine x_iconst (3) (q := 6) dX11_back_5 rfl (by decide) ?_
    refine x_icmp_ge (t := 18) (q := 9) dX11_back_6 (by decide) rfl (fun c6 => ?_) (fun c6 => ?_)
    · refine x_iconst (-1) (q := 19) dX11_back_18 rfl (by decide) ?_
      refine q_iret dX11_back_19 rfl ?_
      exact ⟨rfl, rfl, rfl, rfl⟩
    · exfalso
      rcases pk_ix x (n := 3) (by omega) with q | q | q
      · exact c1 q
      · exact c6 q
      · exact hno q
set_option maxRecDepth 100000 in
theorem t_Mback {k : Nat} (hk : k < 3) (I : MI) (r : MR) (J : MJ) (x : Option Value) : Wq MX12_back 80 [some (.ref 100), some (.int (nI k)), x] [] I r J (Rt (some (.int (I 145 (3 * k)))) (upI (upI (upI I 100 55 (I 145 (3 * k))) 100 56 (I 145 (3 * k + 1))) 100 57 (I 145 (3 * k + 2))) r J) := by
  refine x_aload_n (q := 81) dX12_back_80 rfl rfl ?_
  refine x_aload_n (q := 82) dX12_back_81 rfl rfl ?_
  refine q_gr (K := 78) (b := 145) (q := 85) dX12_back_82 rfl cl_12 (by decide) tw_1160 rfl rfl rfl ?_
  refine x_iconst (3) (q := 86) dX12_back_85 rfl (by decide) ?_
  refine x_iload_n (q := 87) dX12_back_86 rfl rfl ?_
  refine x_imul (q := 88) dX12_back_87 rfl ?_
  refine q_iald (q := 89) dX12_back_88 rfl rfl (by rw [nI3]; exact vp_in_nI (by omega) (by decide)) ?_
  refine q_pi (K := 55) (q := 92) dX12_back_89 rfl cl_12 (by decide) tw_1137 rfl rfl rfl rfl (fun I1 eI1 => ?_)
  refine x_aload_n (q := 93) dX12_back_92 rfl rfl ?_
  refine x_aload_n (q := 94) dX12_back_93 rfl rfl ?_
  refine q_gr (K := 78) (b := 145) (q := 97) dX12_back_94 rfl cl_12 (by decide) tw_1160 rfl rfl rfl ?_
  refine x_iconst (3) (q := 98) dX12_back_97 rfl (by decide) ?_
  refine x_iload_n (q := 99) dX12_back_98 rfl rfl ?_
  refine x_imul (q := 100) dX12_back_99 rfl ?_
  refine x_iconst (1) (q := 101) dX12_back_100 rfl (by decide) ?_
  refine x_iadd (q := 102) dX12_back_101 rfl ?_
  refine q_iald (q := 103) dX12_back_102 rfl rfl (by rw [nI3, nI_p1]; exact vp_in_nI (by omega) (by decide)) ?_
  refine q_pi (K := 56) (q := 106) dX12_back_103 rfl cl_12 (by decide) tw_1138 rfl rfl rfl rfl (fun I2 eI2 => ?_)
  refine x_aload_n (q := 107) dX12_back_106 rfl rfl ?_
  refine x_aload_n (q := 108) dX12_back_107 rfl rfl ?_
  refine q_gr (K := 78) (b := 145) (q := 111) dX12_back_108 rfl cl_12 (by decide) tw_1160 rfl rfl rfl ?_
  refine x_iconst (3) (q := 112) dX12_back_111 rfl (by decide) ?_
  refine x_iload_n (q := 113) dX12_back_112 rfl rfl ?_
  refine x_imul (q := 114) dX12_back_113 rfl ?_
  refine x_iconst (2) (q := 115) dX12_back_114 rfl (by decide) ?_
  refine x_iadd (q := 116) dX12_back_115 rfl ?_
  refine q_iald (q := 117) dX12_back_116 rfl rfl (by rw [nI3, nI_p2]; exact vp_in_nI (by omega) (by decide)) ?_
  refine q_pi (K := 57) (q := 120) dX12_back_117 rfl cl_12 (by decide) tw_1139 rfl rfl rfl rfl (fun I3 eI3 => ?_)
  refine x_aload_n (q := 121) dX12_back_120 rfl rfl ?_
  refine q_gi (K := 55) (q := 124) dX12_back_121 rfl cl_12 (by decide) tw_1137 rfl rfl ?_
  refine q_iret dX12_back_124 rfl ?_
  rw [nI3, nI_clamp (by omega)] at eI1
  rw [nI3, nI_p1, nI_clamp (by omega)] at eI2
  rw [nI3, nI_p2, nI_clamp (by omega)] at eI3
  have g1 : ∀ K, I1 145 K = I 145 K := fun K => by rw [eI1, upcj (by decide)]
  have g2 : ∀ K, I2 145 K = I 145 K := fun K => by rw [eI2, upcj (by decide), g1]
  rw [eI3, g2, eI2, g1, eI1, ups (by decide), ups (by decide), upq]
  exact ⟨rfl, rfl, rfl, rfl⟩
set_option maxRecDepth 100000 in
theorem l_Mback2 {k : Nat} (hk : k < 3) (I : MI) (r : MR) (J : MJ) : ∀ (f : Nat) (i : Nat) (_ : i + f = 32), Wq MX12_back 51 [some (.ref 100), some (.int (nI k)), some (.int (nI i))] [] (cpI I 144 (32 * k) 127 0 i) r J (Rt (some (.int (I 145 (3 * k)))) (upI (upI (upI (cpI I 144 (32 * k) 127 0 32) 100 55 (I 145 (3 * k))) 100 56 (I 145 (3 * k + 1))) 100 57 (I 145 (3 * k + 2))) r J) := by
  intro f
  induction f with
  | zero =>
    intro i hik
    refine x_iload_n (q := 52) dX12_back_51 rfl rfl ?_
    refine x_bipush (32) (q := 54) dX12_back_52 rfl (by decide) ?_
    refine x_icmp_ge (t := 80) (q := 57) dX12_back_54 (by decide) rfl (fun c54 => ?_) (fun c54 => absurd c54 (fun q => q (nI_le (a := 32) (b := i) (by omega) (by omega))))
    have ei : i = 32 := by omega
    subst ei
    exact t_Mback hk _ r J _
  | succ f ih =>
    intro i hik
    refine x_iload_n (q := 52) dX12_back_51 rfl rfl ?_
    refine x_bipush (32) (q := 54) dX12_back_52 rfl (by decide) ?_
    refine x_icmp_ge (t := 80) (q := 57) dX12_back_54 (by decide) rfl (fun c54 => absurd c54 (nI_ge (b := 32) (by omega) (by decide))) (fun c54 => ?_)
    refine x_aload_n (q := 58) dX12_back_57 rfl rfl ?_
    refine q_gr (K := 54) (b := 127) (q := 61) dX12_back_58 rfl cl_12 (by decide) tw_1136 rfl rfl rfl ?_
    refine x_iload_n (q := 62) dX12_back_61 rfl rfl ?_
    refine x_aload_n (q := 63) dX12_back_62 rfl rfl ?_
    refine q_gr (K := 77) (b := 144) (q := 66) dX12_back_63 rfl cl_12 (by decide) tw_1159 rfl rfl rfl ?_
    refine x_bipush (32) (q := 68) dX12_back_66 rfl (by decide) ?_
    refine x_iload_n (q := 69) dX12_back_68 rfl rfl ?_
    refine x_imul (q := 70) dX12_back_69 rfl ?_
    refine x_iload_n (q := 71) dX12_back_70 rfl rfl ?_
    refine x_iadd (q := 72) dX12_back_71 rfl ?_
    refine q_iald (q := 73) dX12_back_72 rfl rfl (by rw [nI32, nI_add]; exact vp_in_nI (by omega) (by decide)) ?_
    refine q_iast (q := 74) dX12_back_73 rfl rfl (vp_in_nI (by omega) (by decide)) (fun I1 eI1 => ?_)
    obtain ⟨v2, ev2⟩ : ∃ y : Int32, y = (nI i) + 1 := ⟨_, rfl⟩
    refine x_iinc (v := v2) (L2 := [some (.ref 100), some (.int (nI k)), some (.int v2)]) (q := 77) dX12_back_74 rfl (by decide) rfl rfl (by rw [ev2]; rfl) rfl ?_
    refine x_goto (t := 51) dX12_back_77 (by decide) ?_
    rw [nI32, nI_add, nI_clamp (by omega), nI_clamp (by omega)] at eI1
    have q9 := cpI_s (I := I) (a0 := 144) (sp := 32 * k) (a := 127) (dp := 0) (n := i) (by decide)
    rw [Nat.zero_add] at q9
    rw [q9] at eI1
    rw [eI1, show v2 = nI (i + 1) by rw [ev2, nI_p1]]
    exact ih (i + 1) (by omega)
set_option maxRecDepth 100000 in
theorem l_Mback1 {k : Nat} (hk : k < 3) (I : MI) (r : MR) (J : MJ) : ∀ (f : Nat) (i : Nat) (_ : i + f = 40), Wq MX12_back 20 [some (.ref 100), some (.int (nI k)), some (.int (nI i))] [] (cpI I 143 (40 * k) 126 0 i) r J (Rt (some (.int (I 145 (3 * k)))) (upI (upI (upI (cpI (cpI I 143 (40 * k) 126 0 40) 144 (32 * k) 127 0 32) 100 55 (I 145 (3 * k))) 100 56 (I 145 (3 * k + 1))) 100 57 (I 145 (3 * k + 2))) r J) := by
  intro f
  induction f with
  | zero =>
    intro i hik
    refine x_iload_n (q := 21) dX12_back_20 rfl rfl ?_
    refine x_bipush (40) (q := 23) dX12_back_21 rfl (by decide) ?_
    refine x_icmp_ge (t := 49) (q := 26) dX12_back_23 (by decide) rfl (fun c23 => ?_) (fun c23 => absurd c23 (fun q => q (nI_le (a := 40) (b := i) (by omega) (by omega))))
    have ei : i = 40 := by omega
    subst ei
    refine x_iconst (0) (q := 50) dX12_back_49 rfl (by decide) ?_
    refine x_istore_n (L2 := [some (.ref 100), some (.int (nI k)), some (.int 0)]) (q := 51) dX12_back_50 rfl (by decide) rfl rfl ?_
    have q := l_Mback2 hk (cpI I 143 (40 * k) 126 0 40) r J 32 0 rfl
    rw [cpI_0] at q
    exact q
  | succ f ih =>
    intro i hik
    refine x_iload_n (q := 21) dX12_back_20 rfl rfl ?_
    refine x_bipush (40) (q := 23) dX12_back_21 rfl (by decide) ?_
    refine x_icmp_ge (t := 49) (q := 26) dX12_back_23 (by decide) rfl (fun c23 => absurd c23 (nI_ge (b := 40) (by omega) (by decide))) (fun c23 => ?_)
    refine x_aload_n (q := 27) dX12_back_26 rfl rfl ?_
    refine q_gr (K := 53) (b := 126) (q := 30) dX12_back_27 rfl cl_12 (by decide) tw_1135 rfl rfl rfl ?_
    refine x_iload_n (q := 31) dX12_back_30 rfl rfl ?_
    refine x_aload_n (q := 32) dX12_back_31 rfl rfl ?_
    refine q_gr (K := 76) (b := 143) (q := 35) dX12_back_32 rfl cl_12 (by decide) tw_1158 rfl rfl rfl ?_
    refine x_bipush (40) (q := 37) dX12_back_35 rfl (by decide) ?_
    refine x_iload_n (q := 38) dX12_back_37 rfl rfl ?_
    refine x_imul (q := 39) dX12_back_38 rfl ?_
    refine x_iload_n (q := 40) dX12_back_39 rfl rfl ?_
    refine x_iadd (q := 41) dX12_back_40 rfl ?_
    refine q_iald (q := 42) dX12_back_41 rfl rfl (by rw [nI40, nI_add]; exact vp_in_nI (by omega) (by decide)) ?_
    refine q_iast (q := 43) dX12_back_42 rfl rfl (vp_in_nI (by omega) (by decide)) (fun I1 eI1 => ?_)
    obtain ⟨v2, ev2⟩ : ∃ y : Int32, y = (nI i) + 1 := ⟨_, rfl⟩
    refine x_iinc (v := v2) (L2 := [some (.ref 100), some (.int (nI k)), some (.int v2)]) (q := 46) dX12_back_43 rfl (by decide) rfl rfl (by rw [ev2]; rfl) rfl ?_
    refine x_goto (t := 20) dX12_back_46 (by decide) ?_
    rw [nI40, nI_add, nI_clamp (by omega), nI_clamp (by omega)] at eI1
    have q9 := cpI_s (I := I) (a0 := 143) (sp := 40 * k) (a := 126) (dp := 0) (n := i) (by decide)
    rw [Nat.zero_add] at q9
    rw [q9] at eI1
    rw [eI1, show v2 = nI (i + 1) by rw [ev2, nI_p1]]
    exact ih (i + 1) (by omega)
set_option maxRecDepth 100000 in
theorem c_Mback_g {k : Nat} (hk : k < 3) {I : MI} (h1 : I 142 k = 1) (r : MR) (J : MJ) : Cq yX12_back MX12_back [.ref 100, .int (nI k)] I r J (Rt (some (.int (I 145 (3 * k)))) (upI (upI (upI (cpI (cpI I 143 (40 * k) 126 0 40) 144 (32 * k) 127 0 32) 100 55 (I 145 (3 * k))) 100 56 (I 145 (3 * k + 1))) 100 57 (I 145 (3 * k + 2))) r J) := by
  refine cq_of [some (.ref 100), some (.int (nI k)), none] 1 (by decide +kernel) rfl rfl (Nat.le_of_ble_eq_true rfl) rfl ?_
  refine x_iload_n (q := 1) dX12_back_0 rfl rfl ?_
  refine q_callS (As := [.int (nI k)]) (rest := []) (q := 4) dX12_back_1 rfl okX12_isBox tw_1638 (c_isBox_g hk I r J) rfl rfl (Nat.le_of_ble_eq_true rfl) ⟨by decide, by decide⟩ ⟨rfl, rfl⟩ (fun rv_ I_ r_ J_ hv_ => ?_)
  obtain ⟨a1_, a2_, a3_, a4_⟩ := hv_
  rw [a1_, a2_, a3_, a4_]
  show Wq MX12_back 4 [some (.ref 100), some (.int (nI k)), none] [.int 1] I r J _
  refine x_if_eq (t := 16) (q := 7) dX12_back_4 (by decide) rfl (fun c4 => absurd c4 ((by decide))) (fun c4 => ?_)
  refine x_aload_n (q := 8) dX12_back_7 rfl rfl ?_
  refine q_gr (K := 75) (b := 142) (q := 11) dX12_back_8 rfl cl_12 (by decide) tw_1157 rfl rfl rfl ?_
  refine x_iload_n (q := 12) dX12_back_11 rfl rfl ?_
  refine q_zald (q := 13) dX12_back_12 rfl rfl (vp_in_nI (by omega) (by decide)) ?_
  refine x_if_ne (t := 18) (q := 16) dX12_back_13 (by decide) rfl (fun c13 => ?_) (fun c13 => absurd c13 (by rw [nI_clamp (by omega), h1]; decide))
  refine x_iconst (0) (q := 19) dX12_back_18 rfl (by decide) ?_
  refine x_istore_n (L2 := [some (.ref 100), some (.int (nI k)), some (.int 0)]) (q := 20) dX12_back_19 rfl (by decide) rfl rfl ?_
  have q := l_Mback1 hk I r J 40 0 rfl
  rw [cpI_0] at q
  exact q
set_option maxRecDepth 100000 in
theorem c_Mback_0 {k : Nat} (hk : k < 3) {I : MI} (h1 : I 142 k = 0) (r : MR) (J : MJ) : Cq yX12_back MX12_back [.ref 100, .int (nI k)] I r J (Rt (some (.int (-1))) I r J) := by
  refine cq_of [some (.ref 100), some (.int (nI k)), none] 1 (by decide +kernel) rfl rfl (Nat.le_of_ble_eq_true rfl) rfl ?_
  refine x_iload_n (q := 1) dX12_back_0 rfl rfl ?_
  refine q_callS (As := [.int (nI k)]) (rest := []) (q := 4) dX12_back_1 rfl okX12_isBox tw_1638 (c_isBox_g hk I r J) rfl rfl (Nat.le_of_ble_eq_true rfl) ⟨by decide, by decide⟩ ⟨rfl, rfl⟩ (fun rv_ I_ r_ J_ hv_ => ?_)
  obtain ⟨a1_, a2_, a3_, a4_⟩ := hv_
  rw [a1_, a2_, a3_, a4_]
  show Wq MX12_back 4 [some (.ref 100), some (.int (nI k)), none] [.int 1] I r J _
  refine x_if_eq (t := 16) (q := 7) dX12_back_4 (by decide) rfl (fun c4 => absurd c4 ((by decide))) (fun c4 => ?_)
  refine x_aload_n (q := 8) dX12_back_7 rfl rfl ?_
  refine q_gr (K := 75) (b := 142) (q := 11) dX12_back_8 rfl cl_12 (by decide) tw_1157 rfl rfl rfl ?_
  refine x_iload_n (q := 12) dX12_back_11 rfl rfl ?_
  refine q_zald (q := 13) dX12_back_12 rfl rfl (vp_in_nI (by omega) (by decide)) ?_
  refine x_if_ne (t := 18) (q := 16) dX12_back_13 (by decide) rfl (fun c13 => absurd c13 (fun q => q (by rw [nI_clamp (by omega)]; exact h1))) (fun c13 => ?_)
  refine x_iconst (-1) (q := 17) dX12_back_16 rfl (by decide) ?_
  refine q_iret dX12_back_17 rfl ?_
  exact ⟨rfl, rfl, rfl, rfl⟩
set_option maxRecDepth 100000 in
theorem c_Mback_b {x : Int32} (hno : ¬ ∃ k, k < 3 ∧ x = nI k) (I : MI) (r : MR) (J : MJ) : Cq yX12_back MX12_back [.ref 100, .int x] I r J (Rt (some (.int (-1))) I r J) := by
  refine cq_of [some (.ref 100), some (.int x), none] 1 (by decide +kernel) rfl rfl (Nat.le_of_ble_eq_true rfl) rfl ?_
  refine x_iload_n (q := 1) dX12_back_0 rfl rfl ?_
  refine q_callS (As := [.int x]) (rest := []) (q := 4) dX12_back_1 rfl okX12_isBox tw_1638 (c_isBox_b hno I r J) rfl rfl (Nat.le_of_ble_eq_true rfl) ⟨by decide, by decide⟩ ⟨rfl, rfl⟩ (fun rv_ I_ r_ J_ hv_ => ?_)
  obtain ⟨a1_, a2_, a3_, a4_⟩ := hv_
  rw [a1_, a2_, a3_, a4_]
  show Wq MX12_back 4 [some (.ref 100), some (.int x), none] [.int 0] I r J _
  refine x_if_eq (t := 16) (q := 7) dX12_back_4 (by decide) rfl (fun c4 => ?_) (fun c4 => absurd c4 ((by decide)))
  refine x_iconst (-1) (q := 17) dX12_back_16 rfl (by decide) ?_
  refine q_iret dX12_back_17 rfl ?_
  exact ⟨rfl, rfl, rfl, rfl⟩
theorem op_back (x : Int32) : OpOk yX11_back MX11_back yX12_back MX12_back [.int x] := by
  intro I r J hrel
  have hre2 := hrel
  obtain ⟨b, yn, wn, hn, sn, st, hr, hl, hR, hJ⟩ := hrel
  have hb := (refs_L hr).2
  have h8 : yn ≤ 8 := hl.1.2.2.1
  by_cases h1 : ∃ k, k < 3 ∧ x = nI k
  · obtain ⟨k, hk, rfl⟩ := h1
    obtain ⟨p1, p2, p3⟩ := hl.2.2.2.2.2.2 k hk
    rcases p2 with p2 | p2
    · exact op_put (c_Xback_0 hk p2 r J) (c_Mback_0 hk (by rw [p1]; exact p2) r J) hre2
    · obtain ⟨s', f1, f2, f3, f4, f5, f6, f7, f8⟩ := p3 p2
      refine op_of (res := I (96 + k) 72) (c_Xback_g hk p2 r J) (fun v I1 r1 J1 hp => ?_)
      obtain ⟨e1, ⟨t1, t2, t3, t4, t5⟩, e3, e4⟩ := hp
      subst e3
      subst e4
      refine ⟨e1, cq_mono (fun v2 I2 r2 J2 hq => ?_) (c_Mback_g hk (by rw [t5 142 (by omega) (by omega), p1]; exact p2) _ _)⟩
      obtain ⟨q1, q2, q3, q4⟩ := hq
      rw [t5 145 (by omega) (by omega), f3, ← f2] at q1
      refine ⟨q1, ?_⟩
      rw [q3, q4]
      rw [t5 145 (by omega) (by omega)] at q2
      have c0 : ∀ c, ¬ c = 100 → ¬ c = 126 → ¬ c = 127 → I2 c = I1 c := fun c w1 w2 w3 => by rw [q2, upc w1, upc w1, upc w1, cpI_o w3, cpI_o w2]
      have fr : ∀ c, ¬ (60 ≤ c ∧ c < 76) → ¬ c = 58 → ¬ c = 100 → ¬ c = 126 → ¬ c = 127 → I2 c = I c := fun c w1 w2 w3 w4 w5 => by rw [c0 c w3 w4 w5, t5 c w1 w2]
      have g0 : ∀ j, ¬ (55 ≤ j ∧ j ≤ 57) → I2 100 j = I 100 j := fun j w => by rw [q2, ups (by omega), ups (by omega), ups (by omega), cpI_o (by decide), cpI_o (by decide), t5 100 (by omega) (by omega)]
      refine ⟨b, yn, wn, hn, sn, s', hr, ?_, ?_, hJ⟩
      · refine RelL_d (fun c w1 w2 => fr c (by unfold regL regM at w2; omega) (by unfold regL regM at w2; omega) w1 (by unfold regL regM at w2; omega) (by unfold regL regM at w2; omega)) (by rw [fr 88 (by omega) (by omega) (by omega) (by omega) (by omega)]) (fun j hj => g0 j (by omega)) hb ?_ hl
        have v58 : ∀ j, I2 58 j = I1 58 j := fun j => by rw [c0 58 (by decide) (by decide) (by decide)]
        refine ⟨?_, ?_, f1, ?_, ?_, ?_, ?_, fun y hy => ?_⟩
        · rw [v58, t2]
          exact f2
        · rw [q2, ups (by decide), ups (by decide), upq]
          exact f3
        · rw [v58, t3, q2, ups (by decide), upq]
          exact f4
        · rw [v58, t3]
          exact f5
        · rw [v58, t4, q2, upq]
          exact f6
        · rw [v58, t4]
          exact f7
        · have h5 := (la5 hl.1 hy).2
          have el : laN I2 b y = laN I b y := laN_c (fun c w => fr c (by unfold regL at w; omega) (by unfold regL at w; omega) (by unfold regL at w; omega) (by unfold regL at w; omega) (by unfold regL at w; omega)) (by omega)
          have vx : ∀ j, j < 9 → gGet I2 (60 + 2 * y) j = bxX I k y j := fun j hj => by
            have e : gGet I2 (60 + 2 * y) = gGet I1 (60 + 2 * y) := by
              unfold gGet
              rw [c0 _ (by omega) (by omega) (by omega), c0 _ (by omega) (by omega) (by omega)]
            rw [e, t1 y (by omega) j hj]
            rfl
          have vm : ∀ j, j < 9 → yGet I2 y j = bxM I k y j := fun j hj => by
            unfold bxM yGet
            by_cases hj5 : j < 5
            · rw [if_pos hj5, if_pos hj5, q2, upcj (by decide), upcj (by decide), upcj (by decide), cpI_o (by decide), cpI_i (by omega) (by omega), t5 143 (by omega) (by omega), Nat.sub_zero]
            · rw [if_neg hj5, if_neg hj5, q2, upcj (by decide), upcj (by decide), upcj (by decide), cpI_i (by omega) (by omega), cpI_o (by decide), t5 144 (by omega) (by omega), Nat.sub_zero]
          obtain ⟨g1, g2, g3⟩ := f8 y hy
          rw [el, vx 8 (by decide), v58, t4]
          exact ⟨GE_v h5 vx vm g1, GB_v h5 vx g2, g3⟩
      · refine RelR_c ?_ ?_ ?_ ?_ ?_ ?_ ?_ ?_ (fun j hj => g0 j (by omega)) hR <;> rw [fr _ (by omega) (by omega) (by omega) (by omega) (by omega)]
  · exact op_put (c_Xback_b h1 I r J) (c_Mback_b h1 I r J) hre2
