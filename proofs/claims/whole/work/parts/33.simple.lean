theorem RelL_d {I I' : MI} {b yn wn hn sn st st' : Nat} (hc : ∀ c, ¬ c = 100 → (regL b c ∨ regM c ∨ (89 ≤ c ∧ c ≤ 91) ∨ (134 ≤ c ∧ c ≤ 140) ∨ (96 ≤ c ∧ c ≤ 99) ∨ (142 ≤ c ∧ c ≤ 145)) → I' c = I c) (h88 : I' 88 3 = I 88 3) (h100 : ∀ j, (41 ≤ j ∧ j ≤ 47) ∨ j = 72 → I' 100 j = I 100 j) (hb : b ≤ 28) (hd : RDay I' b yn st') (hl : RelL I b yn wn hn sn st) : RelL I' b yn wn hn sn st' := by
  obtain ⟨l1, l2, l3, l4, l5, l6, l7⟩ := hl
  have h8 := l1.2.2.1
  have hL : ∀ c, regL b c → I' c = I c := fun c q => hc c (by have := q.2; omega) (Or.inl q)
  have hM : ∀ c, regM c → I' c = I c := fun c q => hc c (by have := q.1; omega) (Or.inr (Or.inl q))
  exact ⟨LOk_c hL l1, LOk2_c hL l2, RLd_c hL hM (h100 41 (by omega)) (h100 43 (by omega)) h8 l3, RLe_c hL hM (fun j q1 q2 => h100 j (by omega)) l4, hd, RGlass_c hL (fun c q1 q2 => hc c (by omega) (by omega)) (fun c q1 q2 => hc c (by omega) (by omega)) h88 (h100 72 (by omega)) h8 l6, RBox_c hL (fun c q1 q2 => hc c (by omega) (by omega)) (fun c q1 q2 => hc c (by omega) (by omega)) h8 l7⟩
def fltF (a c w : Int32) : Int32 := if w = 0 then a else if w = 1 then c else -1
set_option maxRecDepth 100000 in
theorem c_Xfault (I : MI) (r : MR) (J : MJ) (w : Int32) : Cq yX11_fault MX11_fault [.ref 0, .int w] I r J (Rt (some (.int (fltF (I 54 2) (I 54 3) w))) I r J) := by
  refine cq_of [some (.ref 0), some (.int w)] 0 (by decide +kernel) rfl rfl (Nat.le_of_ble_eq_true rfl) rfl ?_
  refine x_iload_n (q := 1) dX11_fault_0 rfl rfl ?_
  refine x_if_ne (t := 12) (q := 4) dX11_fault_1 (by decide) rfl (fun c1 => ?_) (fun c1 => ?_)
  · refine x_iload_n (q := 13) dX11_fault_12 rfl rfl ?_
    refine x_iconst (1) (q := 14) dX11_fault_13 rfl (by decide) ?_
    refine x_icmp_ne (t := 27) (q := 17) dX11_fault_14 (by decide) rfl (fun c14 => ?_) (fun c14 => ?_)
    · refine x_iconst (-1) (q := 28) dX11_fault_27 rfl (by decide) ?_
      refine q_iret dX11_fault_28 rfl ?_
      refine ⟨?_, rfl, rfl, rfl⟩
      simp [fltF, *]
    · refine x_aload_n (q := 18) dX11_fault_17 rfl rfl ?_
      refine q_gr (K := 4) (b := 54) (q := 21) dX11_fault_18 rfl cl_11 (by decide) tw_571 rfl rfl rfl ?_
      refine q_gi (K := 3) (q := 24) dX11_fault_21 rfl cl_8 (by decide) tw_370 rfl rfl ?_
      refine x_goto (t := 28) dX11_fault_24 (by decide) ?_
      refine q_iret dX11_fault_28 rfl ?_
      refine ⟨?_, rfl, rfl, rfl⟩
      simp [fltF, *]
  · refine x_aload_n (q := 5) dX11_fault_4 rfl rfl ?_
    refine q_gr (K := 4) (b := 54) (q := 8) dX11_fault_5 rfl cl_11 (by decide) tw_571 rfl rfl rfl ?_
    refine q_gi (K := 2) (q := 11) dX11_fault_8 rfl cl_8 (by decide) tw_368 rfl rfl ?_
    refine q_iret dX11_fault_11 rfl ?_
    refine ⟨?_, rfl, rfl, rfl⟩
    simp [fltF, *]
set_option maxRecDepth 100000 in
theorem c_Mfault (I : MI) (r : MR) (J : MJ) (w : Int32) : Cq yX12_fault MX12_fault [.ref 100, .int w] I r J (Rt (some (.int (fltF (I 100 2) (I 100 3) w))) I r J) := by
  refine cq_of [some (.ref 100), some (.int w)] 0 (by decide +kernel) rfl rfl (Nat.le_of_ble_eq_true rfl) rfl ?_
  refine x_iload_n (q := 1) dX12_fault_0 rfl rfl ?_
  refine x_if_ne (t := 11) (q := 4) dX12_fault_1 (by decide) rfl (fun c1 => ?_) (fun c1 => ?_)
  · refine x_iload_n (q := 12) dX12_fault_11 rfl rfl ?_
    refine x_iconst (1) (q := 13) dX12_fault_12 rfl (by decide) ?_
    refine x_icmp_ne (t := 23) (q := 16) dX12_fault_13 (by decide) rfl (fun c13 => ?_) (fun c13 => ?_)
    · refine x_iconst (-1) (q := 24) dX12_fault_23 rfl (by decide) ?_
      refine q_iret dX12_fault_24 rfl ?_
      refine ⟨?_, rfl, rfl, rfl⟩
      simp [fltF, *]
    · refine x_aload_n (q := 17) dX12_fault_16 rfl rfl ?_
      refine q_gi (K := 3) (q := 20) dX12_fault_17 rfl cl_12 (by decide) tw_1085 rfl rfl ?_
      refine x_goto (t := 24) dX12_fault_20 (by decide) ?_
      refine q_iret dX12_fault_24 rfl ?_
      refine ⟨?_, rfl, rfl, rfl⟩
      simp [fltF, *]
  · refine x_aload_n (q := 5) dX12_fault_4 rfl rfl ?_
    refine q_gi (K := 2) (q := 8) dX12_fault_5 rfl cl_12 (by decide) tw_1084 rfl rfl ?_
    refine x_goto (t := 24) dX12_fault_8 (by decide) ?_
    refine q_iret dX12_fault_24 rfl ?_
    refine ⟨?_, rfl, rfl, rfl⟩
    simp [fltF, *]
theorem op_fault (w : Int32) : OpOk yX11_fault MX11_fault yX12_fault MX12_fault [.int w] := by
  intro I r J hrel
  have h2 := hrel
  obtain ⟨b, yn, wn, hn, sn, st, hr, hl, hR, hJ⟩ := hrel
  refine op_put (c_Xfault I r J w) ?_ h2
  have k := c_Mfault I r J w
  rw [hR.2.1.1, hR.2.1.2] at k
  exact k
set_option maxRecDepth 100000 in
theorem c_Xshift_g {I : MI} (r : MR) (J : MJ) {sh : Int32} (hs : (-50 : Int32) ≤ sh ∧ sh ≤ 50) : Cq yX11_shift MX11_shift [.ref 0, .int sh] I r J (Rt (some (.int (I 58 3))) (upI I 58 3 sh) r J) := by
  refine cq_of [some (.ref 0), some (.int sh), none] 1 (by decide +kernel) rfl rfl (Nat.le_of_ble_eq_true rfl) rfl ?_
  refine x_iload_n (q := 1) dX11_shift_0 rfl rfl ?_
  refine q_callS (As := [.int sh]) (rest := []) (q := 4) dX11_shift_1 rfl okX11_isShift tw_803 (c_isShift_g I r J hs.1 hs.2) rfl rfl (Nat.le_of_ble_eq_true rfl) ⟨by decide, by decide⟩ ⟨rfl, rfl⟩ (fun rv_ I_ r_ J_ hv_ => ?_)
  obtain ⟨a1_, a2_, a3_, a4_⟩ := hv_
  rw [a1_, a2_, a3_, a4_]
  show Wq MX11_shift 4 [some (.ref 0), some (.int sh), none] [.int 1] I r J _
  refine x_if_ne (t := 10) (q := 7) dX11_shift_4 (by decide) rfl (fun c4 => ?_) (fun c4 => absurd c4 ((by decide)))
  refine x_aload_n (q := 11) dX11_shift_10 rfl rfl ?_
  refine q_gr (K := 5) (b := 58) (q := 14) dX11_shift_11 rfl cl_11 (by decide) tw_572 rfl rfl rfl ?_
  refine q_gi (K := 3) (q := 17) dX11_shift_14 rfl cl_1 (by decide) tw_433 rfl rfl ?_
  refine x_nmi (fun v1 ev1 => ?_)
  refine x_istore_n (L2 := [some (.ref 0), some (.int sh), some (.int v1)]) (q := 18) dX11_shift_17 rfl (by decide) rfl rfl ?_
  refine x_aload_n (q := 19) dX11_shift_18 rfl rfl ?_
  refine q_gr (K := 5) (b := 58) (q := 22) dX11_shift_19 rfl cl_11 (by decide) tw_572 rfl rfl rfl ?_
  refine x_iload_n (q := 23) dX11_shift_22 rfl rfl ?_
  refine q_pi (K := 3) (q := 26) dX11_shift_23 rfl cl_1 (by decide) tw_433 rfl rfl rfl rfl (fun I2 eI2 => ?_)
  refine x_iload_n (q := 27) dX11_shift_26 rfl rfl ?_
  refine q_iret dX11_shift_27 rfl ?_
  rw [ev1]
  exact ⟨rfl, eI2, rfl, rfl⟩
set_option maxRecDepth 100000 in
theorem c_Xshift_b {I : MI} (r : MR) (J : MJ) {sh : Int32} (hno : ¬ ((-50 : Int32) ≤ sh ∧ sh ≤ 50)) : Cq yX11_shift MX11_shift [.ref 0, .int sh] I r J (Rt (some (.int (-1000000))) I r J) := by
  refine cq_of [some (.ref 0), some (.int sh), none] 1 (by decide +kernel) rfl rfl (Nat.le_of_ble_eq_true rfl) rfl ?_
  refine x_iload_n (q := 1) dX11_shift_0 rfl rfl ?_
  refine q_callS (As := [.int sh]) (rest := []) (q := 4) dX11_shift_1 rfl okX11_isShift tw_803 (c_isShift_b I r J hno) rfl rfl (Nat.le_of_ble_eq_true rfl) ⟨by decide, by decide⟩ ⟨rfl, rfl⟩ (fun rv_ I_ r_ J_ hv_ => ?_)
  obtain ⟨a1_, a2_, a3_, a4_⟩ := hv_
  rw [a1_, a2_, a3_, a4_]
  show Wq MX11_shift 4 [some (.ref 0), some (.int sh), none] [.int 0] I r J _
  refine x_if_ne (t := 10) (q := 7) dX11_shift_4 (by decide) rfl (fun c4 => absurd c4 ((by decide))) (fun c4 => ?_)
  refine x_ldc (v := -1000000) (q := 9) dX11_shift_7 rfl tw_806 ?_
  refine q_iret dX11_shift_9 rfl ?_
  exact ⟨rfl, rfl, rfl, rfl⟩
set_option maxRecDepth 100000 in
theorem c_Mshift_g {I : MI} (r : MR) (J : MJ) {sh : Int32} (hs : (-50 : Int32) ≤ sh ∧ sh ≤ 50) : Cq yX12_shift MX12_shift [.ref 100, .int sh] I r J (Rt (some (.int (I 100 56))) (upI I 100 56 sh) r J) := by
  refine cq_of [some (.ref 100), some (.int sh), none] 1 (by decide +kernel) rfl rfl (Nat.le_of_ble_eq_true rfl) rfl ?_
  refine x_iload_n (q := 1) dX12_shift_0 rfl rfl ?_
  refine x_bipush (-50) (q := 3) dX12_shift_1 rfl (by decide) ?_
  refine x_bipush (50) (q := 5) dX12_shift_3 rfl (by decide) ?_
  refine q_callS (As := [.int sh, .int (-50), .int 50]) (rest := []) (q := 8) dX12_shift_5 rfl okX12_isIn tw_1450 (c_isIn_g I r J hs.1 hs.2) rfl rfl (Nat.le_of_ble_eq_true rfl) ⟨by decide, by decide⟩ ⟨rfl, rfl⟩ (fun rv_ I_ r_ J_ hv_ => ?_)
  obtain ⟨a1_, a2_, a3_, a4_⟩ := hv_
  rw [a1_, a2_, a3_, a4_]
  show Wq MX12_shift 8 [some (.ref 100), some (.int sh), none] [.int 1] I r J _
  refine x_if_ne (t := 15) (q := 11) dX12_shift_8 (by decide) rfl (fun c8 => ?_) (fun c8 => absurd c8 ((by decide)))
  refine x_aload_n (q := 16) dX12_shift_15 rfl rfl ?_
  refine q_gi (K := 56) (q := 19) dX12_shift_16 rfl cl_12 (by decide) tw_1138 rfl rfl ?_
  refine x_nmi (fun v1 ev1 => ?_)
  refine x_istore_n (L2 := [some (.ref 100), some (.int sh), some (.int v1)]) (q := 20) dX12_shift_19 rfl (by decide) rfl rfl ?_
  refine x_aload_n (q := 21) dX12_shift_20 rfl rfl ?_
  refine x_iload_n (q := 22) dX12_shift_21 rfl rfl ?_
  refine q_pi (K := 56) (q := 25) dX12_shift_22 rfl cl_12 (by decide) tw_1138 rfl rfl rfl rfl (fun I2 eI2 => ?_)
  refine x_iload_n (q := 26) dX12_shift_25 rfl rfl ?_
  refine q_iret dX12_shift_26 rfl ?_
  rw [ev1]
  exact ⟨rfl, eI2, rfl, rfl⟩
set_option maxRecDepth 100000 in
theorem c_Mshift_b {I : MI} (r : MR) (J : MJ) {sh : Int32} (hno : ¬ ((-50 : Int32) ≤ sh ∧ sh ≤ 50)) : Cq yX12_shift MX12_shift [.ref 100, .int sh] I r J (Rt (some (.int (-1000000))) I r J) := by
  refine cq_of [some (.ref 100), some (.int sh), none] 1 (by decide +kernel) rfl rfl (Nat.le_of_ble_eq_true rfl) rfl ?_
  refine x_iload_n (q := 1) dX12_shift_0 rfl rfl ?_
  refine x_bipush (-50) (q := 3) dX12_shift_1 rfl (by decide) ?_
  refine x_bipush (50) (q := 5) dX12_shift_3 rfl (by decide) ?_
  refine q_callS (As := [.int sh, .int (-50), .int 50]) (rest := []) (q := 8) dX12_shift_5 rfl okX12_isIn tw_1450 (c_isIn_b I r J hno) rfl rfl (Nat.le_of_ble_eq_true rfl) ⟨by decide, by decide⟩ ⟨rfl, rfl⟩ (fun rv_ I_ r_ J_ hv_ => ?_)
  obtain ⟨a1_, a2_, a3_, a4_⟩ := hv_
  rw [a1_, a2_, a3_, a4_]
  show Wq MX12_shift 8 [some (.ref 100), some (.int sh), none] [.int 0] I r J _
  refine x_if_ne (t := 15) (q := 11) dX12_shift_8 (by decide) rfl (fun c8 => absurd c8 ((by decide))) (fun c8 => ?_)
  refine x_ldcw (v := -1000000) (q := 14) dX12_shift_11 rfl tw_1480 ?_
  refine q_iret dX12_shift_14 rfl ?_
  exact ⟨rfl, rfl, rfl, rfl⟩
theorem upcj {I : MI} {a K c j : Nat} {x : Int32} (h : c ≠ a) : upI I a K x c j = I c j := by rw [upc h]
theorem op_shift (sh : Int32) : OpOk yX11_shift MX11_shift yX12_shift MX12_shift [.int sh] := by
  intro I r J hrel
  have hre2 := hrel
  obtain ⟨b, yn, wn, hn, sn, st, hr, hl, hR, hJ⟩ := hrel
  have hb := (refs_L hr).2
  by_cases h1 : (-50 : Int32) ≤ sh ∧ sh ≤ 50
  · obtain ⟨d1, d2, d3, d4, d5, d6, d7, d8⟩ := hl.2.2.2.2.1
    refine op_put (I1 := upI I 58 3 sh) (I2 := upI (upI I 58 3 sh) 100 56 sh) (res := I 58 3) (c_Xshift_g r J h1) ?_ ⟨b, yn, wn, hn, sn, st, hr, ?_, ?_, hJ⟩
    · have k := c_Mshift_g (I := upI I 58 3 sh) r J h1
      rw [upcj (by decide), d4] at k
      exact k
    · refine RelL_d (fun c q1 q2 => ?_) ?_ (fun j hj => ?_) hb ?_ hl
      · rw [upc (by omega), upc (by unfold regL regM at q2; omega)]
      · rw [upcj (by decide), upcj (by decide)]
      · rw [ups (by omega), upcj (by decide)]
      · refine ⟨?_, ?_, d3, ?_, ?_, ?_, ?_, fun y hy => ?_⟩
        · rw [upcj (by decide), ups (by decide)]
          exact d1
        · rw [ups (by decide), upcj (by decide)]
          exact d2
        · rw [upq, upcj (by decide), upq]
        · rw [upcj (by decide), upq]
          exact shOk_iff.mpr h1
        · rw [ups (by decide), upcj (by decide), upcj (by decide), ups (by decide)]
          exact d6
        · rw [upcj (by decide), ups (by decide)]
          exact d7
        · have hy8 : y < 8 := by have := hl.1.2.2.1; omega
          have q1 : gGet (upI (upI I 58 3 sh) 100 56 sh) (60 + 2 * y) = gGet I (60 + 2 * y) := by
            unfold gGet
            rw [upc (by omega), upc (by omega), upc (by omega), upc (by omega)]
          have q2 : yGet (upI (upI I 58 3 sh) 100 56 sh) y = yGet I y := by
            unfold yGet
            rw [upc (by decide), upc (by decide), upc (by decide), upc (by decide)]
          have q3 : laN (upI (upI I 58 3 sh) 100 56 sh) b y = laN I b y := laN_c (fun c q => by rw [upc (by have := q.2; omega), upc (by have := q.2; omega)]) hy8
          rw [q1, q2, q3, upcj (by decide), ups (by decide)]
          exact d8 y hy
    · refine RelR_c ?_ ?_ ?_ ?_ ?_ ?_ ?_ ?_ (fun j hj => ?_) hR
      · rw [upcj (by decide), upcj (by decide)]
      · rw [upcj (by decide), upcj (by decide)]
      · rw [upc (by decide), upc (by decide)]
      · rw [upc (by decide), upc (by decide)]
      · rw [upcj (by decide), upcj (by decide)]
      · rw [upc (by decide), upc (by decide)]
      · rw [upc (by decide), upc (by decide)]
      · rw [upc (by decide), upc (by decide)]
      · rw [ups (by omega), upcj (by decide)]
  · exact op_put (c_Xshift_b r J h1) (c_Mshift_b r J h1) hre2
def latOk (t by0 : Int32) : Prop := ¬ by0 < 0 ∧ ¬ 1000 < by0 ∧ t + by0 ≤ 100000
set_option maxRecDepth 100000 in
theorem c_Xlater_g {I : MI} (r : MR) (J : MJ) {x : Int32} (hk : latOk (I 0 11) x) : Cq yX11_later MX11_later [.ref 0, .int x] I r J (Rt (some (.int (I 0 11 + x))) (upI I 0 11 (I 0 11 + x)) r J) := by
  refine cq_of [some (.ref 0), some (.int x)] 0 (by decide +kernel) rfl rfl (Nat.le_of_ble_eq_true rfl) rfl ?_
  refine x_iload_n (q := 1) dX11_later_0 rfl rfl ?_
  refine x_if_lt (t := 23) (q := 4) dX11_later_1 (by decide) rfl (fun c1 => absurd c1 hk.1) (fun c1 => ?_)
  refine x_iload_n (q := 5) dX11_later_4 rfl rfl ?_
  refine x_sipush (1000) (q := 8) dX11_later_5 rfl (by decide) ?_
  refine x_icmp_gt (t := 23) (q := 11) dX11_later_8 (by decide) rfl (fun c8 => absurd c8 hk.2.1) (fun c8 => ?_)
  refine x_aload_n (q := 12) dX11_later_11 rfl rfl ?_
  refine q_gi (K := 11) (q := 15) dX11_later_12 rfl cl_11 (by decide) tw_578 rfl rfl ?_
  refine x_iload_n (q := 16) dX11_later_15 rfl rfl ?_
  refine x_iadd (q := 17) dX11_later_16 rfl ?_
  refine x_ldcw (v := 100000) (q := 20) dX11_later_17 rfl tw_1028 ?_
  refine x_icmp_le (t := 25) (q := 23) dX11_later_20 (by decide) rfl (fun c20 => ?_) (fun c20 => absurd c20 (fun q => q hk.2.2))
  refine x_aload_n (q := 26) dX11_later_25 rfl rfl ?_
  refine x_dup (q := 27) dX11_later_26 rfl rfl ?_
  refine q_gi (K := 11) (q := 30) dX11_later_27 rfl cl_11 (by decide) tw_578 rfl rfl ?_
  refine x_iload_n (q := 31) dX11_later_30 rfl rfl ?_
  refine x_iadd (q := 32) dX11_later_31 rfl ?_
  refine q_pi (K := 11) (q := 35) dX11_later_32 rfl cl_11 (by decide) tw_578 rfl rfl rfl rfl (fun I1 eI1 => ?_)
  refine x_aload_n (q := 36) dX11_later_35 rfl rfl ?_
  refine q_gi (K := 11) (q := 39) dX11_later_36 rfl cl_11 (by decide) tw_578 rfl rfl ?_
  refine q_iret dX11_later_39 rfl ?_
  refine ⟨?_, eI1, rfl, rfl⟩
  rw [eI1, upq]
set_option maxRecDepth 100000 in
theorem c_Xlater_b {I : MI} (r : MR) (J : MJ) {x : Int32} (hno : ¬ latOk (I 0 11) x) : Cq yX11_later MX11_later [.ref 0, .int x] I r J (Rt (some (.int (-1))) I r J) := by
  refine cq_of [some (.ref 0), some (.int x)] 0 (by decide +kernel) rfl rfl (Nat.le_of_ble_eq_true rfl) rfl ?_
  refine x_iload_n (q := 1) dX11_later_0 rfl rfl ?_
  refine x_if_lt (t := 23) (q := 4) dX11_later_1 (by decide) rfl (fun c1 => ?_) (fun c1 => ?_)
  · refine x_iconst (-1) (q := 24) dX11_later_23 rfl (by decide) ?_
    refine q_iret dX11_later_24 rfl ?_
    exact ⟨rfl, rfl, rfl, rfl⟩
  · refine x_iload_n (q := 5) dX11_later_4 rfl rfl ?_
    refine x_sipush (1000) (q := 8) dX11_later_5 rfl (by decide) ?_
    refine x_icmp_gt (t := 23) (q := 11) dX11_later_8 (by decide) rfl (fun c8 => ?_) (fun c8 => ?_)
    · refine x_iconst (-1) (q := 24) dX11_later_23 rfl (by decide) ?_
      refine q_iret dX11_later_24 rfl ?_
      exact ⟨rfl, rfl, rfl, rfl⟩
    · refine x_aload_n (q := 12) dX11_later_11 rfl rfl ?_
      refine q_gi (K := 11) (q := 15) dX11_later_12 rfl cl_11 (by decide) tw_578 rfl rfl ?_
      refine x_iload_n (q := 16) dX11_later_15 rfl rfl ?_
      refine x_iadd (q := 17) dX11_later_16 rfl ?_
      refine x_ldcw (v := 100000) (q := 20) dX11_later_17 rfl tw_1028 ?_
      refine x_icmp_le (t := 25) (q := 23) dX11_later_20 (by decide) rfl (fun c20 => ?_) (fun c20 => ?_)
      · exact absurd ⟨c1, c8, c20⟩ hno
      · refine x_iconst (-1) (q := 24) dX11_later_23 rfl (by decide) ?_
        refine q_iret dX11_later_24 rfl ?_
        exact ⟨rfl, rfl, rfl, rfl⟩
set_option maxRecDepth 100000 in
theorem c_Mlater_g {I : MI} (r : MR) (J : MJ) {x : Int32} (hk : latOk (I 100 73) x) : Cq yX12_later MX12_later [.ref 100, .int x] I r J (Rt (some (.int (I 100 73 + x))) (upI I 100 73 (I 100 73 + x)) r J) := by
  refine cq_of [some (.ref 100), some (.int x)] 0 (by decide +kernel) rfl rfl (Nat.le_of_ble_eq_true rfl) rfl ?_
  refine x_iload_n (q := 1) dX12_later_0 rfl rfl ?_
  refine x_if_lt (t := 23) (q := 4) dX12_later_1 (by decide) rfl (fun c1 => absurd c1 hk.1) (fun c1 => ?_)
  refine x_iload_n (q := 5) dX12_later_4 rfl rfl ?_
  refine x_sipush (1000) (q := 8) dX12_later_5 rfl (by decide) ?_
  refine x_icmp_gt (t := 23) (q := 11) dX12_later_8 (by decide) rfl (fun c8 => absurd c8 hk.2.1) (fun c8 => ?_)
  refine x_aload_n (q := 12) dX12_later_11 rfl rfl ?_
  refine q_gi (K := 73) (q := 15) dX12_later_12 rfl cl_12 (by decide) tw_1155 rfl rfl ?_
  refine x_iload_n (q := 16) dX12_later_15 rfl rfl ?_
  refine x_iadd (q := 17) dX12_later_16 rfl ?_
  refine x_ldcw (v := 100000) (q := 20) dX12_later_17 rfl tw_1624 ?_
  refine x_icmp_le (t := 25) (q := 23) dX12_later_20 (by decide) rfl (fun c20 => ?_) (fun c20 => absurd c20 (fun q => q hk.2.2))
  refine x_aload_n (q := 26) dX12_later_25 rfl rfl ?_
  refine x_dup (q := 27) dX12_later_26 rfl rfl ?_
  refine q_gi (K := 73) (q := 30) dX12_later_27 rfl cl_12 (by decide) tw_1155 rfl rfl ?_
  refine x_iload_n (q := 31) dX12_later_30 rfl rfl ?_
  refine x_iadd (q := 32) dX12_later_31 rfl ?_
  refine q_pi (K := 73) (q := 35) dX12_later_32 rfl cl_12 (by decide) tw_1155 rfl rfl rfl rfl (fun I1 eI1 => ?_)
  refine x_aload_n (q := 36) dX12_later_35 rfl rfl ?_
  refine q_gi (K := 73) (q := 39) dX12_later_36 rfl cl_12 (by decide) tw_1155 rfl rfl ?_
  refine q_iret dX12_later_39 rfl ?_
  refine ⟨?_, eI1, rfl, rfl⟩
  rw [eI1, upq]
set_option maxRecDepth 100000 in
theorem c_Mlater_b {I : MI} (r : MR) (J : MJ) {x : Int32} (hno : ¬ latOk (I 100 73) x) : Cq yX12_later MX12_later [.ref 100, .int x] I r J (Rt (some (.int (-1))) I r J) := by
  refine cq_of [some (.ref 100), some (.int x)] 0 (by decide +kernel) rfl rfl (Nat.le_of_ble_eq_true rfl) rfl ?_
  refine x_iload_n (q := 1) dX12_later_0 rfl rfl ?_
  refine x_if_lt (t := 23) (q := 4) dX12_later_1 (by decide) rfl (fun c1 => ?_) (fun c1 => ?_)
  · refine x_iconst (-1) (q := 24) dX12_later_23 rfl (by decide) ?_
    refine q_iret dX12_later_24 rfl ?_
    exact ⟨rfl, rfl, rfl, rfl⟩
  · refine x_iload_n (q := 5) dX12_later_4 rfl rfl ?_
    refine x_sipush (1000) (q := 8) dX12_later_5 rfl (by decide) ?_
    refine x_icmp_gt (t := 23) (q := 11) dX12_later_8 (by decide) rfl (fun c8 => ?_) (fun c8 => ?_)
    · refine x_iconst (-1) (q := 24) dX12_later_23 rfl (by decide) ?_
      refine q_iret dX12_later_24 rfl ?_
      exact ⟨rfl, rfl, rfl, rfl⟩
    · refine x_aload_n (q := 12) dX12_later_11 rfl rfl ?_
      refine q_gi (K := 73) (q := 15) dX12_later_12 rfl cl_12 (by decide) tw_1155 rfl rfl ?_
      refine x_iload_n (q := 16) dX12_later_15 rfl rfl ?_
      refine x_iadd (q := 17) dX12_later_16 rfl ?_
      refine x_ldcw (v := 100000) (q := 20) dX12_later_17 rfl tw_1624 ?_
      refine x_icmp_le (t := 25) (q := 23) dX12_later_20 (by decide) rfl (fun c20 => ?_) (fun c20 => ?_)
      · exact absurd ⟨c1, c8, c20⟩ hno
      · refine x_iconst (-1) (q := 24) dX12_later_23 rfl (by decide) ?_
        refine q_iret dX12_later_24 rfl ?_
        exact ⟨rfl, rfl, rfl, rfl⟩
theorem op_later (x : Int32) : OpOk yX11_later MX11_later yX12_later MX12_later [.int x] := by
  intro I r J hrel
  have hre2 := hrel
  obtain ⟨b, yn, wn, hn, sn, st, hr, hl, hR, hJ⟩ := hrel
  have hb := (refs_L hr).2
  obtain ⟨r1, r2, ⟨t1, t2⟩, r4⟩ := hR
  by_cases h1 : latOk (I 0 11) x
  · refine op_put (I2 := upI (upI I 0 11 (I 0 11 + x)) 100 73 (I 0 11 + x)) (c_Xlater_g r J h1) ?_ ⟨b, yn, wn, hn, sn, st, hr, RelL_up (offL_100 (by omega)) hb (RelL_up (offL_0 hr) hb hl), ⟨?_, ?_, ⟨?_, ?_⟩, ?_⟩, hJ⟩
    · have k := c_Mlater_g (I := upI I 0 11 (I 0 11 + x)) r J (x := x) (by rw [upcj (by decide), t1]; exact h1)
      rw [upcj (by decide), t1] at k
      exact k
    · unfold RTape at r1 ⊢
      rw [upcj (by decide), ups (by decide), ups (by decide), upcj (by decide), upc (by decide), upc (by decide), upc (by decide), upc (by decide)]
      exact r1
    · unfold RFault at r2 ⊢
      rw [ups (by decide), ups (by decide), upcj (by decide), upcj (by decide), upc (by decide), upc (by decide)]
      exact r2
    · rw [upq, upcj (by decide), upq]
    · rw [upcj (by decide), upq]
      obtain ⟨k1, k2, k3⟩ := h1
      have k1' := Int32.le_iff_toInt_le.mp (Int32.not_lt.mp k1)
      have k2' := Int32.le_iff_toInt_le.mp (Int32.not_lt.mp k2)
      have c1 : (1000 : Int32).toInt = 1000 := by decide
      rw [Int32.toInt_zero] at k1'
      rw [c1] at k2'
      have e : (I 0 11 + x).toInt = (I 0 11).toInt + x.toInt := Kit.i32_add (by have := t2.1; omega) (by have := t2.2; omega)
      have k3' := Int32.le_iff_toInt_le.mp k3
      have c2 : (100000 : Int32).toInt = 100000 := by decide
      rw [c2] at k3'
      exact ⟨by rw [e]; have := t2.1; omega, k3'⟩
    · unfold ROrd at r4 ⊢
      rw [upcj (by decide), ups (by decide), upcj (by decide), upcj (by decide), upc (by decide), upc (by decide), upc (by decide), upc (by decide)]
      exact r4
  · exact op_put (c_Xlater_b r J h1) (c_Mlater_b r J (by rw [t1]; exact h1)) hre2
