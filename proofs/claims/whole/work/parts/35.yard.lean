set_option maxRecDepth 100000 in
theorem c_isLayer_g {I : MI} {b yn wn hn sn st : Nat} {r : MR} (J : MJ) (hr : RefOk r b) (h : RelL I b yn wn hn sn st) {y : Nat} (hy : y < yn) {l : Nat} (hl : l < laN I b y) : Cq yX11_isLayer MX11_isLayer [.ref 0, .int (nI y), .int (nI l)] I r J (Rt (some (.int 1)) I r J) := by
  have hb0 : SH (r 0) = (15, 18) := by rw [hr.1]; exact (refs_L hr).1
  have h8 : yn ≤ 8 := h.1.2.2.1
  have ey : I (r 0) 1 = nI yn := by rw [hr.1]; exact h.1.2.1
  have em : I 100 41 = nI yn := h.2.2.1.1
  have hb28 := (refs_L hr).2
  have hb := (refs_L hr).1
  have hy8 : y < 8 := by omega
  obtain ⟨so, la, q1, q2, q3, q4, q5, q6, q7, q8⟩ := h.1.2.2.2.2.2.1 y hy
  have ela : laN I b y = la := la_of (so := so) q3 q5
  refine cq_of [some (.ref 0), some (.int (nI y)), some (.int (nI l))] 0 (by decide +kernel) rfl rfl (Nat.le_of_ble_eq_true rfl) rfl ?_
  refine x_aload_n (q := 1) dX11_isLayer_0 rfl rfl ?_
  refine x_iload_n (q := 2) dX11_isLayer_1 rfl rfl ?_
  refine q_callV (ci := 11) (N := 14) (T := TX11) (As := [.int (nI y)]) (rest := []) (q := 5) dX11_isLayer_2 rfl okX11_isYard tw_811 rfl rfl (c_isYard_g I r J hb0 ey h8 hy) rfl rfl (Nat.le_of_ble_eq_true rfl) ⟨by decide, by decide⟩ ⟨rfl, rfl⟩ (fun rv_ I_ r_ J_ hv_ => ?_)
  obtain ⟨a1_, a2_, a3_, a4_⟩ := hv_
  rw [a1_, a2_, a3_, a4_]
  show Wq MX11_isLayer 5 [some (.ref 0), some (.int (nI y)), some (.int (nI l))] [.int 1] I r J _
  refine x_if_eq (t := 32) (q := 8) dX11_isLayer_5 (by decide) rfl (fun c5 => absurd c5 ((by decide))) (fun c5 => ?_)
  refine x_iload_n (q := 9) dX11_isLayer_8 rfl rfl ?_
  refine x_if_lt (t := 32) (q := 12) dX11_isLayer_9 (by decide) rfl (fun c9 => absurd c9 (nI_pos (by omega))) (fun c9 => ?_)
  refine x_iload_n (q := 13) dX11_isLayer_12 rfl rfl ?_
  refine x_aload_n (q := 14) dX11_isLayer_13 rfl rfl ?_
  refine q_gr (K := 2) (b := b) (q := 17) dX11_isLayer_14 rfl cl_11 (by decide) tw_569 rfl rfl (by rw [← hr.1]; rfl) ?_
  refine q_gr (K := 0) (b := (b + 1)) (q := 20) dX11_isLayer_17 rfl cl_5 (by decide) tw_163 hb rfl (lr_w hb _).1 ?_
  refine x_iload_n (q := 21) dX11_isLayer_20 rfl rfl ?_
  refine q_aald4 (b := (b + 10 + 2 * y)) (q := 22) dX11_isLayer_21 rfl (ls_w hb).1 (vp_in_nI hy8 (by decide)) (by rw [nI_clamp (by omega)]; exact (ly_w hb hy8 _).1) ?_
  refine q_gi (K := 4) (q := 25) dX11_isLayer_22 rfl cl_10 (by decide) tw_135 (ly_w hb hy8 r).2 rfl ?_
  refine x_icmp_ge (t := 32) (q := 28) dX11_isLayer_25 (by decide) rfl (fun c25 => absurd c25 (by rw [q3]; exact nI_ge (by omega) (by omega))) (fun c25 => ?_)
  refine x_iconst (1) (q := 29) dX11_isLayer_28 rfl (by decide) ?_
  refine x_goto (t := 33) dX11_isLayer_29 (by decide) ?_
  refine q_zret dX11_isLayer_33 rfl (Or.inr rfl) ?_
  exact ⟨rfl, rfl, rfl, rfl⟩
set_option maxRecDepth 100000 in
theorem c_isLayer_1 {I : MI} {b yn wn hn sn st : Nat} {r : MR} (J : MJ) (hr : RefOk r b) (h : RelL I b yn wn hn sn st) {x z : Int32} (hno : ¬ ∃ k, k < yn ∧ x = nI k) : Cq yX11_isLayer MX11_isLayer [.ref 0, .int x, .int z] I r J (Rt (some (.int 0)) I r J) := by
  have hb0 : SH (r 0) = (15, 18) := by rw [hr.1]; exact (refs_L hr).1
  have h8 : yn ≤ 8 := h.1.2.2.1
  have ey : I (r 0) 1 = nI yn := by rw [hr.1]; exact h.1.2.1
  have em : I 100 41 = nI yn := h.2.2.1.1
  have hb28 := (refs_L hr).2
  have hb := (refs_L hr).1
  refine cq_of [some (.ref 0), some (.int x), some (.int z)] 0 (by decide +kernel) rfl rfl (Nat.le_of_ble_eq_true rfl) rfl ?_
  refine x_aload_n (q := 1) dX11_isLayer_0 rfl rfl ?_
  refine x_iload_n (q := 2) dX11_isLayer_1 rfl rfl ?_
  refine q_callV (ci := 11) (N := 14) (T := TX11) (As := [.int x]) (rest := []) (q := 5) dX11_isLayer_2 rfl okX11_isYard tw_811 rfl rfl (c_isYard_b I r J hb0 ey h8 hno) rfl rfl (Nat.le_of_ble_eq_true rfl) ⟨by decide, by decide⟩ ⟨rfl, rfl⟩ (fun rv_ I_ r_ J_ hv_ => ?_)
  obtain ⟨a1_, a2_, a3_, a4_⟩ := hv_
  rw [a1_, a2_, a3_, a4_]
  show Wq MX11_isLayer 5 [some (.ref 0), some (.int x), some (.int z)] [.int 0] I r J _
  refine x_if_eq (t := 32) (q := 8) dX11_isLayer_5 (by decide) rfl (fun c5 => ?_) (fun c5 => absurd c5 ((by decide)))
  refine x_iconst (0) (q := 33) dX11_isLayer_32 rfl (by decide) ?_
  refine q_zret dX11_isLayer_33 rfl (Or.inl rfl) ?_
  exact ⟨rfl, rfl, rfl, rfl⟩
set_option maxRecDepth 100000 in
theorem c_isLayer_2 {I : MI} {b yn wn hn sn st : Nat} {r : MR} (J : MJ) (hr : RefOk r b) (h : RelL I b yn wn hn sn st) {y : Nat} (hy : y < yn) {z : Int32} (hno : ¬ ∃ k, k < laN I b y ∧ z = nI k) : Cq yX11_isLayer MX11_isLayer [.ref 0, .int (nI y), .int z] I r J (Rt (some (.int 0)) I r J) := by
  have hb0 : SH (r 0) = (15, 18) := by rw [hr.1]; exact (refs_L hr).1
  have h8 : yn ≤ 8 := h.1.2.2.1
  have ey : I (r 0) 1 = nI yn := by rw [hr.1]; exact h.1.2.1
  have em : I 100 41 = nI yn := h.2.2.1.1
  have hb28 := (refs_L hr).2
  have hb := (refs_L hr).1
  have hy8 : y < 8 := by omega
  obtain ⟨so, la, q1, q2, q3, q4, q5, q6, q7, q8⟩ := h.1.2.2.2.2.2.1 y hy
  have ela : laN I b y = la := la_of (so := so) q3 q5
  refine cq_of [some (.ref 0), some (.int (nI y)), some (.int z)] 0 (by decide +kernel) rfl rfl (Nat.le_of_ble_eq_true rfl) rfl ?_
  refine x_aload_n (q := 1) dX11_isLayer_0 rfl rfl ?_
  refine x_iload_n (q := 2) dX11_isLayer_1 rfl rfl ?_
  refine q_callV (ci := 11) (N := 14) (T := TX11) (As := [.int (nI y)]) (rest := []) (q := 5) dX11_isLayer_2 rfl okX11_isYard tw_811 rfl rfl (c_isYard_g I r J hb0 ey h8 hy) rfl rfl (Nat.le_of_ble_eq_true rfl) ⟨by decide, by decide⟩ ⟨rfl, rfl⟩ (fun rv_ I_ r_ J_ hv_ => ?_)
  obtain ⟨a1_, a2_, a3_, a4_⟩ := hv_
  rw [a1_, a2_, a3_, a4_]
  show Wq MX11_isLayer 5 [some (.ref 0), some (.int (nI y)), some (.int z)] [.int 1] I r J _
  refine x_if_eq (t := 32) (q := 8) dX11_isLayer_5 (by decide) rfl (fun c5 => absurd c5 ((by decide))) (fun c5 => ?_)
  refine x_iload_n (q := 9) dX11_isLayer_8 rfl rfl ?_
  refine x_if_lt (t := 32) (q := 12) dX11_isLayer_9 (by decide) rfl (fun c9 => ?_) (fun c9 => ?_)
  · refine x_iconst (0) (q := 33) dX11_isLayer_32 rfl (by decide) ?_
    refine q_zret dX11_isLayer_33 rfl (Or.inl rfl) ?_
    exact ⟨rfl, rfl, rfl, rfl⟩
  · refine x_iload_n (q := 13) dX11_isLayer_12 rfl rfl ?_
    refine x_aload_n (q := 14) dX11_isLayer_13 rfl rfl ?_
    refine q_gr (K := 2) (b := b) (q := 17) dX11_isLayer_14 rfl cl_11 (by decide) tw_569 rfl rfl (by rw [← hr.1]; rfl) ?_
    refine q_gr (K := 0) (b := (b + 1)) (q := 20) dX11_isLayer_17 rfl cl_5 (by decide) tw_163 hb rfl (lr_w hb _).1 ?_
    refine x_iload_n (q := 21) dX11_isLayer_20 rfl rfl ?_
    refine q_aald4 (b := (b + 10 + 2 * y)) (q := 22) dX11_isLayer_21 rfl (ls_w hb).1 (vp_in_nI hy8 (by decide)) (by rw [nI_clamp (by omega)]; exact (ly_w hb hy8 _).1) ?_
    refine q_gi (K := 4) (q := 25) dX11_isLayer_22 rfl cl_10 (by decide) tw_135 (ly_w hb hy8 r).2 rfl ?_
    refine x_icmp_ge (t := 32) (q := 28) dX11_isLayer_25 (by decide) rfl (fun c25 => ?_) (fun c25 => ?_)
    · refine x_iconst (0) (q := 33) dX11_isLayer_32 rfl (by decide) ?_
      refine q_zret dX11_isLayer_33 rfl (Or.inl rfl) ?_
      exact ⟨rfl, rfl, rfl, rfl⟩
    · refine x_iconst (1) (q := 29) dX11_isLayer_28 rfl (by decide) ?_
      refine x_goto (t := 33) dX11_isLayer_29 (by decide) ?_
      refine q_zret dX11_isLayer_33 rfl (Or.inr rfl) ?_
      exfalso
      rcases yd_no (show la ≤ 8 by omega) (fun q => hno (by rw [ela]; exact q)) with q | q
      · exact c9 q
      · rw [q3] at c25
        exact c25 q
set_option maxRecDepth 100000 in
theorem c_Xwarm_g {I : MI} {b yn wn hn sn st : Nat} {r : MR} (J : MJ) (hr : RefOk r b) (h : RelL I b yn wn hn sn st) {y : Nat} (hy : y < yn) {l : Nat} (hl : l < laN I b y) : Cq yX11_warm MX11_warm [.ref 0, .int (nI y), .int (nI l)] I r J (Rt (some (.int (I (60 + 2 * y + 1) l))) I r J) := by
  have hb0 : SH (r 0) = (15, 18) := by rw [hr.1]; exact (refs_L hr).1
  have h8 : yn ≤ 8 := h.1.2.2.1
  have ey : I (r 0) 1 = nI yn := by rw [hr.1]; exact h.1.2.1
  have em : I 100 41 = nI yn := h.2.2.1.1
  have hb28 := (refs_L hr).2
  have hb := (refs_L hr).1
  have hy8 : y < 8 := by omega
  obtain ⟨so, la, q1, q2, q3, q4, q5, q6, q7, q8⟩ := h.1.2.2.2.2.2.1 y hy
  have ela : laN I b y = la := la_of (so := so) q3 q5
  refine cq_of [some (.ref 0), some (.int (nI y)), some (.int (nI l))] 0 (by decide +kernel) rfl rfl (Nat.le_of_ble_eq_true rfl) rfl ?_
  refine x_aload_n (q := 1) dX11_warm_0 rfl rfl ?_
  refine x_iload_n (q := 2) dX11_warm_1 rfl rfl ?_
  refine x_iload_n (q := 3) dX11_warm_2 rfl rfl ?_
  refine q_callV (ci := 11) (N := 14) (T := TX11) (As := [.int (nI y), .int (nI l)]) (rest := []) (q := 6) dX11_warm_3 rfl okX11_isLayer tw_835 rfl rfl (c_isLayer_g J hr h hy hl) rfl rfl (Nat.le_of_ble_eq_true rfl) ⟨by decide, by decide⟩ ⟨rfl, rfl⟩ (fun rv_ I_ r_ J_ hv_ => ?_)
  obtain ⟨a1_, a2_, a3_, a4_⟩ := hv_
  rw [a1_, a2_, a3_, a4_]
  show Wq MX11_warm 6 [some (.ref 0), some (.int (nI y)), some (.int (nI l))] [.int 1] I r J _
  refine x_if_eq (t := 26) (q := 9) dX11_warm_6 (by decide) rfl (fun c6 => absurd c6 ((by decide))) (fun c6 => ?_)
  refine x_aload_n (q := 10) dX11_warm_9 rfl rfl ?_
  refine q_gr (K := 5) (b := 58) (q := 13) dX11_warm_10 rfl cl_11 (by decide) tw_572 rfl rfl rfl ?_
  refine q_gr (K := 1) (b := 59) (q := 16) dX11_warm_13 rfl cl_1 (by decide) tw_428 rfl rfl rfl ?_
  refine x_iload_n (q := 17) dX11_warm_16 rfl rfl ?_
  refine q_aald5 (b := (60 + 2 * y)) (q := 18) dX11_warm_17 rfl rfl (vp_in_nI hy8 (by decide)) (by rw [nI_clamp (by omega)]; exact (gy_w hy8 _).1) ?_
  refine q_gr (K := 0) (b := ((60 + 2 * y) + 1)) (q := 21) dX11_warm_18 rfl cl_4 (by decide) tw_398 (gy_w hy8 r).2 rfl (gr_w (gy_w hy8 r).2 _) ?_
  refine x_iload_n (q := 22) dX11_warm_21 rfl rfl ?_
  refine q_iald (q := 23) dX11_warm_22 rfl (gs_w (gy_w hy8 r).2) (vp_in_nI (by omega) (by decide)) ?_
  refine x_goto (t := 28) dX11_warm_23 (by decide) ?_
  refine q_iret dX11_warm_28 rfl ?_
  rw [nI_clamp (by omega)]
  exact ⟨rfl, rfl, rfl, rfl⟩
set_option maxRecDepth 100000 in
theorem c_Xwarm_1 {I : MI} {b yn wn hn sn st : Nat} {r : MR} (J : MJ) (hr : RefOk r b) (h : RelL I b yn wn hn sn st) {x z : Int32} (hno : ¬ ∃ k, k < yn ∧ x = nI k) : Cq yX11_warm MX11_warm [.ref 0, .int x, .int z] I r J (Rt (some (.int (-1000000))) I r J) := by
  have hb0 : SH (r 0) = (15, 18) := by rw [hr.1]; exact (refs_L hr).1
  have h8 : yn ≤ 8 := h.1.2.2.1
  have ey : I (r 0) 1 = nI yn := by rw [hr.1]; exact h.1.2.1
  have em : I 100 41 = nI yn := h.2.2.1.1
  have hb28 := (refs_L hr).2
  have hb := (refs_L hr).1
  refine cq_of [some (.ref 0), some (.int x), some (.int z)] 0 (by decide +kernel) rfl rfl (Nat.le_of_ble_eq_true rfl) rfl ?_
  refine x_aload_n (q := 1) dX11_warm_0 rfl rfl ?_
  refine x_iload_n (q := 2) dX11_warm_1 rfl rfl ?_
  refine x_iload_n (q := 3) dX11_warm_2 rfl rfl ?_
  refine q_callV (ci := 11) (N := 14) (T := TX11) (As := [.int x, .int z]) (rest := []) (q := 6) dX11_warm_3 rfl okX11_isLayer tw_835 rfl rfl (c_isLayer_1 J hr h hno) rfl rfl (Nat.le_of_ble_eq_true rfl) ⟨by decide, by decide⟩ ⟨rfl, rfl⟩ (fun rv_ I_ r_ J_ hv_ => ?_)
  obtain ⟨a1_, a2_, a3_, a4_⟩ := hv_
  rw [a1_, a2_, a3_, a4_]
  show Wq MX11_warm 6 [some (.ref 0), some (.int x), some (.int z)] [.int 0] I r J _
  refine x_if_eq (t := 26) (q := 9) dX11_warm_6 (by decide) rfl (fun c6 => ?_) (fun c6 => absurd c6 ((by decide)))
  refine x_ldc (v := -1000000) (q := 28) dX11_warm_26 rfl tw_806 ?_
  refine q_iret dX11_warm_28 rfl ?_
  exact ⟨rfl, rfl, rfl, rfl⟩
set_option maxRecDepth 100000 in
theorem c_Xwarm_2 {I : MI} {b yn wn hn sn st : Nat} {r : MR} (J : MJ) (hr : RefOk r b) (h : RelL I b yn wn hn sn st) {y : Nat} (hy : y < yn) {z : Int32} (hno : ¬ ∃ k, k < laN I b y ∧ z = nI k) : Cq yX11_warm MX11_warm [.ref 0, .int (nI y), .int z] I r J (Rt (some (.int (-1000000))) I r J) := by
  have hb0 : SH (r 0) = (15, 18) := by rw [hr.1]; exact (refs_L hr).1
  have h8 : yn ≤ 8 := h.1.2.2.1
  have ey : I (r 0) 1 = nI yn := by rw [hr.1]; exact h.1.2.1
  have em : I 100 41 = nI yn := h.2.2.1.1
  have hb28 := (refs_L hr).2
  have hb := (refs_L hr).1
  refine cq_of [some (.ref 0), some (.int (nI y)), some (.int z)] 0 (by decide +kernel) rfl rfl (Nat.le_of_ble_eq_true rfl) rfl ?_
  refine x_aload_n (q := 1) dX11_warm_0 rfl rfl ?_
  refine x_iload_n (q := 2) dX11_warm_1 rfl rfl ?_
  refine x_iload_n (q := 3) dX11_warm_2 rfl rfl ?_
  refine q_callV (ci := 11) (N := 14) (T := TX11) (As := [.int (nI y), .int z]) (rest := []) (q := 6) dX11_warm_3 rfl okX11_isLayer tw_835 rfl rfl (c_isLayer_2 J hr h hy hno) rfl rfl (Nat.le_of_ble_eq_true rfl) ⟨by decide, by decide⟩ ⟨rfl, rfl⟩ (fun rv_ I_ r_ J_ hv_ => ?_)
  obtain ⟨a1_, a2_, a3_, a4_⟩ := hv_
  rw [a1_, a2_, a3_, a4_]
  show Wq MX11_warm 6 [some (.ref 0), some (.int (nI y)), some (.int z)] [.int 0] I r J _
  refine x_if_eq (t := 26) (q := 9) dX11_warm_6 (by decide) rfl (fun c6 => ?_) (fun c6 => absurd c6 ((by decide)))
  refine x_ldc (v := -1000000) (q := 28) dX11_warm_26 rfl tw_806 ?_
  refine q_iret dX11_warm_28 rfl ?_
  exact ⟨rfl, rfl, rfl, rfl⟩
set_option maxRecDepth 100000 in
theorem c_Mwarm_g {I : MI} {b yn wn hn sn st : Nat} {r : MR} (J : MJ) (hr : RefOk r b) (h : RelL I b yn wn hn sn st) {y : Nat} (hy : y < yn) {l : Nat} (hl : l < laN I b y) : Cq yX12_warm MX12_warm [.ref 100, .int (nI y), .int (nI l)] I r J (Rt (some (.int (I 126 (5 * y + l)))) I r J) := by
  have hb0 : SH (r 0) = (15, 18) := by rw [hr.1]; exact (refs_L hr).1
  have h8 : yn ≤ 8 := h.1.2.2.1
  have ey : I (r 0) 1 = nI yn := by rw [hr.1]; exact h.1.2.1
  have em : I 100 41 = nI yn := h.2.2.1.1
  have hb28 := (refs_L hr).2
  have hb := (refs_L hr).1
  have hy8 : y < 8 := by omega
  obtain ⟨so, la, q1, q2, q3, q4, q5, q6, q7, q8⟩ := h.1.2.2.2.2.2.1 y hy
  have ela : laN I b y = la := la_of (so := so) q3 q5
  have em4 : I 117 y = nI la := by rw [(h.2.2.1.2.2.1 y hy).2.2.2.1]; exact q3
  have hcy : (nI y).toNatClampNeg = y := nI_clamp (by omega)
  refine cq_of [some (.ref 100), some (.int (nI y)), some (.int (nI l))] 0 (by decide +kernel) rfl rfl (Nat.le_of_ble_eq_true rfl) rfl ?_
  refine x_aload_n (q := 1) dX12_warm_0 rfl rfl ?_
  refine x_iload_n (q := 2) dX12_warm_1 rfl rfl ?_
  refine q_callV (ci := 12) (N := 79) (T := TX12) (As := [.int (nI y)]) (rest := []) (q := 5) dX12_warm_2 rfl okX12_isYard tw_1485 rfl rfl (c_mYard_g I r J em h8 hy) rfl rfl (Nat.le_of_ble_eq_true rfl) ⟨by decide, by decide⟩ ⟨rfl, rfl⟩ (fun rv_ I_ r_ J_ hv_ => ?_)
  obtain ⟨a1_, a2_, a3_, a4_⟩ := hv_
  rw [a1_, a2_, a3_, a4_]
  show Wq MX12_warm 5 [some (.ref 100), some (.int (nI y)), some (.int (nI l))] [.int 1] I r J _
  refine x_if_eq (t := 37) (q := 8) dX12_warm_5 (by decide) rfl (fun c5 => absurd c5 ((by decide))) (fun c5 => ?_)
  refine x_iload_n (q := 9) dX12_warm_8 rfl rfl ?_
  refine x_iconst (0) (q := 10) dX12_warm_9 rfl (by decide) ?_
  refine x_aload_n (q := 11) dX12_warm_10 rfl rfl ?_
  refine q_gr (K := 25) (b := 117) (q := 14) dX12_warm_11 rfl cl_12 (by decide) tw_1107 rfl rfl rfl ?_
  refine x_iload_n (q := 15) dX12_warm_14 rfl rfl ?_
  refine q_iald (q := 16) dX12_warm_15 rfl rfl (vp_in_nI hy8 (by decide)) ?_
  refine x_iconst (1) (q := 17) dX12_warm_16 rfl (by decide) ?_
  refine x_isub (q := 18) dX12_warm_17 rfl ?_
  refine q_callS (As := [.int (nI l), .int 0, .int ((I 117 (nI y).toNatClampNeg) - 1)]) (rest := []) (q := 21) dX12_warm_18 rfl okX12_isIn tw_1450 (c_isIn_g I r J (nI_pos' (by omega)) (by rw [hcy, em4, nI_m1 (by omega)]; exact nI_le (by omega) (by omega))) rfl rfl (Nat.le_of_ble_eq_true rfl) ⟨by decide, by decide⟩ ⟨rfl, rfl⟩ (fun rv_ I_ r_ J_ hv_ => ?_)
  obtain ⟨a1_, a2_, a3_, a4_⟩ := hv_
  rw [a1_, a2_, a3_, a4_]
  show Wq MX12_warm 21 [some (.ref 100), some (.int (nI y)), some (.int (nI l))] [.int 1] I r J _
  refine x_if_eq (t := 37) (q := 24) dX12_warm_21 (by decide) rfl (fun c21 => absurd c21 ((by decide))) (fun c21 => ?_)
  refine x_aload_n (q := 25) dX12_warm_24 rfl rfl ?_
  refine q_gr (K := 53) (b := 126) (q := 28) dX12_warm_25 rfl cl_12 (by decide) tw_1135 rfl rfl rfl ?_
  refine x_iconst (5) (q := 29) dX12_warm_28 rfl (by decide) ?_
  refine x_iload_n (q := 30) dX12_warm_29 rfl rfl ?_
  refine x_imul (q := 31) dX12_warm_30 rfl ?_
  refine x_iload_n (q := 32) dX12_warm_31 rfl rfl ?_
  refine x_iadd (q := 33) dX12_warm_32 rfl ?_
  refine q_iald (q := 34) dX12_warm_33 rfl rfl (by rw [nI5, nI_add]; exact vp_in_nI (by omega) (by decide)) ?_
  refine x_goto (t := 40) dX12_warm_34 (by decide) ?_
  refine q_iret dX12_warm_40 rfl ?_
  rw [nI5, nI_add, nI_clamp (by omega)]
  exact ⟨rfl, rfl, rfl, rfl⟩
set_option maxRecDepth 100000 in
theorem c_Mwarm_1 {I : MI} {b yn wn hn sn st : Nat} {r : MR} (J : MJ) (hr : RefOk r b) (h : RelL I b yn wn hn sn st) {x z : Int32} (hno : ¬ ∃ k, k < yn ∧ x = nI k) : Cq yX12_warm MX12_warm [.ref 100, .int x, .int z] I r J (Rt (some (.int (-1000000))) I r J) := by
  have hb0 : SH (r 0) = (15, 18) := by rw [hr.1]; exact (refs_L hr).1
  have h8 : yn ≤ 8 := h.1.2.2.1
  have ey : I (r 0) 1 = nI yn := by rw [hr.1]; exact h.1.2.1
  have em : I 100 41 = nI yn := h.2.2.1.1
  have hb28 := (refs_L hr).2
  have hb := (refs_L hr).1
  refine cq_of [some (.ref 100), some (.int x), some (.int z)] 0 (by decide +kernel) rfl rfl (Nat.le_of_ble_eq_true rfl) rfl ?_
  refine x_aload_n (q := 1) dX12_warm_0 rfl rfl ?_
  refine x_iload_n (q := 2) dX12_warm_1 rfl rfl ?_
  refine q_callV (ci := 12) (N := 79) (T := TX12) (As := [.int x]) (rest := []) (q := 5) dX12_warm_2 rfl okX12_isYard tw_1485 rfl rfl (c_mYard_b I r J em h8 hno) rfl rfl (Nat.le_of_ble_eq_true rfl) ⟨by decide, by decide⟩ ⟨rfl, rfl⟩ (fun rv_ I_ r_ J_ hv_ => ?_)
  obtain ⟨a1_, a2_, a3_, a4_⟩ := hv_
  rw [a1_, a2_, a3_, a4_]
  show Wq MX12_warm 5 [some (.ref 100), some (.int x), some (.int z)] [.int 0] I r J _
  refine x_if_eq (t := 37) (q := 8) dX12_warm_5 (by decide) rfl (fun c5 => ?_) (fun c5 => absurd c5 ((by decide)))
  refine x_ldcw (v := -1000000) (q := 40) dX12_warm_37 rfl tw_1480 ?_
  refine q_iret dX12_warm_40 rfl ?_
  exact ⟨rfl, rfl, rfl, rfl⟩
set_option maxRecDepth 100000 in
theorem c_Mwarm_2 {I : MI} {b yn wn hn sn st : Nat} {r : MR} (J : MJ) (hr : RefOk r b) (h : RelL I b yn wn hn sn st) {y : Nat} (hy : y < yn) {z : Int32} (hno : ¬ ∃ k, k < laN I b y ∧ z = nI k) : Cq yX12_warm MX12_warm [.ref 100, .int (nI y), .int z] I r J (Rt (some (.int (-1000000))) I r J) := by
  have hb0 : SH (r 0) = (15, 18) := by rw [hr.1]; exact (refs_L hr).1
  have h8 : yn ≤ 8 := h.1.2.2.1
  have ey : I (r 0) 1 = nI yn := by rw [hr.1]; exact h.1.2.1
  have em : I 100 41 = nI yn := h.2.2.1.1
  have hb28 := (refs_L hr).2
  have hb := (refs_L hr).1
  have hy8 : y < 8 := by omega
  obtain ⟨so, la, q1, q2, q3, q4, q5, q6, q7, q8⟩ := h.1.2.2.2.2.2.1 y hy
  have ela : laN I b y = la := la_of (so := so) q3 q5
  have em4 : I 117 y = nI la := by rw [(h.2.2.1.2.2.1 y hy).2.2.2.1]; exact q3
  have hcy : (nI y).toNatClampNeg = y := nI_clamp (by omega)
  refine cq_of [some (.ref 100), some (.int (nI y)), some (.int z)] 0 (by decide +kernel) rfl rfl (Nat.le_of_ble_eq_true rfl) rfl ?_
  refine x_aload_n (q := 1) dX12_warm_0 rfl rfl ?_
  refine x_iload_n (q := 2) dX12_warm_1 rfl rfl ?_
  refine q_callV (ci := 12) (N := 79) (T := TX12) (As := [.int (nI y)]) (rest := []) (q := 5) dX12_warm_2 rfl okX12_isYard tw_1485 rfl rfl (c_mYard_g I r J em h8 hy) rfl rfl (Nat.le_of_ble_eq_true rfl) ⟨by decide, by decide⟩ ⟨rfl, rfl⟩ (fun rv_ I_ r_ J_ hv_ => ?_)
  obtain ⟨a1_, a2_, a3_, a4_⟩ := hv_
  rw [a1_, a2_, a3_, a4_]
  show Wq MX12_warm 5 [some (.ref 100), some (.int (nI y)), some (.int z)] [.int 1] I r J _
  refine x_if_eq (t := 37) (q := 8) dX12_warm_5 (by decide) rfl (fun c5 => absurd c5 ((by decide))) (fun c5 => ?_)
  refine x_iload_n (q := 9) dX12_warm_8 rfl rfl ?_
  refine x_iconst (0) (q := 10) dX12_warm_9 rfl (by decide) ?_
  refine x_aload_n (q := 11) dX12_warm_10 rfl rfl ?_
  refine q_gr (K := 25) (b := 117) (q := 14) dX12_warm_11 rfl cl_12 (by decide) tw_1107 rfl rfl rfl ?_
  refine x_iload_n (q := 15) dX12_warm_14 rfl rfl ?_
  refine q_iald (q := 16) dX12_warm_15 rfl rfl (vp_in_nI hy8 (by decide)) ?_
  refine x_iconst (1) (q := 17) dX12_warm_16 rfl (by decide) ?_
  refine x_isub (q := 18) dX12_warm_17 rfl ?_
  refine q_callS (As := [.int z, .int 0, .int ((I 117 (nI y).toNatClampNeg) - 1)]) (rest := []) (q := 21) dX12_warm_18 rfl okX12_isIn tw_1450 (c_isIn_b I r J (by rw [hcy, em4]; exact in_no (by omega) (fun q => hno (by rw [ela]; exact q)))) rfl rfl (Nat.le_of_ble_eq_true rfl) ⟨by decide, by decide⟩ ⟨rfl, rfl⟩ (fun rv_ I_ r_ J_ hv_ => ?_)
  obtain ⟨a1_, a2_, a3_, a4_⟩ := hv_
  rw [a1_, a2_, a3_, a4_]
  show Wq MX12_warm 21 [some (.ref 100), some (.int (nI y)), some (.int z)] [.int 0] I r J _
  refine x_if_eq (t := 37) (q := 24) dX12_warm_21 (by decide) rfl (fun c21 => ?_) (fun c21 => absurd c21 ((by decide)))
  refine x_ldcw (v := -1000000) (q := 40) dX12_warm_37 rfl tw_1480 ?_
  refine q_iret dX12_warm_40 rfl ?_
  exact ⟨rfl, rfl, rfl, rfl⟩
theorem op_warm (x z : Int32) : OpOk yX11_warm MX11_warm yX12_warm MX12_warm [.int x, .int z] := by
  intro I r J hrel
  have hre2 := hrel
  obtain ⟨b, yn, wn, hn, sn, st, hr, hl, hR, hJ⟩ := hrel
  have h8 : yn ≤ 8 := hl.1.2.2.1
  by_cases h1 : ∃ k, k < yn ∧ x = nI k
  · obtain ⟨y, hy, rfl⟩ := h1
    by_cases h2 : ∃ k, k < laN I b y ∧ z = nI k
    · obtain ⟨l, hll, rfl⟩ := h2
      refine op_put (c_Xwarm_g J hr hl hy hll) ?_ hre2
      have k := c_Mwarm_g J hr hl hy hll
      have e := (day_GC hl hy).2.2.1 l hll
      have h5 := (la5 hl.1 hy).2
      have hl5 : l < 5 := by omega
      unfold gGet yGet at e
      rw [if_pos hl5, if_pos hl5] at e
      rw [← e] at k
      exact k
    · exact op_put (c_Xwarm_2 J hr hl hy h2) (c_Mwarm_2 J hr hl hy h2) hre2
  · exact op_put (c_Xwarm_1 J hr hl h1) (c_Mwarm_1 J hr hl h1) hre2
theorem w7 (w : Int32) : w = 0 ∨ w = 1 ∨ w = 2 ∨ w = 3 ∨ w = 4 ∨ w = 5 ∨ w = 6 ∨ (w.toInt < 0 ∨ 6 < w.toInt) := by
  by_cases h : w.toInt < 0 ∨ 6 < w.toInt
  · simp [h]
  · have : w.toInt = 0 ∨ w.toInt = 1 ∨ w.toInt = 2 ∨ w.toInt = 3 ∨ w.toInt = 4 ∨ w.toInt = 5 ∨ w.toInt = 6 := by omega
    have key : ∀ k : Int32, w.toInt = k.toInt → w = k := fun k q => Int32.toInt_inj.mp q
    rcases this with q | q | q | q | q | q | q
    · exact Or.inl (key 0 q)
    · exact Or.inr (Or.inl (key 1 q))
    · exact Or.inr (Or.inr (Or.inl (key 2 q)))
    · exact Or.inr (Or.inr (Or.inr (Or.inl (key 3 q))))
    · exact Or.inr (Or.inr (Or.inr (Or.inr (Or.inl (key 4 q)))))
    · exact Or.inr (Or.inr (Or.inr (Or.inr (Or.inr (Or.inl (key 5 q))))))
    · exact Or.inr (Or.inr (Or.inr (Or.inr (Or.inr (Or.inr (Or.inl (key 6 q)))))))
/-- what yard answers, by a ground's numbers, the slope and the layers -/
def ydF (G : GT) (sl la : Int32) (k : Nat) : Int32 := ([G 5, G 6, G 7, G 8, whiteF (G 6), blockedF sl (G 6) (G 7), la] : List Int32).getD k 0
theorem wh_01 (x : Int32) : whiteF x = 0 ∨ whiteF x = 1 := by
  unfold whiteF
  by_cases h : 10 ≤ x <;> simp [h]
theorem bl_01 (a x y : Int32) : blockedF a x y = 0 ∨ blockedF a x y = 1 := by
  unfold blockedF
  by_cases h : 1000 ≤ a * (x + 2 * y) <;> simp [h]
set_option maxRecDepth 100000 in
theorem c_Xyard_g0 {I : MI} {b yn wn hn sn st : Nat} {r : MR} (J : MJ) (hr : RefOk r b) (h : RelL I b yn wn hn sn st) {y : Nat} (hy : y < yn) : Cq yX11_yard MX11_yard [.ref 0, .int (nI y), .int 0] I r J (Rs (ydF (gGet I (60 + 2 * y)) (I (b + 10 + 2 * y) 2) (I (b + 10 + 2 * y) 4) 0) I 77 r J) := by
  have hb0 : SH (r 0) = (15, 18) := by rw [hr.1]; exact (refs_L hr).1
  have h8 : yn ≤ 8 := h.1.2.2.1
  have ey : I (r 0) 1 = nI yn := by rw [hr.1]; exact h.1.2.1
  have em : I 100 41 = nI yn := h.2.2.1.1
  have hb28 := (refs_L hr).2
  have hb := (refs_L hr).1
  have hy8 : y < 8 := by omega
  refine cq_of [some (.ref 0), some (.int (nI y)), some (.int 0), none, none] 2 (by decide +kernel) rfl rfl (Nat.le_of_ble_eq_true rfl) rfl ?_
  refine x_aload_n (q := 1) dX11_yard_0 rfl rfl ?_
  refine x_iload_n (q := 2) dX11_yard_1 rfl rfl ?_
  refine q_callV (ci := 11) (N := 14) (T := TX11) (As := [.int (nI y)]) (rest := []) (q := 5) dX11_yard_2 rfl okX11_isYard tw_811 rfl rfl (c_isYard_g I r J hb0 ey h8 hy) rfl rfl (Nat.le_of_ble_eq_true rfl) ⟨by decide, by decide⟩ ⟨rfl, rfl⟩ (fun rv_ I_ r_ J_ hv_ => ?_)
  obtain ⟨a1_, a2_, a3_, a4_⟩ := hv_
  rw [a1_, a2_, a3_, a4_]
  show Wq MX11_yard 5 [some (.ref 0), some (.int (nI y)), some (.int 0), none, none] [.int 1] I r J _
  refine x_if_ne (t := 10) (q := 8) dX11_yard_5 (by decide) rfl (fun c5 => ?_) (fun c5 => absurd c5 ((by decide)))
  refine x_aload_n (q := 11) dX11_yard_10 rfl rfl ?_
  refine q_gr (K := 5) (b := 58) (q := 14) dX11_yard_11 rfl cl_11 (by decide) tw_572 rfl rfl rfl ?_
  refine q_gr (K := 1) (b := 59) (q := 17) dX11_yard_14 rfl cl_1 (by decide) tw_428 rfl rfl rfl ?_
  refine x_iload_n (q := 18) dX11_yard_17 rfl rfl ?_
  refine q_aald5 (b := (60 + 2 * y)) (q := 19) dX11_yard_18 rfl rfl (vp_in_nI hy8 (by decide)) (by rw [nI_clamp (by omega)]; exact (gy_w hy8 _).1) ?_
  refine x_astore_n (L2 := [some (.ref 0), some (.int (nI y)), some (.int 0), some (.ref (60 + 2 * y)), none]) (q := 20) dX11_yard_19 rfl (by decide) rfl rfl ?_
  refine x_aload_n (q := 21) dX11_yard_20 rfl rfl ?_
  refine q_gr (K := 2) (b := b) (q := 24) dX11_yard_21 rfl cl_11 (by decide) tw_569 rfl rfl (by rw [← hr.1]; rfl) ?_
  refine q_gr (K := 0) (b := (b + 1)) (q := 27) dX11_yard_24 rfl cl_5 (by decide) tw_163 hb rfl (lr_w hb _).1 ?_
  refine x_iload_n (q := 28) dX11_yard_27 rfl rfl ?_
  refine q_aald4 (b := (b + 10 + 2 * y)) (q := 29) dX11_yard_28 rfl (ls_w hb).1 (vp_in_nI hy8 (by decide)) (by rw [nI_clamp (by omega)]; exact (ly_w hb hy8 _).1) ?_
  refine x_astore (L2 := [some (.ref 0), some (.int (nI y)), some (.int 0), some (.ref (60 + 2 * y)), some (.ref (b + 10 + 2 * y))]) (q := 31) dX11_yard_29 rfl (by decide) rfl rfl ?_
  refine x_iload_n (q := 32) dX11_yard_31 rfl rfl ?_
  · refine x_swIn (off := 44) (t := 76) dX11_yard_32 (by decide) (by decide) rfl (by decide) ?_
    refine x_aload_n (q := 77) dX11_yard_76 rfl rfl ?_
    refine q_gi (K := 1) (q := 80) dX11_yard_77 rfl cl_4 (by decide) tw_400 (gy_w hy8 r).2 rfl ?_
    refine q_iret dX11_yard_80 rfl ?_
    exact Rs_same
set_option maxRecDepth 100000 in
theorem c_Xyard_g1 {I : MI} {b yn wn hn sn st : Nat} {r : MR} (J : MJ) (hr : RefOk r b) (h : RelL I b yn wn hn sn st) {y : Nat} (hy : y < yn) : Cq yX11_yard MX11_yard [.ref 0, .int (nI y), .int 1] I r J (Rs (ydF (gGet I (60 + 2 * y)) (I (b + 10 + 2 * y) 2) (I (b + 10 + 2 * y) 4) 1) I 77 r J) := by
  have hb0 : SH (r 0) = (15, 18) := by rw [hr.1]; exact (refs_L hr).1
  have h8 : yn ≤ 8 := h.1.2.2.1
  have ey : I (r 0) 1 = nI yn := by rw [hr.1]; exact h.1.2.1
  have em : I 100 41 = nI yn := h.2.2.1.1
  have hb28 := (refs_L hr).2
  have hb := (refs_L hr).1
  have hy8 : y < 8 := by omega
  refine cq_of [some (.ref 0), some (.int (nI y)), some (.int 1), none, none] 2 (by decide +kernel) rfl rfl (Nat.le_of_ble_eq_true rfl) rfl ?_
  refine x_aload_n (q := 1) dX11_yard_0 rfl rfl ?_
  refine x_iload_n (q := 2) dX11_yard_1 rfl rfl ?_
  refine q_callV (ci := 11) (N := 14) (T := TX11) (As := [.int (nI y)]) (rest := []) (q := 5) dX11_yard_2 rfl okX11_isYard tw_811 rfl rfl (c_isYard_g I r J hb0 ey h8 hy) rfl rfl (Nat.le_of_ble_eq_true rfl) ⟨by decide, by decide⟩ ⟨rfl, rfl⟩ (fun rv_ I_ r_ J_ hv_ => ?_)
  obtain ⟨a1_, a2_, a3_, a4_⟩ := hv_
  rw [a1_, a2_, a3_, a4_]
  show Wq MX11_yard 5 [some (.ref 0), some (.int (nI y)), some (.int 1), none, none] [.int 1] I r J _
  refine x_if_ne (t := 10) (q := 8) dX11_yard_5 (by decide) rfl (fun c5 => ?_) (fun c5 => absurd c5 ((by decide)))
  refine x_aload_n (q := 11) dX11_yard_10 rfl rfl ?_
  refine q_gr (K := 5) (b := 58) (q := 14) dX11_yard_11 rfl cl_11 (by decide) tw_572 rfl rfl rfl ?_
  refine q_gr (K := 1) (b := 59) (q := 17) dX11_yard_14 rfl cl_1 (by decide) tw_428 rfl rfl rfl ?_
  refine x_iload_n (q := 18) dX11_yard_17 rfl rfl ?_
  refine q_aald5 (b := (60 + 2 * y)) (q := 19) dX11_yard_18 rfl rfl (vp_in_nI hy8 (by decide)) (by rw [nI_clamp (by omega)]; exact (gy_w hy8 _).1) ?_
  refine x_astore_n (L2 := [some (.ref 0), some (.int (nI y)), some (.int 1), some (.ref (60 + 2 * y)), none]) (q := 20) dX11_yard_19 rfl (by decide) rfl rfl ?_
  refine x_aload_n (q := 21) dX11_yard_20 rfl rfl ?_
  refine q_gr (K := 2) (b := b) (q := 24) dX11_yard_21 rfl cl_11 (by decide) tw_569 rfl rfl (by rw [← hr.1]; rfl) ?_
  refine q_gr (K := 0) (b := (b + 1)) (q := 27) dX11_yard_24 rfl cl_5 (by decide) tw_163 hb rfl (lr_w hb _).1 ?_
  refine x_iload_n (q := 28) dX11_yard_27 rfl rfl ?_
  refine q_aald4 (b := (b + 10 + 2 * y)) (q := 29) dX11_yard_28 rfl (ls_w hb).1 (vp_in_nI hy8 (by decide)) (by rw [nI_clamp (by omega)]; exact (ly_w hb hy8 _).1) ?_
  refine x_astore (L2 := [some (.ref 0), some (.int (nI y)), some (.int 1), some (.ref (60 + 2 * y)), some (.ref (b + 10 + 2 * y))]) (q := 31) dX11_yard_29 rfl (by decide) rfl rfl ?_
  refine x_iload_n (q := 32) dX11_yard_31 rfl rfl ?_
  · refine x_swIn (off := 49) (t := 81) dX11_yard_32 (by decide) (by decide) rfl (by decide) ?_
    refine x_aload_n (q := 82) dX11_yard_81 rfl rfl ?_
    refine q_gi (K := 2) (q := 85) dX11_yard_82 rfl cl_4 (by decide) tw_403 (gy_w hy8 r).2 rfl ?_
    refine q_iret dX11_yard_85 rfl ?_
    exact Rs_same
set_option maxRecDepth 100000 in
theorem c_Xyard_g2 {I : MI} {b yn wn hn sn st : Nat} {r : MR} (J : MJ) (hr : RefOk r b) (h : RelL I b yn wn hn sn st) {y : Nat} (hy : y < yn) : Cq yX11_yard MX11_yard [.ref 0, .int (nI y), .int 2] I r J (Rs (ydF (gGet I (60 + 2 * y)) (I (b + 10 + 2 * y) 2) (I (b + 10 + 2 * y) 4) 2) I 77 r J) := by
  have hb0 : SH (r 0) = (15, 18) := by rw [hr.1]; exact (refs_L hr).1
  have h8 : yn ≤ 8 := h.1.2.2.1
  have ey : I (r 0) 1 = nI yn := by rw [hr.1]; exact h.1.2.1
  have em : I 100 41 = nI yn := h.2.2.1.1
  have hb28 := (refs_L hr).2
  have hb := (refs_L hr).1
  have hy8 : y < 8 := by omega
  refine cq_of [some (.ref 0), some (.int (nI y)), some (.int 2), none, none] 2 (by decide +kernel) rfl rfl (Nat.le_of_ble_eq_true rfl) rfl ?_
  refine x_aload_n (q := 1) dX11_yard_0 rfl rfl ?_
  refine x_iload_n (q := 2) dX11_yard_1 rfl rfl ?_
  refine q_callV (ci := 11) (N := 14) (T := TX11) (As := [.int (nI y)]) (rest := []) (q := 5) dX11_yard_2 rfl okX11_isYard tw_811 rfl rfl (c_isYard_g I r J hb0 ey h8 hy) rfl rfl (Nat.le_of_ble_eq_true rfl) ⟨by decide, by decide⟩ ⟨rfl, rfl⟩ (fun rv_ I_ r_ J_ hv_ => ?_)
  obtain ⟨a1_, a2_, a3_, a4_⟩ := hv_
  rw [a1_, a2_, a3_, a4_]
  show Wq MX11_yard 5 [some (.ref 0), some (.int (nI y)), some (.int 2), none, none] [.int 1] I r J _
  refine x_if_ne (t := 10) (q := 8) dX11_yard_5 (by decide) rfl (fun c5 => ?_) (fun c5 => absurd c5 ((by decide)))
  refine x_aload_n (q := 11) dX11_yard_10 rfl rfl ?_
  refine q_gr (K := 5) (b := 58) (q := 14) dX11_yard_11 rfl cl_11 (by decide) tw_572 rfl rfl rfl ?_
  refine q_gr (K := 1) (b := 59) (q := 17) dX11_yard_14 rfl cl_1 (by decide) tw_428 rfl rfl rfl ?_
  refine x_iload_n (q := 18) dX11_yard_17 rfl rfl ?_
  refine q_aald5 (b := (60 + 2 * y)) (q := 19) dX11_yard_18 rfl rfl (vp_in_nI hy8 (by decide)) (by rw [nI_clamp (by omega)]; exact (gy_w hy8 _).1) ?_
  refine x_astore_n (L2 := [some (.ref 0), some (.int (nI y)), some (.int 2), some (.ref (60 + 2 * y)), none]) (q := 20) dX11_yard_19 rfl (by decide) rfl rfl ?_
  refine x_aload_n (q := 21) dX11_yard_20 rfl rfl ?_
  refine q_gr (K := 2) (b := b) (q := 24) dX11_yard_21 rfl cl_11 (by decide) tw_569 rfl rfl (by rw [← hr.1]; rfl) ?_
  refine q_gr (K := 0) (b := (b + 1)) (q := 27) dX11_yard_24 rfl cl_5 (by decide) tw_163 hb rfl (lr_w hb _).1 ?_
  refine x_iload_n (q := 28) dX11_yard_27 rfl rfl ?_
  refine q_aald4 (b := (b + 10 + 2 * y)) (q := 29) dX11_yard_28 rfl (ls_w hb).1 (vp_in_nI hy8 (by decide)) (by rw [nI_clamp (by omega)]; exact (ly_w hb hy8 _).1) ?_
  refine x_astore (L2 := [some (.ref 0), some (.int (nI y)), some (.int 2), some (.ref (60 + 2 * y)), some (.ref (b + 10 + 2 * y))]) (q := 31) dX11_yard_29 rfl (by decide) rfl rfl ?_
  refine x_iload_n (q := 32) dX11_yard_31 rfl rfl ?_
  · refine x_swIn (off := 54) (t := 86) dX11_yard_32 (by decide) (by decide) rfl (by decide) ?_
    refine x_aload_n (q := 87) dX11_yard_86 rfl rfl ?_
    refine q_gi (K := 3) (q := 90) dX11_yard_87 rfl cl_4 (by decide) tw_405 (gy_w hy8 r).2 rfl ?_
    refine q_iret dX11_yard_90 rfl ?_
    exact Rs_same
set_option maxRecDepth 100000 in
theorem c_Xyard_g3 {I : MI} {b yn wn hn sn st : Nat} {r : MR} (J : MJ) (hr : RefOk r b) (h : RelL I b yn wn hn sn st) {y : Nat} (hy : y < yn) : Cq yX11_yard MX11_yard [.ref 0, .int (nI y), .int 3] I r J (Rs (ydF (gGet I (60 + 2 * y)) (I (b + 10 + 2 * y) 2) (I (b + 10 + 2 * y) 4) 3) I 77 r J) := by
  have hb0 : SH (r 0) = (15, 18) := by rw [hr.1]; exact (refs_L hr).1
  have h8 : yn ≤ 8 := h.1.2.2.1
  have ey : I (r 0) 1 = nI yn := by rw [hr.1]; exact h.1.2.1
  have em : I 100 41 = nI yn := h.2.2.1.1
  have hb28 := (refs_L hr).2
  have hb := (refs_L hr).1
  have hy8 : y < 8 := by omega
  refine cq_of [some (.ref 0), some (.int (nI y)), some (.int 3), none, none] 2 (by decide +kernel) rfl rfl (Nat.le_of_ble_eq_true rfl) rfl ?_
  refine x_aload_n (q := 1) dX11_yard_0 rfl rfl ?_
  refine x_iload_n (q := 2) dX11_yard_1 rfl rfl ?_
  refine q_callV (ci := 11) (N := 14) (T := TX11) (As := [.int (nI y)]) (rest := []) (q := 5) dX11_yard_2 rfl okX11_isYard tw_811 rfl rfl (c_isYard_g I r J hb0 ey h8 hy) rfl rfl (Nat.le_of_ble_eq_true rfl) ⟨by decide, by decide⟩ ⟨rfl, rfl⟩ (fun rv_ I_ r_ J_ hv_ => ?_)
  obtain ⟨a1_, a2_, a3_, a4_⟩ := hv_
  rw [a1_, a2_, a3_, a4_]
  show Wq MX11_yard 5 [some (.ref 0), some (.int (nI y)), some (.int 3), none, none] [.int 1] I r J _
  refine x_if_ne (t := 10) (q := 8) dX11_yard_5 (by decide) rfl (fun c5 => ?_) (fun c5 => absurd c5 ((by decide)))
  refine x_aload_n (q := 11) dX11_yard_10 rfl rfl ?_
  refine q_gr (K := 5) (b := 58) (q := 14) dX11_yard_11 rfl cl_11 (by decide) tw_572 rfl rfl rfl ?_
  refine q_gr (K := 1) (b := 59) (q := 17) dX11_yard_14 rfl cl_1 (by decide) tw_428 rfl rfl rfl ?_
  refine x_iload_n (q := 18) dX11_yard_17 rfl rfl ?_
  refine q_aald5 (b := (60 + 2 * y)) (q := 19) dX11_yard_18 rfl rfl (vp_in_nI hy8 (by decide)) (by rw [nI_clamp (by omega)]; exact (gy_w hy8 _).1) ?_
  refine x_astore_n (L2 := [some (.ref 0), some (.int (nI y)), some (.int 3), some (.ref (60 + 2 * y)), none]) (q := 20) dX11_yard_19 rfl (by decide) rfl rfl ?_
  refine x_aload_n (q := 21) dX11_yard_20 rfl rfl ?_
  refine q_gr (K := 2) (b := b) (q := 24) dX11_yard_21 rfl cl_11 (by decide) tw_569 rfl rfl (by rw [← hr.1]; rfl) ?_
  refine q_gr (K := 0) (b := (b + 1)) (q := 27) dX11_yard_24 rfl cl_5 (by decide) tw_163 hb rfl (lr_w hb _).1 ?_
  refine x_iload_n (q := 28) dX11_yard_27 rfl rfl ?_
  refine q_aald4 (b := (b + 10 + 2 * y)) (q := 29) dX11_yard_28 rfl (ls_w hb).1 (vp_in_nI hy8 (by decide)) (by rw [nI_clamp (by omega)]; exact (ly_w hb hy8 _).1) ?_
  refine x_astore (L2 := [some (.ref 0), some (.int (nI y)), some (.int 3), some (.ref (60 + 2 * y)), some (.ref (b + 10 + 2 * y))]) (q := 31) dX11_yard_29 rfl (by decide) rfl rfl ?_
  refine x_iload_n (q := 32) dX11_yard_31 rfl rfl ?_
  · refine x_swIn (off := 59) (t := 91) dX11_yard_32 (by decide) (by decide) rfl (by decide) ?_
    refine x_aload_n (q := 92) dX11_yard_91 rfl rfl ?_
    refine q_gi (K := 4) (q := 95) dX11_yard_92 rfl cl_4 (by decide) tw_409 (gy_w hy8 r).2 rfl ?_
    refine q_iret dX11_yard_95 rfl ?_
    exact Rs_same
set_option maxRecDepth 100000 in
theorem c_Xyard_g4 {I : MI} {b yn wn hn sn st : Nat} {r : MR} (J : MJ) (hr : RefOk r b) (h : RelL I b yn wn hn sn st) {y : Nat} (hy : y < yn) : Cq yX11_yard MX11_yard [.ref 0, .int (nI y), .int 4] I r J (Rs (ydF (gGet I (60 + 2 * y)) (I (b + 10 + 2 * y) 2) (I (b + 10 + 2 * y) 4) 4) I 77 r J) := by
  have hb0 : SH (r 0) = (15, 18) := by rw [hr.1]; exact (refs_L hr).1
  have h8 : yn ≤ 8 := h.1.2.2.1
  have ey : I (r 0) 1 = nI yn := by rw [hr.1]; exact h.1.2.1
  have em : I 100 41 = nI yn := h.2.2.1.1
  have hb28 := (refs_L hr).2
  have hb := (refs_L hr).1
  have hy8 : y < 8 := by omega
  refine cq_of [some (.ref 0), some (.int (nI y)), some (.int 4), none, none] 2 (by decide +kernel) rfl rfl (Nat.le_of_ble_eq_true rfl) rfl ?_
  refine x_aload_n (q := 1) dX11_yard_0 rfl rfl ?_
  refine x_iload_n (q := 2) dX11_yard_1 rfl rfl ?_
  refine q_callV (ci := 11) (N := 14) (T := TX11) (As := [.int (nI y)]) (rest := []) (q := 5) dX11_yard_2 rfl okX11_isYard tw_811 rfl rfl (c_isYard_g I r J hb0 ey h8 hy) rfl rfl (Nat.le_of_ble_eq_true rfl) ⟨by decide, by decide⟩ ⟨rfl, rfl⟩ (fun rv_ I_ r_ J_ hv_ => ?_)
  obtain ⟨a1_, a2_, a3_, a4_⟩ := hv_
  rw [a1_, a2_, a3_, a4_]
  show Wq MX11_yard 5 [some (.ref 0), some (.int (nI y)), some (.int 4), none, none] [.int 1] I r J _
  refine x_if_ne (t := 10) (q := 8) dX11_yard_5 (by decide) rfl (fun c5 => ?_) (fun c5 => absurd c5 ((by decide)))
  refine x_aload_n (q := 11) dX11_yard_10 rfl rfl ?_
  refine q_gr (K := 5) (b := 58) (q := 14) dX11_yard_11 rfl cl_11 (by decide) tw_572 rfl rfl rfl ?_
  refine q_gr (K := 1) (b := 59) (q := 17) dX11_yard_14 rfl cl_1 (by decide) tw_428 rfl rfl rfl ?_
  refine x_iload_n (q := 18) dX11_yard_17 rfl rfl ?_
  refine q_aald5 (b := (60 + 2 * y)) (q := 19) dX11_yard_18 rfl rfl (vp_in_nI hy8 (by decide)) (by rw [nI_clamp (by omega)]; exact (gy_w hy8 _).1) ?_
  refine x_astore_n (L2 := [some (.ref 0), some (.int (nI y)), some (.int 4), some (.ref (60 + 2 * y)), none]) (q := 20) dX11_yard_19 rfl (by decide) rfl rfl ?_
  refine x_aload_n (q := 21) dX11_yard_20 rfl rfl ?_
  refine q_gr (K := 2) (b := b) (q := 24) dX11_yard_21 rfl cl_11 (by decide) tw_569 rfl rfl (by rw [← hr.1]; rfl) ?_
  refine q_gr (K := 0) (b := (b + 1)) (q := 27) dX11_yard_24 rfl cl_5 (by decide) tw_163 hb rfl (lr_w hb _).1 ?_
  refine x_iload_n (q := 28) dX11_yard_27 rfl rfl ?_
  refine q_aald4 (b := (b + 10 + 2 * y)) (q := 29) dX11_yard_28 rfl (ls_w hb).1 (vp_in_nI hy8 (by decide)) (by rw [nI_clamp (by omega)]; exact (ly_w hb hy8 _).1) ?_
  refine x_astore (L2 := [some (.ref 0), some (.int (nI y)), some (.int 4), some (.ref (60 + 2 * y)), some (.ref (b + 10 + 2 * y))]) (q := 31) dX11_yard_29 rfl (by decide) rfl rfl ?_
  refine x_iload_n (q := 32) dX11_yard_31 rfl rfl ?_
  · refine x_swIn (off := 64) (t := 96) dX11_yard_32 (by decide) (by decide) rfl (by decide) ?_
    refine x_aload_n (q := 97) dX11_yard_96 rfl rfl ?_
    refine q_callV (ci := 4) (N := 5) (T := TX4) (As := []) (rest := []) (q := 100) dX11_yard_97 rfl okX4_isWhite tw_823 (gy_w hy8 r).2 rfl (c_isWhite (gy_w hy8 r).2 I r J) rfl rfl (Nat.le_of_ble_eq_true rfl) ⟨by decide, by decide⟩ ⟨rfl, rfl⟩ (fun rv_ I_ r_ J_ hv_ => ?_)
    obtain ⟨a1_, a2_, a3_, a4_⟩ := hv_
    rw [a1_, a2_, a3_, a4_]
    show Wq MX11_yard 100 [some (.ref 0), some (.int (nI y)), some (.int 4), some (.ref (60 + 2 * y)), some (.ref (b + 10 + 2 * y))] [.int (whiteF (I (60 + 2 * y) 2))] I r J _
    refine x_if_eq (t := 107) (q := 103) dX11_yard_100 (by decide) rfl (fun c100 => ?_) (fun c100 => ?_)
    · refine x_iconst (0) (q := 108) dX11_yard_107 rfl (by decide) ?_
      refine q_iret dX11_yard_108 rfl ?_
      show Rs (whiteF (I (60 + 2 * y) 2)) I 77 r J _ _ _ _
      rw [c100]
      exact Rs_same
    · refine x_iconst (1) (q := 104) dX11_yard_103 rfl (by decide) ?_
      refine x_goto (t := 108) dX11_yard_104 (by decide) ?_
      refine q_iret dX11_yard_108 rfl ?_
      have e : whiteF (I (60 + 2 * y) 2) = 1 := by
        rcases wh_01 (I (60 + 2 * y) 2) with q | q
        · exact absurd q c100
        · exact q
      show Rs (whiteF (I (60 + 2 * y) 2)) I 77 r J _ _ _ _
      rw [e]
      exact Rs_same
set_option maxRecDepth 100000 in
theorem c_Xyard_g5 {I : MI} {b yn wn hn sn st : Nat} {r : MR} (J : MJ) (hr : RefOk r b) (h : RelL I b yn wn hn sn st) {y : Nat} (hy : y < yn) : Cq yX11_yard MX11_yard [.ref 0, .int (nI y), .int 5] I r J (Rs (ydF (gGet I (60 + 2 * y)) (I (b + 10 + 2 * y) 2) (I (b + 10 + 2 * y) 4) 5) I 77 r J) := by
  have hb0 : SH (r 0) = (15, 18) := by rw [hr.1]; exact (refs_L hr).1
  have h8 : yn ≤ 8 := h.1.2.2.1
  have ey : I (r 0) 1 = nI yn := by rw [hr.1]; exact h.1.2.1
  have em : I 100 41 = nI yn := h.2.2.1.1
  have hb28 := (refs_L hr).2
  have hb := (refs_L hr).1
  have hy8 : y < 8 := by omega
  refine cq_of [some (.ref 0), some (.int (nI y)), some (.int 5), none, none] 2 (by decide +kernel) rfl rfl (Nat.le_of_ble_eq_true rfl) rfl ?_
  refine x_aload_n (q := 1) dX11_yard_0 rfl rfl ?_
  refine x_iload_n (q := 2) dX11_yard_1 rfl rfl ?_
  refine q_callV (ci := 11) (N := 14) (T := TX11) (As := [.int (nI y)]) (rest := []) (q := 5) dX11_yard_2 rfl okX11_isYard tw_811 rfl rfl (c_isYard_g I r J hb0 ey h8 hy) rfl rfl (Nat.le_of_ble_eq_true rfl) ⟨by decide, by decide⟩ ⟨rfl, rfl⟩ (fun rv_ I_ r_ J_ hv_ => ?_)
  obtain ⟨a1_, a2_, a3_, a4_⟩ := hv_
  rw [a1_, a2_, a3_, a4_]
  show Wq MX11_yard 5 [some (.ref 0), some (.int (nI y)), some (.int 5), none, none] [.int 1] I r J _
  refine x_if_ne (t := 10) (q := 8) dX11_yard_5 (by decide) rfl (fun c5 => ?_) (fun c5 => absurd c5 ((by decide)))
  refine x_aload_n (q := 11) dX11_yard_10 rfl rfl ?_
  refine q_gr (K := 5) (b := 58) (q := 14) dX11_yard_11 rfl cl_11 (by decide) tw_572 rfl rfl rfl ?_
  refine q_gr (K := 1) (b := 59) (q := 17) dX11_yard_14 rfl cl_1 (by decide) tw_428 rfl rfl rfl ?_
  refine x_iload_n (q := 18) dX11_yard_17 rfl rfl ?_
  refine q_aald5 (b := (60 + 2 * y)) (q := 19) dX11_yard_18 rfl rfl (vp_in_nI hy8 (by decide)) (by rw [nI_clamp (by omega)]; exact (gy_w hy8 _).1) ?_
  refine x_astore_n (L2 := [some (.ref 0), some (.int (nI y)), some (.int 5), some (.ref (60 + 2 * y)), none]) (q := 20) dX11_yard_19 rfl (by decide) rfl rfl ?_
  refine x_aload_n (q := 21) dX11_yard_20 rfl rfl ?_
  refine q_gr (K := 2) (b := b) (q := 24) dX11_yard_21 rfl cl_11 (by decide) tw_569 rfl rfl (by rw [← hr.1]; rfl) ?_
  refine q_gr (K := 0) (b := (b + 1)) (q := 27) dX11_yard_24 rfl cl_5 (by decide) tw_163 hb rfl (lr_w hb _).1 ?_
  refine x_iload_n (q := 28) dX11_yard_27 rfl rfl ?_
  refine q_aald4 (b := (b + 10 + 2 * y)) (q := 29) dX11_yard_28 rfl (ls_w hb).1 (vp_in_nI hy8 (by decide)) (by rw [nI_clamp (by omega)]; exact (ly_w hb hy8 _).1) ?_
  refine x_astore (L2 := [some (.ref 0), some (.int (nI y)), some (.int 5), some (.ref (60 + 2 * y)), some (.ref (b + 10 + 2 * y))]) (q := 31) dX11_yard_29 rfl (by decide) rfl rfl ?_
  refine x_iload_n (q := 32) dX11_yard_31 rfl rfl ?_
  · refine x_swIn (off := 77) (t := 109) dX11_yard_32 (by decide) (by decide) rfl (by decide) ?_
    refine x_aload_n (q := 110) dX11_yard_109 rfl rfl ?_
    refine x_aload (q := 112) dX11_yard_110 rfl rfl ?_
    refine q_callV (ci := 4) (N := 5) (T := TX4) (As := [.ref (b + 10 + 2 * y)]) (rest := []) (q := 115) dX11_yard_112 rfl okX4_isBlocked tw_827 (gy_w hy8 r).2 rfl (c_isBlocked (gy_w hy8 r).2 (ly_w hb hy8 r).2 I r J) rfl rfl (Nat.le_of_ble_eq_true rfl) ⟨by decide, by decide⟩ ⟨rfl, rfl⟩ (fun rv_ I_ r_ J_ hv_ => ?_)
    obtain ⟨a1_, a2_, a3_, a4_⟩ := hv_
    rw [a1_, a2_, a3_, a4_]
    show Wq MX11_yard 115 [some (.ref 0), some (.int (nI y)), some (.int 5), some (.ref (60 + 2 * y)), some (.ref (b + 10 + 2 * y))] [.int (blockedF (I (b + 10 + 2 * y) 2) (I (60 + 2 * y) 2) (I (60 + 2 * y) 3))] I r J _
    refine x_if_eq (t := 122) (q := 118) dX11_yard_115 (by decide) rfl (fun c115 => ?_) (fun c115 => ?_)
    · refine x_iconst (0) (q := 123) dX11_yard_122 rfl (by decide) ?_
      refine q_iret dX11_yard_123 rfl ?_
      show Rs (blockedF (I (b + 10 + 2 * y) 2) (I (60 + 2 * y) 2) (I (60 + 2 * y) 3)) I 77 r J _ _ _ _
      rw [c115]
      exact Rs_same
    · refine x_iconst (1) (q := 119) dX11_yard_118 rfl (by decide) ?_
      refine x_goto (t := 123) dX11_yard_119 (by decide) ?_
      refine q_iret dX11_yard_123 rfl ?_
      have e : blockedF (I (b + 10 + 2 * y) 2) (I (60 + 2 * y) 2) (I (60 + 2 * y) 3) = 1 := by
        rcases bl_01 (I (b + 10 + 2 * y) 2) (I (60 + 2 * y) 2) (I (60 + 2 * y) 3) with q | q
        · exact absurd q c115
        · exact q
      show Rs (blockedF (I (b + 10 + 2 * y) 2) (I (60 + 2 * y) 2) (I (60 + 2 * y) 3)) I 77 r J _ _ _ _
      rw [e]
      exact Rs_same
set_option maxRecDepth 100000 in
theorem c_Xyard_g6 {I : MI} {b yn wn hn sn st : Nat} {r : MR} (J : MJ) (hr : RefOk r b) (h : RelL I b yn wn hn sn st) {y : Nat} (hy : y < yn) : Cq yX11_yard MX11_yard [.ref 0, .int (nI y), .int 6] I r J (Rs (ydF (gGet I (60 + 2 * y)) (I (b + 10 + 2 * y) 2) (I (b + 10 + 2 * y) 4) 6) I 77 r J) := by
  have hb0 : SH (r 0) = (15, 18) := by rw [hr.1]; exact (refs_L hr).1
  have h8 : yn ≤ 8 := h.1.2.2.1
  have ey : I (r 0) 1 = nI yn := by rw [hr.1]; exact h.1.2.1
  have em : I 100 41 = nI yn := h.2.2.1.1
  have hb28 := (refs_L hr).2
  have hb := (refs_L hr).1
  have hy8 : y < 8 := by omega
  refine cq_of [some (.ref 0), some (.int (nI y)), some (.int 6), none, none] 2 (by decide +kernel) rfl rfl (Nat.le_of_ble_eq_true rfl) rfl ?_
  refine x_aload_n (q := 1) dX11_yard_0 rfl rfl ?_
  refine x_iload_n (q := 2) dX11_yard_1 rfl rfl ?_
  refine q_callV (ci := 11) (N := 14) (T := TX11) (As := [.int (nI y)]) (rest := []) (q := 5) dX11_yard_2 rfl okX11_isYard tw_811 rfl rfl (c_isYard_g I r J hb0 ey h8 hy) rfl rfl (Nat.le_of_ble_eq_true rfl) ⟨by decide, by decide⟩ ⟨rfl, rfl⟩ (fun rv_ I_ r_ J_ hv_ => ?_)
  obtain ⟨a1_, a2_, a3_, a4_⟩ := hv_
  rw [a1_, a2_, a3_, a4_]
  show Wq MX11_yard 5 [some (.ref 0), some (.int (nI y)), some (.int 6), none, none] [.int 1] I r J _
  refine x_if_ne (t := 10) (q := 8) dX11_yard_5 (by decide) rfl (fun c5 => ?_) (fun c5 => absurd c5 ((by decide)))
  refine x_aload_n (q := 11) dX11_yard_10 rfl rfl ?_
  refine q_gr (K := 5) (b := 58) (q := 14) dX11_yard_11 rfl cl_11 (by decide) tw_572 rfl rfl rfl ?_
  refine q_gr (K := 1) (b := 59) (q := 17) dX11_yard_14 rfl cl_1 (by decide) tw_428 rfl rfl rfl ?_
  refine x_iload_n (q := 18) dX11_yard_17 rfl rfl ?_
  refine q_aald5 (b := (60 + 2 * y)) (q := 19) dX11_yard_18 rfl rfl (vp_in_nI hy8 (by decide)) (by rw [nI_clamp (by omega)]; exact (gy_w hy8 _).1) ?_
  refine x_astore_n (L2 := [some (.ref 0), some (.int (nI y)), some (.int 6), some (.ref (60 + 2 * y)), none]) (q := 20) dX11_yard_19 rfl (by decide) rfl rfl ?_
  refine x_aload_n (q := 21) dX11_yard_20 rfl rfl ?_
  refine q_gr (K := 2) (b := b) (q := 24) dX11_yard_21 rfl cl_11 (by decide) tw_569 rfl rfl (by rw [← hr.1]; rfl) ?_
  refine q_gr (K := 0) (b := (b + 1)) (q := 27) dX11_yard_24 rfl cl_5 (by decide) tw_163 hb rfl (lr_w hb _).1 ?_
  refine x_iload_n (q := 28) dX11_yard_27 rfl rfl ?_
  refine q_aald4 (b := (b + 10 + 2 * y)) (q := 29) dX11_yard_28 rfl (ls_w hb).1 (vp_in_nI hy8 (by decide)) (by rw [nI_clamp (by omega)]; exact (ly_w hb hy8 _).1) ?_
  refine x_astore (L2 := [some (.ref 0), some (.int (nI y)), some (.int 6), some (.ref (60 + 2 * y)), some (.ref (b + 10 + 2 * y))]) (q := 31) dX11_yard_29 rfl (by decide) rfl rfl ?_
  refine x_iload_n (q := 32) dX11_yard_31 rfl rfl ?_
  · refine x_swIn (off := 92) (t := 124) dX11_yard_32 (by decide) (by decide) rfl (by decide) ?_
    refine x_aload (q := 126) dX11_yard_124 rfl rfl ?_
    refine q_gi (K := 4) (q := 129) dX11_yard_126 rfl cl_10 (by decide) tw_135 (ly_w hb hy8 r).2 rfl ?_
    refine q_iret dX11_yard_129 rfl ?_
    exact Rs_same
set_option maxRecDepth 100000 in
theorem c_Xyard_1 {I : MI} {b yn wn hn sn st : Nat} {r : MR} (J : MJ) (hr : RefOk r b) (h : RelL I b yn wn hn sn st) {x z : Int32} (hno : ¬ ∃ k, k < yn ∧ x = nI k) : Cq yX11_yard MX11_yard [.ref 0, .int x, .int z] I r J (Rs (-1) I 77 r J) := by
  have hb0 : SH (r 0) = (15, 18) := by rw [hr.1]; exact (refs_L hr).1
  have h8 : yn ≤ 8 := h.1.2.2.1
  have ey : I (r 0) 1 = nI yn := by rw [hr.1]; exact h.1.2.1
  have em : I 100 41 = nI yn := h.2.2.1.1
  have hb28 := (refs_L hr).2
  have hb := (refs_L hr).1
  refine cq_of [some (.ref 0), some (.int x), some (.int z), none, none] 2 (by decide +kernel) rfl rfl (Nat.le_of_ble_eq_true rfl) rfl ?_
  refine x_aload_n (q := 1) dX11_yard_0 rfl rfl ?_
  refine x_iload_n (q := 2) dX11_yard_1 rfl rfl ?_
  refine q_callV (ci := 11) (N := 14) (T := TX11) (As := [.int x]) (rest := []) (q := 5) dX11_yard_2 rfl okX11_isYard tw_811 rfl rfl (c_isYard_b I r J hb0 ey h8 hno) rfl rfl (Nat.le_of_ble_eq_true rfl) ⟨by decide, by decide⟩ ⟨rfl, rfl⟩ (fun rv_ I_ r_ J_ hv_ => ?_)
  obtain ⟨a1_, a2_, a3_, a4_⟩ := hv_
  rw [a1_, a2_, a3_, a4_]
  show Wq MX11_yard 5 [some (.ref 0), some (.int x), some (.int z), none, none] [.int 0] I r J _
  refine x_if_ne (t := 10) (q := 8) dX11_yard_5 (by decide) rfl (fun c5 => absurd c5 ((by decide))) (fun c5 => ?_)
  refine x_iconst (-1) (q := 9) dX11_yard_8 rfl (by decide) ?_
  refine q_iret dX11_yard_9 rfl ?_
  exact Rs_same
set_option maxRecDepth 100000 in
theorem c_Xyard_2 {I : MI} {b yn wn hn sn st : Nat} {r : MR} (J : MJ) (hr : RefOk r b) (h : RelL I b yn wn hn sn st) {y : Nat} (hy : y < yn) {w : Int32} (hw : w.toInt < 0 ∨ 6 < w.toInt) : Cq yX11_yard MX11_yard [.ref 0, .int (nI y), .int w] I r J (Rs (-1) I 77 r J) := by
  have hb0 : SH (r 0) = (15, 18) := by rw [hr.1]; exact (refs_L hr).1
  have h8 : yn ≤ 8 := h.1.2.2.1
  have ey : I (r 0) 1 = nI yn := by rw [hr.1]; exact h.1.2.1
  have em : I 100 41 = nI yn := h.2.2.1.1
  have hb28 := (refs_L hr).2
  have hb := (refs_L hr).1
  have hy8 : y < 8 := by omega
  refine cq_of [some (.ref 0), some (.int (nI y)), some (.int w), none, none] 2 (by decide +kernel) rfl rfl (Nat.le_of_ble_eq_true rfl) rfl ?_
  refine x_aload_n (q := 1) dX11_yard_0 rfl rfl ?_
  refine x_iload_n (q := 2) dX11_yard_1 rfl rfl ?_
  refine q_callV (ci := 11) (N := 14) (T := TX11) (As := [.int (nI y)]) (rest := []) (q := 5) dX11_yard_2 rfl okX11_isYard tw_811 rfl rfl (c_isYard_g I r J hb0 ey h8 hy) rfl rfl (Nat.le_of_ble_eq_true rfl) ⟨by decide, by decide⟩ ⟨rfl, rfl⟩ (fun rv_ I_ r_ J_ hv_ => ?_)
  obtain ⟨a1_, a2_, a3_, a4_⟩ := hv_
  rw [a1_, a2_, a3_, a4_]
  show Wq MX11_yard 5 [some (.ref 0), some (.int (nI y)), some (.int w), none, none] [.int 1] I r J _
  refine x_if_ne (t := 10) (q := 8) dX11_yard_5 (by decide) rfl (fun c5 => ?_) (fun c5 => absurd c5 ((by decide)))
  refine x_aload_n (q := 11) dX11_yard_10 rfl rfl ?_
  refine q_gr (K := 5) (b := 58) (q := 14) dX11_yard_11 rfl cl_11 (by decide) tw_572 rfl rfl rfl ?_
  refine q_gr (K := 1) (b := 59) (q := 17) dX11_yard_14 rfl cl_1 (by decide) tw_428 rfl rfl rfl ?_
  refine x_iload_n (q := 18) dX11_yard_17 rfl rfl ?_
  refine q_aald5 (b := (60 + 2 * y)) (q := 19) dX11_yard_18 rfl rfl (vp_in_nI hy8 (by decide)) (by rw [nI_clamp (by omega)]; exact (gy_w hy8 _).1) ?_
  refine x_astore_n (L2 := [some (.ref 0), some (.int (nI y)), some (.int w), some (.ref (60 + 2 * y)), none]) (q := 20) dX11_yard_19 rfl (by decide) rfl rfl ?_
  refine x_aload_n (q := 21) dX11_yard_20 rfl rfl ?_
  refine q_gr (K := 2) (b := b) (q := 24) dX11_yard_21 rfl cl_11 (by decide) tw_569 rfl rfl (by rw [← hr.1]; rfl) ?_
  refine q_gr (K := 0) (b := (b + 1)) (q := 27) dX11_yard_24 rfl cl_5 (by decide) tw_163 hb rfl (lr_w hb _).1 ?_
  refine x_iload_n (q := 28) dX11_yard_27 rfl rfl ?_
  refine q_aald4 (b := (b + 10 + 2 * y)) (q := 29) dX11_yard_28 rfl (ls_w hb).1 (vp_in_nI hy8 (by decide)) (by rw [nI_clamp (by omega)]; exact (ly_w hb hy8 _).1) ?_
  refine x_astore (L2 := [some (.ref 0), some (.int (nI y)), some (.int w), some (.ref (60 + 2 * y)), some (.ref (b + 10 + 2 * y))]) (q := 31) dX11_yard_29 rfl (by decide) rfl rfl ?_
  refine x_iload_n (q := 32) dX11_yard_31 rfl rfl ?_
  · refine x_swOut (t := 130) dX11_yard_32 hw (by decide) ?_
    refine x_iconst (-1) (q := 131) dX11_yard_130 rfl (by decide) ?_
    refine q_iret dX11_yard_131 rfl ?_
    exact Rs_same
set_option maxRecDepth 100000 in
theorem c_Myard_g0 {I : MI} {b yn wn hn sn st : Nat} {r : MR} (J : MJ) (hr : RefOk r b) (h : RelL I b yn wn hn sn st) {y : Nat} (hy : y < yn) : Cq yX12_yard MX12_yard [.ref 100, .int (nI y), .int 0] I r J (Rm (ydF (yGet I y) (I 115 y) (I 117 y) 0) I r J) := by
  have hb0 : SH (r 0) = (15, 18) := by rw [hr.1]; exact (refs_L hr).1
  have h8 : yn ≤ 8 := h.1.2.2.1
  have ey : I (r 0) 1 = nI yn := by rw [hr.1]; exact h.1.2.1
  have em : I 100 41 = nI yn := h.2.2.1.1
  have hb28 := (refs_L hr).2
  have hb := (refs_L hr).1
  have hy8 : y < 8 := by omega
  have hcy : (nI y).toNatClampNeg = y := nI_clamp (by omega)
  refine cq_of [some (.ref 100), some (.int (nI y)), some (.int 0)] 0 (by decide +kernel) rfl rfl (Nat.le_of_ble_eq_true rfl) rfl ?_
  refine x_aload_n (q := 1) dX12_yard_0 rfl rfl ?_
  refine x_iload_n (q := 2) dX12_yard_1 rfl rfl ?_
  refine q_callV (ci := 12) (N := 79) (T := TX12) (As := [.int (nI y)]) (rest := []) (q := 5) dX12_yard_2 rfl okX12_isYard tw_1485 rfl rfl (c_mYard_g I r J em h8 hy) rfl rfl (Nat.le_of_ble_eq_true rfl) ⟨by decide, by decide⟩ ⟨rfl, rfl⟩ (fun rv_ I_ r_ J_ hv_ => ?_)
  obtain ⟨a1_, a2_, a3_, a4_⟩ := hv_
  rw [a1_, a2_, a3_, a4_]
  show Wq MX12_yard 5 [some (.ref 100), some (.int (nI y)), some (.int 0)] [.int 1] I r J _
  refine x_if_eq (t := 18) (q := 8) dX12_yard_5 (by decide) rfl (fun c5 => absurd c5 ((by decide))) (fun c5 => ?_)
  refine x_iload_n (q := 9) dX12_yard_8 rfl rfl ?_
  refine x_iconst (0) (q := 10) dX12_yard_9 rfl (by decide) ?_
  refine x_bipush (6) (q := 12) dX12_yard_10 rfl (by decide) ?_
  refine q_callS (As := [.int 0, .int 0, .int 6]) (rest := []) (q := 15) dX12_yard_12 rfl okX12_isIn tw_1450 (c_isIn_g I r J (by decide) (by decide)) rfl rfl (Nat.le_of_ble_eq_true rfl) ⟨by decide, by decide⟩ ⟨rfl, rfl⟩ (fun rv_ I_ r_ J_ hv_ => ?_)
  obtain ⟨a1_, a2_, a3_, a4_⟩ := hv_
  rw [a1_, a2_, a3_, a4_]
  show Wq MX12_yard 15 [some (.ref 100), some (.int (nI y)), some (.int 0)] [.int 1] I r J _
  refine x_if_ne (t := 20) (q := 18) dX12_yard_15 (by decide) rfl (fun c15 => ?_) (fun c15 => absurd c15 ((by decide)))
  refine x_aload_n (q := 21) dX12_yard_20 rfl rfl ?_
  refine x_iload_n (q := 22) dX12_yard_21 rfl rfl ?_
  refine q_callV (ci := 12) (N := 79) (T := TX12) (As := [.int (nI y)]) (rest := []) (q := 25) dX12_yard_22 rfl okX12_bring tw_1453 rfl rfl (by have k := c_bring y (by omega) I (mGet I) r J; rw [mPut_get] at k; exact k) rfl rfl (Nat.le_of_ble_eq_true rfl) ⟨by decide, by decide⟩ ⟨rfl, rfl⟩ (fun rv_ I_ r_ J_ hv_ => ?_)
  obtain ⟨a1_, a2_, a3_, a4_⟩ := hv_
  rw [a1_, a2_, a3_, a4_]
  show Wq MX12_yard 25 [some (.ref 100), some (.int (nI y)), some (.int 0)] [] (mPut I (yGet I y)) r J _
  refine x_iload_n (q := 26) dX12_yard_25 rfl rfl ?_
  refine x_iconst (4) (q := 27) dX12_yard_26 rfl (by decide) ?_
  refine x_icmp_ge (t := 43) (q := 30) dX12_yard_27 (by decide) rfl (fun c27 => absurd c27 ((by decide))) (fun c27 => ?_)
  refine x_aload_n (q := 31) dX12_yard_30 rfl rfl ?_
  refine q_gr (K := 54) (b := 127) (q := 34) dX12_yard_31 rfl cl_12 (by decide) tw_1136 rfl rfl rfl ?_
  refine x_iconst (4) (q := 35) dX12_yard_34 rfl (by decide) ?_
  refine x_iload_n (q := 36) dX12_yard_35 rfl rfl ?_
  refine x_imul (q := 37) dX12_yard_36 rfl ?_
  refine x_iload_n (q := 38) dX12_yard_37 rfl rfl ?_
  refine x_iadd (q := 39) dX12_yard_38 rfl ?_
  refine q_iald (q := 40) dX12_yard_39 rfl rfl (by rw [nI4, nI_p0]; exact vp_in_nI (by omega) (by decide)) ?_
  refine x_goto (t := 90) dX12_yard_40 (by decide) ?_
  refine q_iret dX12_yard_90 rfl ?_
  rw [nI4, nI_p0, nI_clamp (by omega), mPut_o _ _ 127 _ (by decide) (by decide)]
  exact ⟨rfl, ⟨_, rfl⟩, rfl, rfl⟩
set_option maxRecDepth 100000 in
theorem c_Myard_g1 {I : MI} {b yn wn hn sn st : Nat} {r : MR} (J : MJ) (hr : RefOk r b) (h : RelL I b yn wn hn sn st) {y : Nat} (hy : y < yn) : Cq yX12_yard MX12_yard [.ref 100, .int (nI y), .int 1] I r J (Rm (ydF (yGet I y) (I 115 y) (I 117 y) 1) I r J) := by
  have hb0 : SH (r 0) = (15, 18) := by rw [hr.1]; exact (refs_L hr).1
  have h8 : yn ≤ 8 := h.1.2.2.1
  have ey : I (r 0) 1 = nI yn := by rw [hr.1]; exact h.1.2.1
  have em : I 100 41 = nI yn := h.2.2.1.1
  have hb28 := (refs_L hr).2
  have hb := (refs_L hr).1
  have hy8 : y < 8 := by omega
  have hcy : (nI y).toNatClampNeg = y := nI_clamp (by omega)
  refine cq_of [some (.ref 100), some (.int (nI y)), some (.int 1)] 0 (by decide +kernel) rfl rfl (Nat.le_of_ble_eq_true rfl) rfl ?_
  refine x_aload_n (q := 1) dX12_yard_0 rfl rfl ?_
  refine x_iload_n (q := 2) dX12_yard_1 rfl rfl ?_
  refine q_callV (ci := 12) (N := 79) (T := TX12) (As := [.int (nI y)]) (rest := []) (q := 5) dX12_yard_2 rfl okX12_isYard tw_1485 rfl rfl (c_mYard_g I r J em h8 hy) rfl rfl (Nat.le_of_ble_eq_true rfl) ⟨by decide, by decide⟩ ⟨rfl, rfl⟩ (fun rv_ I_ r_ J_ hv_ => ?_)
  obtain ⟨a1_, a2_, a3_, a4_⟩ := hv_
  rw [a1_, a2_, a3_, a4_]
  show Wq MX12_yard 5 [some (.ref 100), some (.int (nI y)), some (.int 1)] [.int 1] I r J _
  refine x_if_eq (t := 18) (q := 8) dX12_yard_5 (by decide) rfl (fun c5 => absurd c5 ((by decide))) (fun c5 => ?_)
  refine x_iload_n (q := 9) dX12_yard_8 rfl rfl ?_
  refine x_iconst (0) (q := 10) dX12_yard_9 rfl (by decide) ?_
  refine x_bipush (6) (q := 12) dX12_yard_10 rfl (by decide) ?_
  refine q_callS (As := [.int 1, .int 0, .int 6]) (rest := []) (q := 15) dX12_yard_12 rfl okX12_isIn tw_1450 (c_isIn_g I r J (by decide) (by decide)) rfl rfl (Nat.le_of_ble_eq_true rfl) ⟨by decide, by decide⟩ ⟨rfl, rfl⟩ (fun rv_ I_ r_ J_ hv_ => ?_)
  obtain ⟨a1_, a2_, a3_, a4_⟩ := hv_
  rw [a1_, a2_, a3_, a4_]
  show Wq MX12_yard 15 [some (.ref 100), some (.int (nI y)), some (.int 1)] [.int 1] I r J _
  refine x_if_ne (t := 20) (q := 18) dX12_yard_15 (by decide) rfl (fun c15 => ?_) (fun c15 => absurd c15 ((by decide)))
  refine x_aload_n (q := 21) dX12_yard_20 rfl rfl ?_
  refine x_iload_n (q := 22) dX12_yard_21 rfl rfl ?_
  refine q_callV (ci := 12) (N := 79) (T := TX12) (As := [.int (nI y)]) (rest := []) (q := 25) dX12_yard_22 rfl okX12_bring tw_1453 rfl rfl (by have k := c_bring y (by omega) I (mGet I) r J; rw [mPut_get] at k; exact k) rfl rfl (Nat.le_of_ble_eq_true rfl) ⟨by decide, by decide⟩ ⟨rfl, rfl⟩ (fun rv_ I_ r_ J_ hv_ => ?_)
  obtain ⟨a1_, a2_, a3_, a4_⟩ := hv_
  rw [a1_, a2_, a3_, a4_]
  show Wq MX12_yard 25 [some (.ref 100), some (.int (nI y)), some (.int 1)] [] (mPut I (yGet I y)) r J _
  refine x_iload_n (q := 26) dX12_yard_25 rfl rfl ?_
  refine x_iconst (4) (q := 27) dX12_yard_26 rfl (by decide) ?_
  refine x_icmp_ge (t := 43) (q := 30) dX12_yard_27 (by decide) rfl (fun c27 => absurd c27 ((by decide))) (fun c27 => ?_)
  refine x_aload_n (q := 31) dX12_yard_30 rfl rfl ?_
  refine q_gr (K := 54) (b := 127) (q := 34) dX12_yard_31 rfl cl_12 (by decide) tw_1136 rfl rfl rfl ?_
  refine x_iconst (4) (q := 35) dX12_yard_34 rfl (by decide) ?_
  refine x_iload_n (q := 36) dX12_yard_35 rfl rfl ?_
  refine x_imul (q := 37) dX12_yard_36 rfl ?_
  refine x_iload_n (q := 38) dX12_yard_37 rfl rfl ?_
  refine x_iadd (q := 39) dX12_yard_38 rfl ?_
  refine q_iald (q := 40) dX12_yard_39 rfl rfl (by rw [nI4, nI_p1]; exact vp_in_nI (by omega) (by decide)) ?_
  refine x_goto (t := 90) dX12_yard_40 (by decide) ?_
  refine q_iret dX12_yard_90 rfl ?_
  rw [nI4, nI_p1, nI_clamp (by omega), mPut_o _ _ 127 _ (by decide) (by decide)]
  exact ⟨rfl, ⟨_, rfl⟩, rfl, rfl⟩
set_option maxRecDepth 100000 in
theorem c_Myard_g2 {I : MI} {b yn wn hn sn st : Nat} {r : MR} (J : MJ) (hr : RefOk r b) (h : RelL I b yn wn hn sn st) {y : Nat} (hy : y < yn) : Cq yX12_yard MX12_yard [.ref 100, .int (nI y), .int 2] I r J (Rm (ydF (yGet I y) (I 115 y) (I 117 y) 2) I r J) := by
  have hb0 : SH (r 0) = (15, 18) := by rw [hr.1]; exact (refs_L hr).1
  have h8 : yn ≤ 8 := h.1.2.2.1
  have ey : I (r 0) 1 = nI yn := by rw [hr.1]; exact h.1.2.1
  have em : I 100 41 = nI yn := h.2.2.1.1
  have hb28 := (refs_L hr).2
  have hb := (refs_L hr).1
  have hy8 : y < 8 := by omega
  have hcy : (nI y).toNatClampNeg = y := nI_clamp (by omega)
  refine cq_of [some (.ref 100), some (.int (nI y)), some (.int 2)] 0 (by decide +kernel) rfl rfl (Nat.le_of_ble_eq_true rfl) rfl ?_
  refine x_aload_n (q := 1) dX12_yard_0 rfl rfl ?_
  refine x_iload_n (q := 2) dX12_yard_1 rfl rfl ?_
  refine q_callV (ci := 12) (N := 79) (T := TX12) (As := [.int (nI y)]) (rest := []) (q := 5) dX12_yard_2 rfl okX12_isYard tw_1485 rfl rfl (c_mYard_g I r J em h8 hy) rfl rfl (Nat.le_of_ble_eq_true rfl) ⟨by decide, by decide⟩ ⟨rfl, rfl⟩ (fun rv_ I_ r_ J_ hv_ => ?_)
  obtain ⟨a1_, a2_, a3_, a4_⟩ := hv_
  rw [a1_, a2_, a3_, a4_]
  show Wq MX12_yard 5 [some (.ref 100), some (.int (nI y)), some (.int 2)] [.int 1] I r J _
  refine x_if_eq (t := 18) (q := 8) dX12_yard_5 (by decide) rfl (fun c5 => absurd c5 ((by decide))) (fun c5 => ?_)
  refine x_iload_n (q := 9) dX12_yard_8 rfl rfl ?_
  refine x_iconst (0) (q := 10) dX12_yard_9 rfl (by decide) ?_
  refine x_bipush (6) (q := 12) dX12_yard_10 rfl (by decide) ?_
  refine q_callS (As := [.int 2, .int 0, .int 6]) (rest := []) (q := 15) dX12_yard_12 rfl okX12_isIn tw_1450 (c_isIn_g I r J (by decide) (by decide)) rfl rfl (Nat.le_of_ble_eq_true rfl) ⟨by decide, by decide⟩ ⟨rfl, rfl⟩ (fun rv_ I_ r_ J_ hv_ => ?_)
  obtain ⟨a1_, a2_, a3_, a4_⟩ := hv_
  rw [a1_, a2_, a3_, a4_]
  show Wq MX12_yard 15 [some (.ref 100), some (.int (nI y)), some (.int 2)] [.int 1] I r J _
  refine x_if_ne (t := 20) (q := 18) dX12_yard_15 (by decide) rfl (fun c15 => ?_) (fun c15 => absurd c15 ((by decide)))
  refine x_aload_n (q := 21) dX12_yard_20 rfl rfl ?_
  refine x_iload_n (q := 22) dX12_yard_21 rfl rfl ?_
  refine q_callV (ci := 12) (N := 79) (T := TX12) (As := [.int (nI y)]) (rest := []) (q := 25) dX12_yard_22 rfl okX12_bring tw_1453 rfl rfl (by have k := c_bring y (by omega) I (mGet I) r J; rw [mPut_get] at k; exact k) rfl rfl (Nat.le_of_ble_eq_true rfl) ⟨by decide, by decide⟩ ⟨rfl, rfl⟩ (fun rv_ I_ r_ J_ hv_ => ?_)
  obtain ⟨a1_, a2_, a3_, a4_⟩ := hv_
  rw [a1_, a2_, a3_, a4_]
  show Wq MX12_yard 25 [some (.ref 100), some (.int (nI y)), some (.int 2)] [] (mPut I (yGet I y)) r J _
  refine x_iload_n (q := 26) dX12_yard_25 rfl rfl ?_
  refine x_iconst (4) (q := 27) dX12_yard_26 rfl (by decide) ?_
  refine x_icmp_ge (t := 43) (q := 30) dX12_yard_27 (by decide) rfl (fun c27 => absurd c27 ((by decide))) (fun c27 => ?_)
  refine x_aload_n (q := 31) dX12_yard_30 rfl rfl ?_
  refine q_gr (K := 54) (b := 127) (q := 34) dX12_yard_31 rfl cl_12 (by decide) tw_1136 rfl rfl rfl ?_
  refine x_iconst (4) (q := 35) dX12_yard_34 rfl (by decide) ?_
  refine x_iload_n (q := 36) dX12_yard_35 rfl rfl ?_
  refine x_imul (q := 37) dX12_yard_36 rfl ?_
  refine x_iload_n (q := 38) dX12_yard_37 rfl rfl ?_
  refine x_iadd (q := 39) dX12_yard_38 rfl ?_
  refine q_iald (q := 40) dX12_yard_39 rfl rfl (by rw [nI4, nI_p2]; exact vp_in_nI (by omega) (by decide)) ?_
  refine x_goto (t := 90) dX12_yard_40 (by decide) ?_
  refine q_iret dX12_yard_90 rfl ?_
  rw [nI4, nI_p2, nI_clamp (by omega), mPut_o _ _ 127 _ (by decide) (by decide)]
  exact ⟨rfl, ⟨_, rfl⟩, rfl, rfl⟩
set_option maxRecDepth 100000 in
theorem c_Myard_g3 {I : MI} {b yn wn hn sn st : Nat} {r : MR} (J : MJ) (hr : RefOk r b) (h : RelL I b yn wn hn sn st) {y : Nat} (hy : y < yn) : Cq yX12_yard MX12_yard [.ref 100, .int (nI y), .int 3] I r J (Rm (ydF (yGet I y) (I 115 y) (I 117 y) 3) I r J) := by
  have hb0 : SH (r 0) = (15, 18) := by rw [hr.1]; exact (refs_L hr).1
  have h8 : yn ≤ 8 := h.1.2.2.1
  have ey : I (r 0) 1 = nI yn := by rw [hr.1]; exact h.1.2.1
  have em : I 100 41 = nI yn := h.2.2.1.1
  have hb28 := (refs_L hr).2
  have hb := (refs_L hr).1
  have hy8 : y < 8 := by omega
  have hcy : (nI y).toNatClampNeg = y := nI_clamp (by omega)
  refine cq_of [some (.ref 100), some (.int (nI y)), some (.int 3)] 0 (by decide +kernel) rfl rfl (Nat.le_of_ble_eq_true rfl) rfl ?_
  refine x_aload_n (q := 1) dX12_yard_0 rfl rfl ?_
  refine x_iload_n (q := 2) dX12_yard_1 rfl rfl ?_
  refine q_callV (ci := 12) (N := 79) (T := TX12) (As := [.int (nI y)]) (rest := []) (q := 5) dX12_yard_2 rfl okX12_isYard tw_1485 rfl rfl (c_mYard_g I r J em h8 hy) rfl rfl (Nat.le_of_ble_eq_true rfl) ⟨by decide, by decide⟩ ⟨rfl, rfl⟩ (fun rv_ I_ r_ J_ hv_ => ?_)
  obtain ⟨a1_, a2_, a3_, a4_⟩ := hv_
  rw [a1_, a2_, a3_, a4_]
  show Wq MX12_yard 5 [some (.ref 100), some (.int (nI y)), some (.int 3)] [.int 1] I r J _
  refine x_if_eq (t := 18) (q := 8) dX12_yard_5 (by decide) rfl (fun c5 => absurd c5 ((by decide))) (fun c5 => ?_)
  refine x_iload_n (q := 9) dX12_yard_8 rfl rfl ?_
  refine x_iconst (0) (q := 10) dX12_yard_9 rfl (by decide) ?_
  refine x_bipush (6) (q := 12) dX12_yard_10 rfl (by decide) ?_
  refine q_callS (As := [.int 3, .int 0, .int 6]) (rest := []) (q := 15) dX12_yard_12 rfl okX12_isIn tw_1450 (c_isIn_g I r J (by decide) (by decide)) rfl rfl (Nat.le_of_ble_eq_true rfl) ⟨by decide, by decide⟩ ⟨rfl, rfl⟩ (fun rv_ I_ r_ J_ hv_ => ?_)
  obtain ⟨a1_, a2_, a3_, a4_⟩ := hv_
  rw [a1_, a2_, a3_, a4_]
  show Wq MX12_yard 15 [some (.ref 100), some (.int (nI y)), some (.int 3)] [.int 1] I r J _
  refine x_if_ne (t := 20) (q := 18) dX12_yard_15 (by decide) rfl (fun c15 => ?_) (fun c15 => absurd c15 ((by decide)))
  refine x_aload_n (q := 21) dX12_yard_20 rfl rfl ?_
  refine x_iload_n (q := 22) dX12_yard_21 rfl rfl ?_
  refine q_callV (ci := 12) (N := 79) (T := TX12) (As := [.int (nI y)]) (rest := []) (q := 25) dX12_yard_22 rfl okX12_bring tw_1453 rfl rfl (by have k := c_bring y (by omega) I (mGet I) r J; rw [mPut_get] at k; exact k) rfl rfl (Nat.le_of_ble_eq_true rfl) ⟨by decide, by decide⟩ ⟨rfl, rfl⟩ (fun rv_ I_ r_ J_ hv_ => ?_)
  obtain ⟨a1_, a2_, a3_, a4_⟩ := hv_
  rw [a1_, a2_, a3_, a4_]
  show Wq MX12_yard 25 [some (.ref 100), some (.int (nI y)), some (.int 3)] [] (mPut I (yGet I y)) r J _
  refine x_iload_n (q := 26) dX12_yard_25 rfl rfl ?_
  refine x_iconst (4) (q := 27) dX12_yard_26 rfl (by decide) ?_
  refine x_icmp_ge (t := 43) (q := 30) dX12_yard_27 (by decide) rfl (fun c27 => absurd c27 ((by decide))) (fun c27 => ?_)
  refine x_aload_n (q := 31) dX12_yard_30 rfl rfl ?_
  refine q_gr (K := 54) (b := 127) (q := 34) dX12_yard_31 rfl cl_12 (by decide) tw_1136 rfl rfl rfl ?_
  refine x_iconst (4) (q := 35) dX12_yard_34 rfl (by decide) ?_
  refine x_iload_n (q := 36) dX12_yard_35 rfl rfl ?_
  refine x_imul (q := 37) dX12_yard_36 rfl ?_
  refine x_iload_n (q := 38) dX12_yard_37 rfl rfl ?_
  refine x_iadd (q := 39) dX12_yard_38 rfl ?_
  refine q_iald (q := 40) dX12_yard_39 rfl rfl (by rw [nI4, nI_p3]; exact vp_in_nI (by omega) (by decide)) ?_
  refine x_goto (t := 90) dX12_yard_40 (by decide) ?_
  refine q_iret dX12_yard_90 rfl ?_
  rw [nI4, nI_p3, nI_clamp (by omega), mPut_o _ _ 127 _ (by decide) (by decide)]
  exact ⟨rfl, ⟨_, rfl⟩, rfl, rfl⟩
set_option maxRecDepth 100000 in
theorem c_Myard_g4 {I : MI} {b yn wn hn sn st : Nat} {r : MR} (J : MJ) (hr : RefOk r b) (h : RelL I b yn wn hn sn st) {y : Nat} (hy : y < yn) : Cq yX12_yard MX12_yard [.ref 100, .int (nI y), .int 4] I r J (Rm (ydF (yGet I y) (I 115 y) (I 117 y) 4) I r J) := by
  have hb0 : SH (r 0) = (15, 18) := by rw [hr.1]; exact (refs_L hr).1
  have h8 : yn ≤ 8 := h.1.2.2.1
  have ey : I (r 0) 1 = nI yn := by rw [hr.1]; exact h.1.2.1
  have em : I 100 41 = nI yn := h.2.2.1.1
  have hb28 := (refs_L hr).2
  have hb := (refs_L hr).1
  have hy8 : y < 8 := by omega
  have hcy : (nI y).toNatClampNeg = y := nI_clamp (by omega)
  refine cq_of [some (.ref 100), some (.int (nI y)), some (.int 4)] 0 (by decide +kernel) rfl rfl (Nat.le_of_ble_eq_true rfl) rfl ?_
  refine x_aload_n (q := 1) dX12_yard_0 rfl rfl ?_
  refine x_iload_n (q := 2) dX12_yard_1 rfl rfl ?_
  refine q_callV (ci := 12) (N := 79) (T := TX12) (As := [.int (nI y)]) (rest := []) (q := 5) dX12_yard_2 rfl okX12_isYard tw_1485 rfl rfl (c_mYard_g I r J em h8 hy) rfl rfl (Nat.le_of_ble_eq_true rfl) ⟨by decide, by decide⟩ ⟨rfl, rfl⟩ (fun rv_ I_ r_ J_ hv_ => ?_)
  obtain ⟨a1_, a2_, a3_, a4_⟩ := hv_
  rw [a1_, a2_, a3_, a4_]
  show Wq MX12_yard 5 [some (.ref 100), some (.int (nI y)), some (.int 4)] [.int 1] I r J _
  refine x_if_eq (t := 18) (q := 8) dX12_yard_5 (by decide) rfl (fun c5 => absurd c5 ((by decide))) (fun c5 => ?_)
  refine x_iload_n (q := 9) dX12_yard_8 rfl rfl ?_
  refine x_iconst (0) (q := 10) dX12_yard_9 rfl (by decide) ?_
  refine x_bipush (6) (q := 12) dX12_yard_10 rfl (by decide) ?_
  refine q_callS (As := [.int 4, .int 0, .int 6]) (rest := []) (q := 15) dX12_yard_12 rfl okX12_isIn tw_1450 (c_isIn_g I r J (by decide) (by decide)) rfl rfl (Nat.le_of_ble_eq_true rfl) ⟨by decide, by decide⟩ ⟨rfl, rfl⟩ (fun rv_ I_ r_ J_ hv_ => ?_)
  obtain ⟨a1_, a2_, a3_, a4_⟩ := hv_
  rw [a1_, a2_, a3_, a4_]
  show Wq MX12_yard 15 [some (.ref 100), some (.int (nI y)), some (.int 4)] [.int 1] I r J _
  refine x_if_ne (t := 20) (q := 18) dX12_yard_15 (by decide) rfl (fun c15 => ?_) (fun c15 => absurd c15 ((by decide)))
  refine x_aload_n (q := 21) dX12_yard_20 rfl rfl ?_
  refine x_iload_n (q := 22) dX12_yard_21 rfl rfl ?_
  refine q_callV (ci := 12) (N := 79) (T := TX12) (As := [.int (nI y)]) (rest := []) (q := 25) dX12_yard_22 rfl okX12_bring tw_1453 rfl rfl (by have k := c_bring y (by omega) I (mGet I) r J; rw [mPut_get] at k; exact k) rfl rfl (Nat.le_of_ble_eq_true rfl) ⟨by decide, by decide⟩ ⟨rfl, rfl⟩ (fun rv_ I_ r_ J_ hv_ => ?_)
  obtain ⟨a1_, a2_, a3_, a4_⟩ := hv_
  rw [a1_, a2_, a3_, a4_]
  show Wq MX12_yard 25 [some (.ref 100), some (.int (nI y)), some (.int 4)] [] (mPut I (yGet I y)) r J _
  refine x_iload_n (q := 26) dX12_yard_25 rfl rfl ?_
  refine x_iconst (4) (q := 27) dX12_yard_26 rfl (by decide) ?_
  refine x_icmp_ge (t := 43) (q := 30) dX12_yard_27 (by decide) rfl (fun c27 => ?_) (fun c27 => absurd c27 ((by decide)))
  refine x_iload_n (q := 44) dX12_yard_43 rfl rfl ?_
  refine x_iconst (4) (q := 45) dX12_yard_44 rfl (by decide) ?_
  refine x_icmp_ne (t := 63) (q := 48) dX12_yard_45 (by decide) rfl (fun c45 => absurd c45 ((by decide))) (fun c45 => ?_)
  refine x_aload_n (q := 49) dX12_yard_48 rfl rfl ?_
  refine q_callV (ci := 12) (N := 79) (T := TX12) (As := []) (rest := []) (q := 52) dX12_yard_49 rfl okX12_isWhite tw_1493 rfl rfl (c_misWhite _ _ _) rfl rfl (Nat.le_of_ble_eq_true rfl) ⟨by decide, by decide⟩ ⟨rfl, rfl⟩ (fun rv_ I_ r_ J_ hv_ => ?_)
  obtain ⟨a1_, a2_, a3_, a4_⟩ := hv_
  rw [mPut_50] at a1_
  rw [a1_, a2_, a3_, a4_]
  show Wq MX12_yard 52 [some (.ref 100), some (.int (nI y)), some (.int 4)] [.int (whiteF (yGet I y 6))] (mPut I (yGet I y)) r J _
  refine x_if_eq (t := 59) (q := 55) dX12_yard_52 (by decide) rfl (fun c52 => ?_) (fun c52 => ?_)
  · refine x_iconst (0) (q := 60) dX12_yard_59 rfl (by decide) ?_
    refine x_goto (t := 90) dX12_yard_60 (by decide) ?_
    refine q_iret dX12_yard_90 rfl ?_
    show Rm (whiteF (yGet I y 6)) I r J _ _ _ _
    rw [c52]
    exact ⟨rfl, ⟨_, rfl⟩, rfl, rfl⟩
  · refine x_iconst (1) (q := 56) dX12_yard_55 rfl (by decide) ?_
    refine x_goto (t := 90) dX12_yard_56 (by decide) ?_
    refine q_iret dX12_yard_90 rfl ?_
    have e : whiteF (yGet I y 6) = 1 := by
      rcases wh_01 (yGet I y 6) with q | q
      · exact absurd q c52
      · exact q
    show Rm (whiteF (yGet I y 6)) I r J _ _ _ _
    rw [e]
    exact ⟨rfl, ⟨_, rfl⟩, rfl, rfl⟩
set_option maxRecDepth 100000 in
theorem c_Myard_g5 {I : MI} {b yn wn hn sn st : Nat} {r : MR} (J : MJ) (hr : RefOk r b) (h : RelL I b yn wn hn sn st) {y : Nat} (hy : y < yn) : Cq yX12_yard MX12_yard [.ref 100, .int (nI y), .int 5] I r J (Rm (ydF (yGet I y) (I 115 y) (I 117 y) 5) I r J) := by
  have hb0 : SH (r 0) = (15, 18) := by rw [hr.1]; exact (refs_L hr).1
  have h8 : yn ≤ 8 := h.1.2.2.1
  have ey : I (r 0) 1 = nI yn := by rw [hr.1]; exact h.1.2.1
  have em : I 100 41 = nI yn := h.2.2.1.1
  have hb28 := (refs_L hr).2
  have hb := (refs_L hr).1
  have hy8 : y < 8 := by omega
  have hcy : (nI y).toNatClampNeg = y := nI_clamp (by omega)
  refine cq_of [some (.ref 100), some (.int (nI y)), some (.int 5)] 0 (by decide +kernel) rfl rfl (Nat.le_of_ble_eq_true rfl) rfl ?_
  refine x_aload_n (q := 1) dX12_yard_0 rfl rfl ?_
  refine x_iload_n (q := 2) dX12_yard_1 rfl rfl ?_
  refine q_callV (ci := 12) (N := 79) (T := TX12) (As := [.int (nI y)]) (rest := []) (q := 5) dX12_yard_2 rfl okX12_isYard tw_1485 rfl rfl (c_mYard_g I r J em h8 hy) rfl rfl (Nat.le_of_ble_eq_true rfl) ⟨by decide, by decide⟩ ⟨rfl, rfl⟩ (fun rv_ I_ r_ J_ hv_ => ?_)
  obtain ⟨a1_, a2_, a3_, a4_⟩ := hv_
  rw [a1_, a2_, a3_, a4_]
  show Wq MX12_yard 5 [some (.ref 100), some (.int (nI y)), some (.int 5)] [.int 1] I r J _
  refine x_if_eq (t := 18) (q := 8) dX12_yard_5 (by decide) rfl (fun c5 => absurd c5 ((by decide))) (fun c5 => ?_)
  refine x_iload_n (q := 9) dX12_yard_8 rfl rfl ?_
  refine x_iconst (0) (q := 10) dX12_yard_9 rfl (by decide) ?_
  refine x_bipush (6) (q := 12) dX12_yard_10 rfl (by decide) ?_
  refine q_callS (As := [.int 5, .int 0, .int 6]) (rest := []) (q := 15) dX12_yard_12 rfl okX12_isIn tw_1450 (c_isIn_g I r J (by decide) (by decide)) rfl rfl (Nat.le_of_ble_eq_true rfl) ⟨by decide, by decide⟩ ⟨rfl, rfl⟩ (fun rv_ I_ r_ J_ hv_ => ?_)
  obtain ⟨a1_, a2_, a3_, a4_⟩ := hv_
  rw [a1_, a2_, a3_, a4_]
  show Wq MX12_yard 15 [some (.ref 100), some (.int (nI y)), some (.int 5)] [.int 1] I r J _
  refine x_if_ne (t := 20) (q := 18) dX12_yard_15 (by decide) rfl (fun c15 => ?_) (fun c15 => absurd c15 ((by decide)))
  refine x_aload_n (q := 21) dX12_yard_20 rfl rfl ?_
  refine x_iload_n (q := 22) dX12_yard_21 rfl rfl ?_
  refine q_callV (ci := 12) (N := 79) (T := TX12) (As := [.int (nI y)]) (rest := []) (q := 25) dX12_yard_22 rfl okX12_bring tw_1453 rfl rfl (by have k := c_bring y (by omega) I (mGet I) r J; rw [mPut_get] at k; exact k) rfl rfl (Nat.le_of_ble_eq_true rfl) ⟨by decide, by decide⟩ ⟨rfl, rfl⟩ (fun rv_ I_ r_ J_ hv_ => ?_)
  obtain ⟨a1_, a2_, a3_, a4_⟩ := hv_
  rw [a1_, a2_, a3_, a4_]
  show Wq MX12_yard 25 [some (.ref 100), some (.int (nI y)), some (.int 5)] [] (mPut I (yGet I y)) r J _
  refine x_iload_n (q := 26) dX12_yard_25 rfl rfl ?_
  refine x_iconst (4) (q := 27) dX12_yard_26 rfl (by decide) ?_
  refine x_icmp_ge (t := 43) (q := 30) dX12_yard_27 (by decide) rfl (fun c27 => ?_) (fun c27 => absurd c27 ((by decide)))
  refine x_iload_n (q := 44) dX12_yard_43 rfl rfl ?_
  refine x_iconst (4) (q := 45) dX12_yard_44 rfl (by decide) ?_
  refine x_icmp_ne (t := 63) (q := 48) dX12_yard_45 (by decide) rfl (fun c45 => ?_) (fun c45 => absurd c45 ((by decide)))
  refine x_iload_n (q := 64) dX12_yard_63 rfl rfl ?_
  refine x_iconst (5) (q := 65) dX12_yard_64 rfl (by decide) ?_
  refine x_icmp_ne (t := 84) (q := 68) dX12_yard_65 (by decide) rfl (fun c65 => absurd c65 ((by decide))) (fun c65 => ?_)
  refine x_aload_n (q := 69) dX12_yard_68 rfl rfl ?_
  refine x_iload_n (q := 70) dX12_yard_69 rfl rfl ?_
  refine q_callV (ci := 12) (N := 79) (T := TX12) (As := [.int (nI y)]) (rest := []) (q := 73) dX12_yard_70 rfl okX12_isBlocked tw_1497 rfl rfl (c_misBlocked y hy8 _ _ _) rfl rfl (Nat.le_of_ble_eq_true rfl) ⟨by decide, by decide⟩ ⟨rfl, rfl⟩ (fun rv_ I_ r_ J_ hv_ => ?_)
  obtain ⟨a1_, a2_, a3_, a4_⟩ := hv_
  rw [mPut_50, mPut_51, mPut_o _ _ 115 _ (by decide) (by decide)] at a1_
  rw [a1_, a2_, a3_, a4_]
  show Wq MX12_yard 73 [some (.ref 100), some (.int (nI y)), some (.int 5)] [.int (blockedF (I 115 y) (yGet I y 6) (yGet I y 7))] (mPut I (yGet I y)) r J _
  refine x_if_eq (t := 80) (q := 76) dX12_yard_73 (by decide) rfl (fun c73 => ?_) (fun c73 => ?_)
  · refine x_iconst (0) (q := 81) dX12_yard_80 rfl (by decide) ?_
    refine x_goto (t := 90) dX12_yard_81 (by decide) ?_
    refine q_iret dX12_yard_90 rfl ?_
    show Rm (blockedF (I 115 y) (yGet I y 6) (yGet I y 7)) I r J _ _ _ _
    rw [c73]
    exact ⟨rfl, ⟨_, rfl⟩, rfl, rfl⟩
  · refine x_iconst (1) (q := 77) dX12_yard_76 rfl (by decide) ?_
    refine x_goto (t := 90) dX12_yard_77 (by decide) ?_
    refine q_iret dX12_yard_90 rfl ?_
    have e : blockedF (I 115 y) (yGet I y 6) (yGet I y 7) = 1 := by
      rcases bl_01 (I 115 y) (yGet I y 6) (yGet I y 7) with q | q
      · exact absurd q c73
      · exact q
    show Rm (blockedF (I 115 y) (yGet I y 6) (yGet I y 7)) I r J _ _ _ _
    rw [e]
    exact ⟨rfl, ⟨_, rfl⟩, rfl, rfl⟩
set_option maxRecDepth 100000 in
theorem c_Myard_g6 {I : MI} {b yn wn hn sn st : Nat} {r : MR} (J : MJ) (hr : RefOk r b) (h : RelL I b yn wn hn sn st) {y : Nat} (hy : y < yn) : Cq yX12_yard MX12_yard [.ref 100, .int (nI y), .int 6] I r J (Rm (ydF (yGet I y) (I 115 y) (I 117 y) 6) I r J) := by
  have hb0 : SH (r 0) = (15, 18) := by rw [hr.1]; exact (refs_L hr).1
  have h8 : yn ≤ 8 := h.1.2.2.1
  have ey : I (r 0) 1 = nI yn := by rw [hr.1]; exact h.1.2.1
  have em : I 100 41 = nI yn := h.2.2.1.1
  have hb28 := (refs_L hr).2
  have hb := (refs_L hr).1
  have hy8 : y < 8 := by omega
  have hcy : (nI y).toNatClampNeg = y := nI_clamp (by omega)
  refine cq_of [some (.ref 100), some (.int (nI y)), some (.int 6)] 0 (by decide +kernel) rfl rfl (Nat.le_of_ble_eq_true rfl) rfl ?_
  refine x_aload_n (q := 1) dX12_yard_0 rfl rfl ?_
  refine x_iload_n (q := 2) dX12_yard_1 rfl rfl ?_
  refine q_callV (ci := 12) (N := 79) (T := TX12) (As := [.int (nI y)]) (rest := []) (q := 5) dX12_yard_2 rfl okX12_isYard tw_1485 rfl rfl (c_mYard_g I r J em h8 hy) rfl rfl (Nat.le_of_ble_eq_true rfl) ⟨by decide, by decide⟩ ⟨rfl, rfl⟩ (fun rv_ I_ r_ J_ hv_ => ?_)
  obtain ⟨a1_, a2_, a3_, a4_⟩ := hv_
  rw [a1_, a2_, a3_, a4_]
  show Wq MX12_yard 5 [some (.ref 100), some (.int (nI y)), some (.int 6)] [.int 1] I r J _
  refine x_if_eq (t := 18) (q := 8) dX12_yard_5 (by decide) rfl (fun c5 => absurd c5 ((by decide))) (fun c5 => ?_)
  refine x_iload_n (q := 9) dX12_yard_8 rfl rfl ?_
  refine x_iconst (0) (q := 10) dX12_yard_9 rfl (by decide) ?_
  refine x_bipush (6) (q := 12) dX12_yard_10 rfl (by decide) ?_
  refine q_callS (As := [.int 6, .int 0, .int 6]) (rest := []) (q := 15) dX12_yard_12 rfl okX12_isIn tw_1450 (c_isIn_g I r J (by decide) (by decide)) rfl rfl (Nat.le_of_ble_eq_true rfl) ⟨by decide, by decide⟩ ⟨rfl, rfl⟩ (fun rv_ I_ r_ J_ hv_ => ?_)
  obtain ⟨a1_, a2_, a3_, a4_⟩ := hv_
  rw [a1_, a2_, a3_, a4_]
  show Wq MX12_yard 15 [some (.ref 100), some (.int (nI y)), some (.int 6)] [.int 1] I r J _
  refine x_if_ne (t := 20) (q := 18) dX12_yard_15 (by decide) rfl (fun c15 => ?_) (fun c15 => absurd c15 ((by decide)))
  refine x_aload_n (q := 21) dX12_yard_20 rfl rfl ?_
  refine x_iload_n (q := 22) dX12_yard_21 rfl rfl ?_
  refine q_callV (ci := 12) (N := 79) (T := TX12) (As := [.int (nI y)]) (rest := []) (q := 25) dX12_yard_22 rfl okX12_bring tw_1453 rfl rfl (by have k := c_bring y (by omega) I (mGet I) r J; rw [mPut_get] at k; exact k) rfl rfl (Nat.le_of_ble_eq_true rfl) ⟨by decide, by decide⟩ ⟨rfl, rfl⟩ (fun rv_ I_ r_ J_ hv_ => ?_)
  obtain ⟨a1_, a2_, a3_, a4_⟩ := hv_
  rw [a1_, a2_, a3_, a4_]
  show Wq MX12_yard 25 [some (.ref 100), some (.int (nI y)), some (.int 6)] [] (mPut I (yGet I y)) r J _
  refine x_iload_n (q := 26) dX12_yard_25 rfl rfl ?_
  refine x_iconst (4) (q := 27) dX12_yard_26 rfl (by decide) ?_
  refine x_icmp_ge (t := 43) (q := 30) dX12_yard_27 (by decide) rfl (fun c27 => ?_) (fun c27 => absurd c27 ((by decide)))
  refine x_iload_n (q := 44) dX12_yard_43 rfl rfl ?_
  refine x_iconst (4) (q := 45) dX12_yard_44 rfl (by decide) ?_
  refine x_icmp_ne (t := 63) (q := 48) dX12_yard_45 (by decide) rfl (fun c45 => ?_) (fun c45 => absurd c45 ((by decide)))
  refine x_iload_n (q := 64) dX12_yard_63 rfl rfl ?_
  refine x_iconst (5) (q := 65) dX12_yard_64 rfl (by decide) ?_
  refine x_icmp_ne (t := 84) (q := 68) dX12_yard_65 (by decide) rfl (fun c65 => ?_) (fun c65 => absurd c65 ((by decide)))
  refine x_aload_n (q := 85) dX12_yard_84 rfl rfl ?_
  refine q_gr (K := 25) (b := 117) (q := 88) dX12_yard_85 rfl cl_12 (by decide) tw_1107 rfl rfl rfl ?_
  refine x_iload_n (q := 89) dX12_yard_88 rfl rfl ?_
  refine q_iald (q := 90) dX12_yard_89 rfl rfl (vp_in_nI hy8 (by decide)) ?_
  refine q_iret dX12_yard_90 rfl ?_
  rw [hcy, mPut_o _ _ 117 _ (by decide) (by decide)]
  exact ⟨rfl, ⟨_, rfl⟩, rfl, rfl⟩
set_option maxRecDepth 100000 in
theorem c_Myard_1 {I : MI} {b yn wn hn sn st : Nat} {r : MR} (J : MJ) (hr : RefOk r b) (h : RelL I b yn wn hn sn st) {x z : Int32} (hno : ¬ ∃ k, k < yn ∧ x = nI k) : Cq yX12_yard MX12_yard [.ref 100, .int x, .int z] I r J (Rm (-1) I r J) := by
  have hb0 : SH (r 0) = (15, 18) := by rw [hr.1]; exact (refs_L hr).1
  have h8 : yn ≤ 8 := h.1.2.2.1
  have ey : I (r 0) 1 = nI yn := by rw [hr.1]; exact h.1.2.1
  have em : I 100 41 = nI yn := h.2.2.1.1
  have hb28 := (refs_L hr).2
  have hb := (refs_L hr).1
  refine cq_of [some (.ref 100), some (.int x), some (.int z)] 0 (by decide +kernel) rfl rfl (Nat.le_of_ble_eq_true rfl) rfl ?_
  refine x_aload_n (q := 1) dX12_yard_0 rfl rfl ?_
  refine x_iload_n (q := 2) dX12_yard_1 rfl rfl ?_
  refine q_callV (ci := 12) (N := 79) (T := TX12) (As := [.int x]) (rest := []) (q := 5) dX12_yard_2 rfl okX12_isYard tw_1485 rfl rfl (c_mYard_b I r J em h8 hno) rfl rfl (Nat.le_of_ble_eq_true rfl) ⟨by decide, by decide⟩ ⟨rfl, rfl⟩ (fun rv_ I_ r_ J_ hv_ => ?_)
  obtain ⟨a1_, a2_, a3_, a4_⟩ := hv_
  rw [a1_, a2_, a3_, a4_]
  show Wq MX12_yard 5 [some (.ref 100), some (.int x), some (.int z)] [.int 0] I r J _
  refine x_if_eq (t := 18) (q := 8) dX12_yard_5 (by decide) rfl (fun c5 => ?_) (fun c5 => absurd c5 ((by decide)))
  refine x_iconst (-1) (q := 19) dX12_yard_18 rfl (by decide) ?_
  refine q_iret dX12_yard_19 rfl ?_
  exact Rm_same
set_option maxRecDepth 100000 in
theorem c_Myard_2 {I : MI} {b yn wn hn sn st : Nat} {r : MR} (J : MJ) (hr : RefOk r b) (h : RelL I b yn wn hn sn st) {y : Nat} (hy : y < yn) {w : Int32} (hw : w.toInt < 0 ∨ 6 < w.toInt) : Cq yX12_yard MX12_yard [.ref 100, .int (nI y), .int w] I r J (Rm (-1) I r J) := by
  have hb0 : SH (r 0) = (15, 18) := by rw [hr.1]; exact (refs_L hr).1
  have h8 : yn ≤ 8 := h.1.2.2.1
  have ey : I (r 0) 1 = nI yn := by rw [hr.1]; exact h.1.2.1
  have em : I 100 41 = nI yn := h.2.2.1.1
  have hb28 := (refs_L hr).2
  have hb := (refs_L hr).1
  refine cq_of [some (.ref 100), some (.int (nI y)), some (.int w)] 0 (by decide +kernel) rfl rfl (Nat.le_of_ble_eq_true rfl) rfl ?_
  refine x_aload_n (q := 1) dX12_yard_0 rfl rfl ?_
  refine x_iload_n (q := 2) dX12_yard_1 rfl rfl ?_
  refine q_callV (ci := 12) (N := 79) (T := TX12) (As := [.int (nI y)]) (rest := []) (q := 5) dX12_yard_2 rfl okX12_isYard tw_1485 rfl rfl (c_mYard_g I r J em h8 hy) rfl rfl (Nat.le_of_ble_eq_true rfl) ⟨by decide, by decide⟩ ⟨rfl, rfl⟩ (fun rv_ I_ r_ J_ hv_ => ?_)
  obtain ⟨a1_, a2_, a3_, a4_⟩ := hv_
  rw [a1_, a2_, a3_, a4_]
  show Wq MX12_yard 5 [some (.ref 100), some (.int (nI y)), some (.int w)] [.int 1] I r J _
  refine x_if_eq (t := 18) (q := 8) dX12_yard_5 (by decide) rfl (fun c5 => absurd c5 ((by decide))) (fun c5 => ?_)
  refine x_iload_n (q := 9) dX12_yard_8 rfl rfl ?_
  refine x_iconst (0) (q := 10) dX12_yard_9 rfl (by decide) ?_
  refine x_bipush (6) (q := 12) dX12_yard_10 rfl (by decide) ?_
  refine q_callS (As := [.int w, .int 0, .int 6]) (rest := []) (q := 15) dX12_yard_12 rfl okX12_isIn tw_1450 (c_isIn_b I r J (fun q => by have q1 := Int32.le_iff_toInt_le.mp q.1; have q2 := Int32.le_iff_toInt_le.mp q.2; rw [Int32.toInt_zero] at q1; have c6 : (6 : Int32).toInt = 6 := (by decide); omega)) rfl rfl (Nat.le_of_ble_eq_true rfl) ⟨by decide, by decide⟩ ⟨rfl, rfl⟩ (fun rv_ I_ r_ J_ hv_ => ?_)
  obtain ⟨a1_, a2_, a3_, a4_⟩ := hv_
  rw [a1_, a2_, a3_, a4_]
  show Wq MX12_yard 15 [some (.ref 100), some (.int (nI y)), some (.int w)] [.int 0] I r J _
  refine x_if_ne (t := 20) (q := 18) dX12_yard_15 (by decide) rfl (fun c15 => absurd c15 ((by decide))) (fun c15 => ?_)
  refine x_iconst (-1) (q := 19) dX12_yard_18 rfl (by decide) ?_
  refine q_iret dX12_yard_19 rfl ?_
  exact Rm_same
theorem yd_eq {I : MI} {G : GT} {b yn wn hn sn st y : Nat} (hb : b ≤ 28) (hl : RelL I b yn wn hn sn st) (hy : y < yn) (k : Nat) : ydF (yGet (gPut I 77 G) y) (gPut I 77 G 115 y) (gPut I 77 G 117 y) k = ydF (gGet I (60 + 2 * y)) (I (b + 10 + 2 * y) 2) (I (b + 10 + 2 * y) 4) k := by
  have e : yGet (gPut I 77 G) y = yGet I y := by
    unfold yGet
    rw [g77c (by decide) (by decide), g77c (by decide) (by decide)]
  obtain ⟨p1, p2, p3, p4, p5⟩ := hl.2.2.1.2.2.1 y hy
  have g := (day_GC hl hy).2.2
  unfold ydF
  rw [e, g77c (by decide) (by decide), g77c (by decide) (by decide), p2, p4, g.2 5 (by decide) (by decide), g.2 6 (by decide) (by decide), g.2 7 (by decide) (by decide), g.2 8 (by decide) (by decide)]
theorem op_yard (x w : Int32) : OpOk yX11_yard MX11_yard yX12_yard MX12_yard [.int x, .int w] := by
  intro I r J hrel
  obtain ⟨b, yn, wn, hn, sn, st, hr, hl, hR, hJ⟩ := hrel
  have hb := (refs_L hr).2
  by_cases h1 : ∃ k, k < yn ∧ x = nI k
  · obtain ⟨y, hy, rfl⟩ := h1
    rcases w7 w with rfl | rfl | rfl | rfl | rfl | rfl | rfl | hw
    · exact op_ask hr hl hR hJ (c_Xyard_g0 J hr hl hy) (fun G g1 g2 => by have k := c_Myard_g0 J hr g1 hy; rw [yd_eq hb hl hy] at k; exact k)
    · exact op_ask hr hl hR hJ (c_Xyard_g1 J hr hl hy) (fun G g1 g2 => by have k := c_Myard_g1 J hr g1 hy; rw [yd_eq hb hl hy] at k; exact k)
    · exact op_ask hr hl hR hJ (c_Xyard_g2 J hr hl hy) (fun G g1 g2 => by have k := c_Myard_g2 J hr g1 hy; rw [yd_eq hb hl hy] at k; exact k)
    · exact op_ask hr hl hR hJ (c_Xyard_g3 J hr hl hy) (fun G g1 g2 => by have k := c_Myard_g3 J hr g1 hy; rw [yd_eq hb hl hy] at k; exact k)
    · exact op_ask hr hl hR hJ (c_Xyard_g4 J hr hl hy) (fun G g1 g2 => by have k := c_Myard_g4 J hr g1 hy; rw [yd_eq hb hl hy] at k; exact k)
    · exact op_ask hr hl hR hJ (c_Xyard_g5 J hr hl hy) (fun G g1 g2 => by have k := c_Myard_g5 J hr g1 hy; rw [yd_eq hb hl hy] at k; exact k)
    · exact op_ask hr hl hR hJ (c_Xyard_g6 J hr hl hy) (fun G g1 g2 => by have k := c_Myard_g6 J hr g1 hy; rw [yd_eq hb hl hy] at k; exact k)
    · exact op_ask hr hl hR hJ (c_Xyard_2 J hr hl hy hw) (fun G g1 g2 => c_Myard_2 J hr g1 hy hw)
  · exact op_ask hr hl hR hJ (c_Xyard_1 J hr hl h1) (fun G g1 g2 => c_Myard_1 J hr g1 h1)
