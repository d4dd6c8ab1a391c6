theorem PM_p {T : Nat → Nat} {n : Nat} {s s' : Nat × Nat × Nat} {M : MI} {J : MJ} (h : PM T n s M J) (h0 : ¬ s.1 = 0) (e1 : s'.1 = s.1) (e2 : s'.2.1 = s.2.1) (h3 : s'.2.2 ≤ n) : PM T n s' M J := ⟨h.1, h.2.1, by rw [e1]; exact h.2.2.1, by rw [e1, e2]; exact h.2.2.2.1, h3, by rw [e1]; exact h.2.2.2.2.2.1, fun z => absurd (e1.symm.trans z) h0⟩
def RMv (T : Nat → Nat) (n : Nat) (s : Nat × Nat × Nat) (val : Int32) (M : MI) (J : MJ) (r : MR) : Option Value → MI → MR → MJ → Prop := fun v Y r' K => ∃ x : Int32, v = some (.int x) ∧ (s.1 = 0 → x = val) ∧ PM T n s Y K ∧ FM M J Y K ∧ r' = r
theorem rfT_s {T : Nat → Nat} {n : Nat} {s : Nat × Nat × Nat} (h : ¬ s.1 = 0) : rfT T n s = s := rf_s h
theorem rf_p {k g : Nat} {s : Nat × Nat × Nat} (h : s.1 = 0) : rf k g s = (k, g, s.2.2) := if_pos h
set_option maxRecDepth 100000 in
theorem c_tnM_f {T : Nat → Nat} {n : Nat} (r : MR) {M : MI} {J : MJ} {s : Nat × Nat × Nat} (h : PM T n s M J) (h0 : ¬ s.1 = 0) (lo hi val : Int32) : Cq yX12_toldNumber MX12_toldNumber [.ref 100, .int lo, .int hi] M r J (RMv T n s val M J r) := by
  have q1 := h.2.2.1
  have q2 := h.2.2.2.1
  have q3 := h.2.2.2.2.1
  have q4 := h.2.2.2.2.2.1
  have hn := h.1.1
  refine cq_of [some (.ref 100), some (.int lo), some (.int hi), none] 1 (by decide +kernel) rfl rfl (Nat.le_of_ble_eq_true rfl) rfl ?_
  refine x_aload_n (q := 1) dX12_toldNumber_0 rfl rfl ?_
  refine q_gi (K := 2) (q := 4) dX12_toldNumber_1 rfl cl_12 (by decide) tw_1084 rfl rfl ?_
  refine x_if_le (t := 9) (q := 7) dX12_toldNumber_4 (by decide) rfl (fun c4 => absurd c4 (fun z => h0 ((f_le q1 q4).mp z))) (fun c4 => ?_)
  refine x_iconst (0) (q := 8) dX12_toldNumber_7 rfl (by decide) ?_
  refine q_iret dX12_toldNumber_8 rfl ?_
  exact ⟨_, rfl, fun z => absurd z h0, h, FM.rf, rfl⟩
set_option maxRecDepth 100000 in
theorem c_tnM_b {T : Nat → Nat} {n : Nat} (r : MR) {M : MI} {J : MJ} {s : Nat × Nat × Nat} (h : PM T n s M J) (h0 : s.1 = 0) (hk : ¬ kd T n s.2.2 = 3) (lo hi val : Int32) : Cq yX12_toldNumber MX12_toldNumber [.ref 100, .int lo, .int hi] M r J (RMv T n (rfT T n s) val M J r) := by
  have q1 := h.2.2.1
  have q2 := h.2.2.2.1
  have q3 := h.2.2.2.2.1
  have q4 := h.2.2.2.2.2.1
  have hn := h.1.1
  have hL := h.2.2.2.2.2.2 h0
  refine cq_of [some (.ref 100), some (.int lo), some (.int hi), none] 1 (by decide +kernel) rfl rfl (Nat.le_of_ble_eq_true rfl) rfl ?_
  refine x_aload_n (q := 1) dX12_toldNumber_0 rfl rfl ?_
  refine q_gi (K := 2) (q := 4) dX12_toldNumber_1 rfl cl_12 (by decide) tw_1084 rfl rfl ?_
  refine x_if_le (t := 9) (q := 7) dX12_toldNumber_4 (by decide) rfl (fun c4 => ?_) (fun c4 => absurd c4 (fun z => z ((f_le q1 q4).mpr h0)))
  refine x_aload_n (q := 10) dX12_toldNumber_9 rfl rfl ?_
  refine q_gi (K := 6) (q := 13) dX12_toldNumber_10 rfl cl_12 (by decide) tw_1088 rfl rfl ?_
  refine x_iconst (2) (q := 14) dX12_toldNumber_13 rfl (by decide) ?_
  refine x_icmp_eq (t := 25) (q := 17) dX12_toldNumber_14 (by decide) rfl (fun c14 => absurd c14 (fun z => hk ((ms_c 3 hL.2.1 (by decide) rfl).mp z))) (fun c14 => ?_)
  refine x_aload_n (q := 18) dX12_toldNumber_17 rfl rfl ?_
  refine x_iconst (2) (q := 19) dX12_toldNumber_18 rfl (by decide) ?_
  refine q_callV (ci := 12) (N := 79) (T := TX12) (As := [.int 2]) (rest := []) (q := 22) dX12_toldNumber_19 rfl okX12_wrong tw_1390 rfl rfl (c_wr r h (k := 2) (by decide) h0) rfl rfl (Nat.le_of_ble_eq_true rfl) ⟨by decide, by decide⟩ ⟨rfl, rfl⟩ (fun rv_ V r_ K hv_ => ?_)
  obtain ⟨a1_, hV, hF, a3_⟩ := hv_
  rw [a1_, a3_]
  show Wq MX12_toldNumber 22 [some (.ref 100), some (.int lo), some (.int hi), none] [] V r K _
  refine x_goto (t := 46) dX12_toldNumber_22 (by decide) ?_
  refine x_aload_n (q := 47) dX12_toldNumber_46 rfl rfl ?_
  refine q_gi (K := 8) (q := 50) dX12_toldNumber_47 rfl cl_12 (by decide) tw_1090 rfl rfl ?_
  refine x_nmi (fun v1 ev1 => ?_)
  refine x_istore_n (L2 := [some (.ref 100), some (.int lo), some (.int hi), some (.int v1)]) (q := 51) dX12_toldNumber_50 rfl (by decide) rfl rfl ?_
  refine x_aload_n (q := 52) dX12_toldNumber_51 rfl rfl ?_
  refine q_gi (K := 2) (q := 55) dX12_toldNumber_52 rfl cl_12 (by decide) tw_1084 rfl rfl ?_
  refine x_if_ne (t := 62) (q := 58) dX12_toldNumber_55 (by decide) rfl (fun c55 => ?_) (fun c55 => absurd c55 (fun z => rfT_n (f_0 hV.2.2.1 hV.2.2.2.2.2.1 z)))
  refine x_iload_n (q := 63) dX12_toldNumber_62 rfl rfl ?_
  refine q_iret dX12_toldNumber_63 rfl ?_
  exact ⟨_, rfl, fun z => absurd z rfT_n, hV, hF, rfl⟩
set_option maxRecDepth 100000 in
theorem c_tnM_g {T : Nat → Nat} {n : Nat} (r : MR) {M : MI} {J : MJ} {s : Nat × Nat × Nat} (h : PM T n s M J) {lo hi : Nat} (hlo : lo < 10000) (hhi : hi < 10000) (h0 : s.1 = 0) (hk : kd T n s.2.2 = 3) (hr : lo ≤ vl T n s.2.2 ∧ vl T n s.2.2 ≤ hi) : Cq yX12_toldNumber MX12_toldNumber [.ref 100, .int (nI lo), .int (nI hi)] M r J (RMv T n (adv T n s) (nI (vl T n s.2.2)) M J r) := by
  have q1 := h.2.2.1
  have q2 := h.2.2.2.1
  have q3 := h.2.2.2.2.1
  have q4 := h.2.2.2.2.2.1
  have hn := h.1.1
  have hL := h.2.2.2.2.2.2 h0
  have e8 : M 100 8 = nI (vl T n s.2.2) := hL.2.2.2.1 hk
  have v8 := vl_lt hk
  refine cq_of [some (.ref 100), some (.int (nI lo)), some (.int (nI hi)), none] 1 (by decide +kernel) rfl rfl (Nat.le_of_ble_eq_true rfl) rfl ?_
  refine x_aload_n (q := 1) dX12_toldNumber_0 rfl rfl ?_
  refine q_gi (K := 2) (q := 4) dX12_toldNumber_1 rfl cl_12 (by decide) tw_1084 rfl rfl ?_
  refine x_if_le (t := 9) (q := 7) dX12_toldNumber_4 (by decide) rfl (fun c4 => ?_) (fun c4 => absurd c4 (fun z => z ((f_le q1 q4).mpr h0)))
  refine x_aload_n (q := 10) dX12_toldNumber_9 rfl rfl ?_
  refine q_gi (K := 6) (q := 13) dX12_toldNumber_10 rfl cl_12 (by decide) tw_1088 rfl rfl ?_
  refine x_iconst (2) (q := 14) dX12_toldNumber_13 rfl (by decide) ?_
  refine x_icmp_eq (t := 25) (q := 17) dX12_toldNumber_14 (by decide) rfl (fun c14 => ?_) (fun c14 => absurd c14 (fun z => z ((ms_c 3 hL.2.1 (by decide) rfl).mpr hk)))
  refine x_aload_n (q := 26) dX12_toldNumber_25 rfl rfl ?_
  refine q_gi (K := 8) (q := 29) dX12_toldNumber_26 rfl cl_12 (by decide) tw_1090 rfl rfl ?_
  refine x_iload_n (q := 30) dX12_toldNumber_29 rfl rfl ?_
  refine x_icmp_lt (t := 41) (q := 33) dX12_toldNumber_30 (by decide) rfl (fun c30 => absurd c30 (fun z => absurd ((nI_ltI (a := vl T n s.2.2) (b := lo) (by omega) (by omega)).mp (by rw [e8] at z; exact z)) (by omega))) (fun c30 => ?_)
  refine x_aload_n (q := 34) dX12_toldNumber_33 rfl rfl ?_
  refine q_gi (K := 8) (q := 37) dX12_toldNumber_34 rfl cl_12 (by decide) tw_1090 rfl rfl ?_
  refine x_iload_n (q := 38) dX12_toldNumber_37 rfl rfl ?_
  refine x_icmp_le (t := 46) (q := 41) dX12_toldNumber_38 (by decide) rfl (fun c38 => ?_) (fun c38 => absurd c38 (fun z => z (by rw [e8]; exact nI_le hr.2 (by omega))))
  refine x_aload_n (q := 47) dX12_toldNumber_46 rfl rfl ?_
  refine q_gi (K := 8) (q := 50) dX12_toldNumber_47 rfl cl_12 (by decide) tw_1090 rfl rfl ?_
  refine x_nmi (fun v1 ev1 => ?_)
  refine x_istore_n (L2 := [some (.ref 100), some (.int (nI lo)), some (.int (nI hi)), some (.int v1)]) (q := 51) dX12_toldNumber_50 rfl (by decide) rfl rfl ?_
  refine x_aload_n (q := 52) dX12_toldNumber_51 rfl rfl ?_
  refine q_gi (K := 2) (q := 55) dX12_toldNumber_52 rfl cl_12 (by decide) tw_1084 rfl rfl ?_
  refine x_if_ne (t := 62) (q := 58) dX12_toldNumber_55 (by decide) rfl (fun c55 => absurd c55 (fun z => z (by rw [q1, h0]; rfl))) (fun c55 => ?_)
  refine x_aload_n (q := 59) dX12_toldNumber_58 rfl rfl ?_
  refine q_callV (ci := 12) (N := 79) (T := TX12) (As := []) (rest := []) (q := 62) dX12_toldNumber_59 rfl okX12_token tw_1340 rfl rfl (c_tokP r h h0 (by rw [hk]; decide)) rfl rfl (Nat.le_of_ble_eq_true rfl) ⟨by decide, by decide⟩ ⟨rfl, rfl⟩ (fun rv_ V r_ K hv_ => ?_)
  obtain ⟨a1_, hV, hF, a3_⟩ := hv_
  rw [a1_, a3_]
  show Wq MX12_toldNumber 62 [some (.ref 100), some (.int (nI lo)), some (.int (nI hi)), some (.int v1)] [] V r K _
  refine x_iload_n (q := 63) dX12_toldNumber_62 rfl rfl ?_
  refine q_iret dX12_toldNumber_63 rfl ?_
  exact ⟨_, rfl, fun _ => by rw [ev1, e8], hV, hF, rfl⟩
set_option maxRecDepth 100000 in
theorem c_tnM_o {T : Nat → Nat} {n : Nat} (r : MR) {M : MI} {J : MJ} {s : Nat × Nat × Nat} (h : PM T n s M J) {lo hi : Nat} (hlo : lo < 10000) (hhi : hi < 10000) (h0 : s.1 = 0) (hk : kd T n s.2.2 = 3) (hr : ¬ (lo ≤ vl T n s.2.2 ∧ vl T n s.2.2 ≤ hi)) (val : Int32) : Cq yX12_toldNumber MX12_toldNumber [.ref 100, .int (nI lo), .int (nI hi)] M r J (RMv T n (adv T n (rf 4 (sk T n s.2.2) s)) val M J r) := by
  have q1 := h.2.2.1
  have q2 := h.2.2.2.1
  have q3 := h.2.2.2.2.1
  have q4 := h.2.2.2.2.2.1
  have hn := h.1.1
  have hL := h.2.2.2.2.2.2 h0
  have e8 : M 100 8 = nI (vl T n s.2.2) := hL.2.2.2.1 hk
  have v8 := vl_lt hk
  have est : rf (if kd T n s.2.2 = 1 then 1 else 4) (sk T n s.2.2) s = (4, sk T n s.2.2, s.2.2) := by rw [if_neg (by rw [hk]; decide)]; exact rf_p h0
  have est2 : adv T n (rf 4 (sk T n s.2.2) s) = (4, sk T n s.2.2, en T n s.2.2) := by rw [rf_p h0]; rfl
  rw [est2]
  refine cq_of [some (.ref 100), some (.int (nI lo)), some (.int (nI hi)), none] 1 (by decide +kernel) rfl rfl (Nat.le_of_ble_eq_true rfl) rfl ?_
  refine x_aload_n (q := 1) dX12_toldNumber_0 rfl rfl ?_
  refine q_gi (K := 2) (q := 4) dX12_toldNumber_1 rfl cl_12 (by decide) tw_1084 rfl rfl ?_
  refine x_if_le (t := 9) (q := 7) dX12_toldNumber_4 (by decide) rfl (fun c4 => ?_) (fun c4 => absurd c4 (fun z => z ((f_le q1 q4).mpr h0)))
  refine x_aload_n (q := 10) dX12_toldNumber_9 rfl rfl ?_
  refine q_gi (K := 6) (q := 13) dX12_toldNumber_10 rfl cl_12 (by decide) tw_1088 rfl rfl ?_
  refine x_iconst (2) (q := 14) dX12_toldNumber_13 rfl (by decide) ?_
  refine x_icmp_eq (t := 25) (q := 17) dX12_toldNumber_14 (by decide) rfl (fun c14 => ?_) (fun c14 => absurd c14 (fun z => z ((ms_c 3 hL.2.1 (by decide) rfl).mpr hk)))
  refine x_aload_n (q := 26) dX12_toldNumber_25 rfl rfl ?_
  refine q_gi (K := 8) (q := 29) dX12_toldNumber_26 rfl cl_12 (by decide) tw_1090 rfl rfl ?_
  refine x_iload_n (q := 30) dX12_toldNumber_29 rfl rfl ?_
  refine x_icmp_lt (t := 41) (q := 33) dX12_toldNumber_30 (by decide) rfl (fun c30 => ?_) (fun c30 => ?_)
  · refine x_aload_n (q := 42) dX12_toldNumber_41 rfl rfl ?_
    refine x_iconst (4) (q := 43) dX12_toldNumber_42 rfl (by decide) ?_
    refine q_callV (ci := 12) (N := 79) (T := TX12) (As := [.int 4]) (rest := []) (q := 46) dX12_toldNumber_43 rfl okX12_wrong tw_1390 rfl rfl (c_wr r h (k := 4) (by decide) h0) rfl rfl (Nat.le_of_ble_eq_true rfl) ⟨by decide, by decide⟩ ⟨rfl, rfl⟩ (fun rv_ V r_ K hv_ => ?_)
    obtain ⟨a1_, hV, hF, a3_⟩ := hv_
    rw [a1_, a3_]
    show Wq MX12_toldNumber 46 [some (.ref 100), some (.int (nI lo)), some (.int (nI hi)), none] [] V r K _
    rw [est] at hV
    refine x_aload_n (q := 47) dX12_toldNumber_46 rfl rfl ?_
    refine q_gi (K := 8) (q := 50) dX12_toldNumber_47 rfl cl_12 (by decide) tw_1090 rfl rfl ?_
    refine x_nmi (fun v21 ev21 => ?_)
    refine x_istore_n (L2 := [some (.ref 100), some (.int (nI lo)), some (.int (nI hi)), some (.int v21)]) (q := 51) dX12_toldNumber_50 rfl (by decide) rfl rfl ?_
    refine x_aload_n (q := 52) dX12_toldNumber_51 rfl rfl ?_
    refine q_gi (K := 2) (q := 55) dX12_toldNumber_52 rfl cl_12 (by decide) tw_1084 rfl rfl ?_
    refine x_if_ne (t := 62) (q := 58) dX12_toldNumber_55 (by decide) rfl (fun c55 => ?_) (fun c55 => absurd c55 (fun z => absurd (f_0 hV.2.2.1 hV.2.2.2.2.2.1 z) (show ¬ (4 = 0) by decide)))
    refine x_iload_n (q := 63) dX12_toldNumber_62 rfl rfl ?_
    refine q_iret dX12_toldNumber_63 rfl ?_
    exact ⟨_, rfl, fun z => absurd z (show ¬ (4 = 0) by decide), PM_p hV (show ¬ (4 = 0) by decide) rfl rfl (en_b q3).2, hF, rfl⟩
  · refine x_aload_n (q := 34) dX12_toldNumber_33 rfl rfl ?_
    refine q_gi (K := 8) (q := 37) dX12_toldNumber_34 rfl cl_12 (by decide) tw_1090 rfl rfl ?_
    refine x_iload_n (q := 38) dX12_toldNumber_37 rfl rfl ?_
    refine x_icmp_le (t := 46) (q := 41) dX12_toldNumber_38 (by decide) rfl (fun c38 => absurd c38 (fun z => hr ⟨by (have w := c30; rw [e8, nI_ltI (by omega) (by omega)] at w; omega), by (rw [e8, nI_leI (by omega) (by omega)] at z; exact z)⟩)) (fun c38 => ?_)
    refine x_aload_n (q := 42) dX12_toldNumber_41 rfl rfl ?_
    refine x_iconst (4) (q := 43) dX12_toldNumber_42 rfl (by decide) ?_
    refine q_callV (ci := 12) (N := 79) (T := TX12) (As := [.int 4]) (rest := []) (q := 46) dX12_toldNumber_43 rfl okX12_wrong tw_1390 rfl rfl (c_wr r h (k := 4) (by decide) h0) rfl rfl (Nat.le_of_ble_eq_true rfl) ⟨by decide, by decide⟩ ⟨rfl, rfl⟩ (fun rv_ V r_ K hv_ => ?_)
    obtain ⟨a1_, hV, hF, a3_⟩ := hv_
    rw [a1_, a3_]
    show Wq MX12_toldNumber 46 [some (.ref 100), some (.int (nI lo)), some (.int (nI hi)), none] [] V r K _
    rw [est] at hV
    refine x_aload_n (q := 47) dX12_toldNumber_46 rfl rfl ?_
    refine q_gi (K := 8) (q := 50) dX12_toldNumber_47 rfl cl_12 (by decide) tw_1090 rfl rfl ?_
    refine x_nmi (fun v21 ev21 => ?_)
    refine x_istore_n (L2 := [some (.ref 100), some (.int (nI lo)), some (.int (nI hi)), some (.int v21)]) (q := 51) dX12_toldNumber_50 rfl (by decide) rfl rfl ?_
    refine x_aload_n (q := 52) dX12_toldNumber_51 rfl rfl ?_
    refine q_gi (K := 2) (q := 55) dX12_toldNumber_52 rfl cl_12 (by decide) tw_1084 rfl rfl ?_
    refine x_if_ne (t := 62) (q := 58) dX12_toldNumber_55 (by decide) rfl (fun c55 => ?_) (fun c55 => absurd c55 (fun z => absurd (f_0 hV.2.2.1 hV.2.2.2.2.2.1 z) (show ¬ (4 = 0) by decide)))
    refine x_iload_n (q := 63) dX12_toldNumber_62 rfl rfl ?_
    refine q_iret dX12_toldNumber_63 rfl ?_
    exact ⟨_, rfl, fun z => absurd z (show ¬ (4 = 0) by decide), PM_p hV (show ¬ (4 = 0) by decide) rfl rfl (en_b q3).2, hF, rfl⟩
theorem c_tnM {T : Nat → Nat} {n : Nat} (r : MR) {M : MI} {J : MJ} {s : Nat × Nat × Nat} (h : PM T n s M J) {lo hi : Nat} (hlo : lo < 10000) (hhi : hi < 10000) : Cq yX12_toldNumber MX12_toldNumber [.ref 100, .int (nI lo), .int (nI hi)] M r J (RMv T n (tnuT T n lo hi s) (nI (vl T n s.2.2)) M J r) := by
  by_cases h0 : s.1 = 0
  · by_cases hk : kd T n s.2.2 = 3
    · by_cases hr : lo ≤ vl T n s.2.2 ∧ vl T n s.2.2 ≤ hi
      · rw [show tnuT T n lo hi s = adv T n s by unfold tnuT tnuS; rw [if_pos ⟨h0, hk⟩, if_pos hr]]
        exact c_tnM_g r h hlo hhi h0 hk hr
      · rw [show tnuT T n lo hi s = adv T n (rf 4 (sk T n s.2.2) s) by unfold tnuT tnuS; rw [if_pos ⟨h0, hk⟩, if_neg hr]]
        exact c_tnM_o r h hlo hhi h0 hk hr _
    · rw [show tnuT T n lo hi s = rfT T n s from if_neg (fun z => hk z.2)]
      exact c_tnM_b r h h0 hk _ _ _
  · rw [show tnuT T n lo hi s = s by unfold tnuT; rw [if_neg (fun z => h0 z.1)]; exact rfT_s h0]
    exact c_tnM_f r h h0 _ _ _
theorem c_wanW {T : Nat → Nat} {n : Nat} (r : MR) {M : MI} {J : MJ} {s : Nat × Nat × Nat} (h : PM T n s M J) {i : Nat} (hi : i < 20) {w : Int64} (hw : w = lN (K8 i)) : Cq yX12_want MX12_want [.ref 100, .long w] M r J (RM none T n (tkw T n i s) M J r) := by
  rw [hw]; exact c_wan r h hi
set_option maxRecDepth 100000 in
theorem c_tld {T : Nat → Nat} {n : Nat} (r : MR) {M : MI} {J : MJ} {s : Nat × Nat × Nat} (h : PM T n s M J) {i : Nat} (hi20 : i < 20) {w : Int64} (hw : w = lN (K8 i)) {lo hi : Nat} (hlo : lo < 10000) (hhi : hi < 10000) : Cq yX12_told MX12_told [.ref 100, .long w, .int (nI lo), .int (nI hi)] M r J (RMv T n (tnuT T n lo hi (tkw T n i s)) (nI (vl T n (tkw T n i s).2.2)) M J r) := by
  refine cq_of [some (.ref 100), some (.long w), none, some (.int (nI lo)), some (.int (nI hi))] 0 (by decide +kernel) rfl rfl (Nat.le_of_ble_eq_true rfl) rfl ?_
  refine x_aload_n (q := 1) dX12_told_0 rfl rfl ?_
  refine x_lload_n (q := 2) dX12_told_1 rfl rfl ?_
  refine q_callV (ci := 12) (N := 79) (T := TX12) (As := [.long w]) (rest := []) (q := 5) dX12_told_2 rfl okX12_want tw_1406 rfl rfl (c_wanW r h hi20 hw) rfl rfl (Nat.le_of_ble_eq_true rfl) ⟨by decide, by decide⟩ ⟨rfl, rfl⟩ (fun rv_ V r_ K hv_ => ?_)
  obtain ⟨a1_, hV, hF, a3_⟩ := hv_
  rw [a1_, a3_]
  show Wq MX12_told 5 [some (.ref 100), some (.long w), none, some (.int (nI lo)), some (.int (nI hi))] [] V r K _
  refine x_aload_n (q := 6) dX12_told_5 rfl rfl ?_
  refine x_iload_n (q := 7) dX12_told_6 rfl rfl ?_
  refine x_iload (q := 9) dX12_told_7 rfl rfl ?_
  refine q_callV (ci := 12) (N := 79) (T := TX12) (As := [.int (nI lo), .int (nI hi)]) (rest := []) (q := 12) dX12_told_9 rfl okX12_toldNumber tw_1410 rfl rfl (c_tnM r hV hlo hhi) rfl rfl (Nat.le_of_ble_eq_true rfl) ⟨by decide, by decide⟩ ⟨rfl, rfl⟩ (fun rv_ V2 r_ K2 hv_ => ?_)
  obtain ⟨x1, a1_, hx1, hV2, hF2, a3_⟩ := hv_
  rw [a1_, a3_]
  show Wq MX12_told 12 [some (.ref 100), some (.long w), none, some (.int (nI lo)), some (.int (nI hi))] [.int x1] V2 r K2 _
  refine q_iret dX12_told_12 rfl ?_
  exact ⟨_, rfl, hx1, hV2, hF.tr hF2, rfl⟩
set_option maxRecDepth 100000 in
theorem l_sg0_b {T : Nat → Nat} {n : Nat} (r : MR) {M : MI} {J : MJ} {s : Nat × Nat × Nat} (h : PM T n s M J) (h0 : s.1 = 0) {m g : Nat} (hm : m < 10000) (hg : g ≤ n) (x4 : Option Value) (hk : ¬ kd T n s.2.2 = 3) (val : Int32) : Wq MX12_signed 37 [some (.ref 100), some (.int (nI m)), some (.int (nI g)), some (.int 0), x4] [] M r J (RMv T n (rfT T n s) val M J r) := by
  have q1 := h.2.2.1
  have q2 := h.2.2.2.1
  have q3 := h.2.2.2.2.1
  have q4 := h.2.2.2.2.2.1
  have hn := h.1.1
  have hL := h.2.2.2.2.2.2 h0
  refine x_aload_n (q := 38) dX12_signed_37 rfl rfl ?_
  refine q_gi (K := 6) (q := 41) dX12_signed_38 rfl cl_12 (by decide) tw_1088 rfl rfl ?_
  refine x_iconst (2) (q := 42) dX12_signed_41 rfl (by decide) ?_
  refine x_icmp_eq (t := 50) (q := 45) dX12_signed_42 (by decide) rfl (fun c42 => absurd c42 (fun z => hk ((ms_c 3 hL.2.1 (by decide) rfl).mp z))) (fun c42 => ?_)
  refine x_aload_n (q := 46) dX12_signed_45 rfl rfl ?_
  refine x_iconst (2) (q := 47) dX12_signed_46 rfl (by decide) ?_
  refine q_callV (ci := 12) (N := 79) (T := TX12) (As := [.int 2]) (rest := []) (q := 50) dX12_signed_47 rfl okX12_wrong tw_1390 rfl rfl (c_wr r h (k := 2) (by decide) h0) rfl rfl (Nat.le_of_ble_eq_true rfl) ⟨by decide, by decide⟩ ⟨rfl, rfl⟩ (fun rv_ V r_ K hv_ => ?_)
  obtain ⟨a1_, hV, hF, a3_⟩ := hv_
  rw [a1_, a3_]
  show Wq MX12_signed 50 [some (.ref 100), some (.int (nI m)), some (.int (nI g)), some (.int 0), x4] [] V r K _
  refine x_aload_n (q := 51) dX12_signed_50 rfl rfl ?_
  refine q_gi (K := 2) (q := 54) dX12_signed_51 rfl cl_12 (by decide) tw_1084 rfl rfl ?_
  refine x_if_ne (t := 71) (q := 57) dX12_signed_54 (by decide) rfl (fun c54 => ?_) (fun c54 => absurd c54 (fun z => rfT_n (f_0 hV.2.2.1 hV.2.2.2.2.2.1 z)))
  refine x_iload_n (q := 72) dX12_signed_71 rfl rfl ?_
  refine x_if_eq (t := 83) (q := 75) dX12_signed_72 (by decide) rfl (fun c72 => ?_) (fun c72 => absurd c72 ((by decide)))
  refine x_aload_n (q := 84) dX12_signed_83 rfl rfl ?_
  refine q_gi (K := 8) (q := 87) dX12_signed_84 rfl cl_12 (by decide) tw_1090 rfl rfl ?_
  refine x_nmi (fun v1 ev1 => ?_)
  refine x_istore (L2 := [some (.ref 100), some (.int (nI m)), some (.int (nI g)), some (.int 0), some (.int v1)]) (q := 89) dX12_signed_87 rfl (by decide) rfl rfl ?_
  refine x_aload_n (q := 90) dX12_signed_89 rfl rfl ?_
  refine q_gi (K := 2) (q := 93) dX12_signed_90 rfl cl_12 (by decide) tw_1084 rfl rfl ?_
  refine x_if_ne (t := 100) (q := 96) dX12_signed_93 (by decide) rfl (fun c93 => ?_) (fun c93 => absurd c93 (fun z => rfT_n (f_0 hV.2.2.1 hV.2.2.2.2.2.1 z)))
  refine x_iload (q := 102) dX12_signed_100 rfl rfl ?_
  refine q_iret dX12_signed_102 rfl ?_
  exact ⟨_, rfl, fun z => absurd z rfT_n, hV, hF, rfl⟩
set_option maxRecDepth 100000 in
theorem l_sg0_g {T : Nat → Nat} {n : Nat} (r : MR) {M : MI} {J : MJ} {s : Nat × Nat × Nat} (h : PM T n s M J) (h0 : s.1 = 0) {m g : Nat} (hm : m < 10000) (hg : g ≤ n) (x4 : Option Value) (hk : kd T n s.2.2 = 3) (hr : vl T n s.2.2 ≤ m) : Wq MX12_signed 37 [some (.ref 100), some (.int (nI m)), some (.int (nI g)), some (.int 0), x4] [] M r J (RMv T n (adv T n s) (nI (vl T n s.2.2)) M J r) := by
  have q1 := h.2.2.1
  have q2 := h.2.2.2.1
  have q3 := h.2.2.2.2.1
  have q4 := h.2.2.2.2.2.1
  have hn := h.1.1
  have hL := h.2.2.2.2.2.2 h0
  have e8 : M 100 8 = nI (vl T n s.2.2) := hL.2.2.2.1 hk
  have v8 := vl_lt hk
  refine x_aload_n (q := 38) dX12_signed_37 rfl rfl ?_
  refine q_gi (K := 6) (q := 41) dX12_signed_38 rfl cl_12 (by decide) tw_1088 rfl rfl ?_
  refine x_iconst (2) (q := 42) dX12_signed_41 rfl (by decide) ?_
  refine x_icmp_eq (t := 50) (q := 45) dX12_signed_42 (by decide) rfl (fun c42 => ?_) (fun c42 => absurd c42 (fun z => z ((ms_c 3 hL.2.1 (by decide) rfl).mpr hk)))
  refine x_aload_n (q := 51) dX12_signed_50 rfl rfl ?_
  refine q_gi (K := 2) (q := 54) dX12_signed_51 rfl cl_12 (by decide) tw_1084 rfl rfl ?_
  refine x_if_ne (t := 71) (q := 57) dX12_signed_54 (by decide) rfl (fun c54 => absurd c54 (fun z => z (by rw [q1, h0]; rfl))) (fun c54 => ?_)
  refine x_aload_n (q := 58) dX12_signed_57 rfl rfl ?_
  refine q_gi (K := 8) (q := 61) dX12_signed_58 rfl cl_12 (by decide) tw_1090 rfl rfl ?_
  refine x_iload_n (q := 62) dX12_signed_61 rfl rfl ?_
  refine x_icmp_le (t := 71) (q := 65) dX12_signed_62 (by decide) rfl (fun c62 => ?_) (fun c62 => absurd c62 (fun z => z (by rw [e8]; exact nI_le hr (by omega))))
  refine x_iload_n (q := 72) dX12_signed_71 rfl rfl ?_
  refine x_if_eq (t := 83) (q := 75) dX12_signed_72 (by decide) rfl (fun c72 => ?_) (fun c72 => absurd c72 ((by decide)))
  refine x_aload_n (q := 84) dX12_signed_83 rfl rfl ?_
  refine q_gi (K := 8) (q := 87) dX12_signed_84 rfl cl_12 (by decide) tw_1090 rfl rfl ?_
  refine x_nmi (fun v1 ev1 => ?_)
  refine x_istore (L2 := [some (.ref 100), some (.int (nI m)), some (.int (nI g)), some (.int 0), some (.int v1)]) (q := 89) dX12_signed_87 rfl (by decide) rfl rfl ?_
  refine x_aload_n (q := 90) dX12_signed_89 rfl rfl ?_
  refine q_gi (K := 2) (q := 93) dX12_signed_90 rfl cl_12 (by decide) tw_1084 rfl rfl ?_
  refine x_if_ne (t := 100) (q := 96) dX12_signed_93 (by decide) rfl (fun c93 => absurd c93 (fun z => z (by rw [q1, h0]; rfl))) (fun c93 => ?_)
  refine x_aload_n (q := 97) dX12_signed_96 rfl rfl ?_
  refine q_callV (ci := 12) (N := 79) (T := TX12) (As := []) (rest := []) (q := 100) dX12_signed_97 rfl okX12_token tw_1340 rfl rfl (c_tokP r h h0 (by rw [hk]; decide)) rfl rfl (Nat.le_of_ble_eq_true rfl) ⟨by decide, by decide⟩ ⟨rfl, rfl⟩ (fun rv_ V r_ K hv_ => ?_)
  obtain ⟨a1_, hV, hF, a3_⟩ := hv_
  rw [a1_, a3_]
  show Wq MX12_signed 100 [some (.ref 100), some (.int (nI m)), some (.int (nI g)), some (.int 0), some (.int v1)] [] V r K _
  refine x_iload (q := 102) dX12_signed_100 rfl rfl ?_
  refine q_iret dX12_signed_102 rfl ?_
  exact ⟨_, rfl, fun _ => by rw [ev1, e8], hV, hF, rfl⟩
set_option maxRecDepth 100000 in
theorem l_sg0_o {T : Nat → Nat} {n : Nat} (r : MR) {M : MI} {J : MJ} {s : Nat × Nat × Nat} (h : PM T n s M J) (h0 : s.1 = 0) {m g : Nat} (hm : m < 10000) (hg : g ≤ n) (x4 : Option Value) (hk : kd T n s.2.2 = 3) (hr : m < vl T n s.2.2) (val : Int32) : Wq MX12_signed 37 [some (.ref 100), some (.int (nI m)), some (.int (nI g)), some (.int 0), x4] [] M r J (RMv T n (4, g, s.2.2) val M J r) := by
  have q1 := h.2.2.1
  have q2 := h.2.2.2.1
  have q3 := h.2.2.2.2.1
  have q4 := h.2.2.2.2.2.1
  have hn := h.1.1
  have hL := h.2.2.2.2.2.2 h0
  have e8 : M 100 8 = nI (vl T n s.2.2) := hL.2.2.2.1 hk
  have v8 := vl_lt hk
  have est : rf (if kd T n s.2.2 = 1 ∧ g = sk T n s.2.2 then 1 else 4) g s = (4, g, s.2.2) := by rw [if_neg (fun z => absurd (hk.symm.trans z.1) (by decide))]; exact rf_p h0
  refine x_aload_n (q := 38) dX12_signed_37 rfl rfl ?_
  refine q_gi (K := 6) (q := 41) dX12_signed_38 rfl cl_12 (by decide) tw_1088 rfl rfl ?_
  refine x_iconst (2) (q := 42) dX12_signed_41 rfl (by decide) ?_
  refine x_icmp_eq (t := 50) (q := 45) dX12_signed_42 (by decide) rfl (fun c42 => ?_) (fun c42 => absurd c42 (fun z => z ((ms_c 3 hL.2.1 (by decide) rfl).mpr hk)))
  refine x_aload_n (q := 51) dX12_signed_50 rfl rfl ?_
  refine q_gi (K := 2) (q := 54) dX12_signed_51 rfl cl_12 (by decide) tw_1084 rfl rfl ?_
  refine x_if_ne (t := 71) (q := 57) dX12_signed_54 (by decide) rfl (fun c54 => absurd c54 (fun z => z (by rw [q1, h0]; rfl))) (fun c54 => ?_)
  refine x_aload_n (q := 58) dX12_signed_57 rfl rfl ?_
  refine q_gi (K := 8) (q := 61) dX12_signed_58 rfl cl_12 (by decide) tw_1090 rfl rfl ?_
  refine x_iload_n (q := 62) dX12_signed_61 rfl rfl ?_
  refine x_icmp_le (t := 71) (q := 65) dX12_signed_62 (by decide) rfl (fun c62 => absurd c62 (by rw [e8]; exact nI_ge hr (by omega))) (fun c62 => ?_)
  refine x_aload_n (q := 66) dX12_signed_65 rfl rfl ?_
  refine x_iconst (4) (q := 67) dX12_signed_66 rfl (by decide) ?_
  refine x_iload_n (q := 68) dX12_signed_67 rfl rfl ?_
  refine q_callV (ci := 12) (N := 79) (T := TX12) (As := [.int 4, .int (nI g)]) (rest := []) (q := 71) dX12_signed_68 rfl okX12_wrongAt tw_1394 rfl rfl (c_wrA r h (k := 4) (g := g) (by decide) hg) rfl rfl (Nat.le_of_ble_eq_true rfl) ⟨by decide, by decide⟩ ⟨rfl, rfl⟩ (fun rv_ V r_ K hv_ => ?_)
  obtain ⟨a1_, hV, hF, a3_⟩ := hv_
  rw [a1_, a3_]
  rw [est] at hV
  show Wq MX12_signed 71 [some (.ref 100), some (.int (nI m)), some (.int (nI g)), some (.int 0), x4] [] V r K _
  refine x_iload_n (q := 72) dX12_signed_71 rfl rfl ?_
  refine x_if_eq (t := 83) (q := 75) dX12_signed_72 (by decide) rfl (fun c72 => ?_) (fun c72 => absurd c72 ((by decide)))
  refine x_aload_n (q := 84) dX12_signed_83 rfl rfl ?_
  refine q_gi (K := 8) (q := 87) dX12_signed_84 rfl cl_12 (by decide) tw_1090 rfl rfl ?_
  refine x_nmi (fun v1 ev1 => ?_)
  refine x_istore (L2 := [some (.ref 100), some (.int (nI m)), some (.int (nI g)), some (.int 0), some (.int v1)]) (q := 89) dX12_signed_87 rfl (by decide) rfl rfl ?_
  refine x_aload_n (q := 90) dX12_signed_89 rfl rfl ?_
  refine q_gi (K := 2) (q := 93) dX12_signed_90 rfl cl_12 (by decide) tw_1084 rfl rfl ?_
  refine x_if_ne (t := 100) (q := 96) dX12_signed_93 (by decide) rfl (fun c93 => ?_) (fun c93 => absurd c93 (fun z => absurd (f_0 hV.2.2.1 hV.2.2.2.2.2.1 z) (show ¬ (4 = 0) by decide)))
  refine x_iload (q := 102) dX12_signed_100 rfl rfl ?_
  refine q_iret dX12_signed_102 rfl ?_
  exact ⟨_, rfl, fun z => absurd z (show ¬ (4 = 0) by decide), hV, hF, rfl⟩
theorem l_sg0 {T : Nat → Nat} {n : Nat} (r : MR) {M : MI} {J : MJ} {s : Nat × Nat × Nat} (h : PM T n s M J) (h0 : s.1 = 0) {m g : Nat} (hm : m < 10000) (hg : g ≤ n) (x4 : Option Value) : Wq MX12_signed 37 [some (.ref 100), some (.int (nI m)), some (.int (nI g)), some (.int 0), x4] [] M r J (RMv T n (if kd T n s.2.2 = 3 then adv T n (if vl T n s.2.2 ≤ m then s else rf 4 g s) else rfT T n s) (nI (vl T n s.2.2)) M J r) := by
  by_cases hk : kd T n s.2.2 = 3
  · rw [if_pos hk]
    by_cases hr : vl T n s.2.2 ≤ m
    · rw [if_pos hr]; exact l_sg0_g r h h0 hm hg x4 hk hr
    · rw [if_neg hr, rf_p h0]
      refine wq_mono (fun v Y r' K hv => ?_) (l_sg0_o r h h0 hm hg x4 hk (by omega) 0)
      obtain ⟨x, a1, a2, a3, a4, a5⟩ := hv
      exact ⟨x, a1, fun z => absurd z (show ¬ (4 = 0) by decide), PM_p a3 (show ¬ (4 = 0) by decide) rfl rfl (en_b h.2.2.2.2.1).2, a4, a5⟩
  · rw [if_neg hk]; exact l_sg0_b r h h0 hm hg x4 hk _
set_option maxRecDepth 100000 in
theorem l_sg1_b {T : Nat → Nat} {n : Nat} (r : MR) {M : MI} {J : MJ} {s : Nat × Nat × Nat} (h : PM T n s M J) (h0 : s.1 = 0) {m g : Nat} (hm : m < 10000) (hg : g ≤ n) (x4 : Option Value) (hk : ¬ kd T n s.2.2 = 3) (val : Int32) : Wq MX12_signed 37 [some (.ref 100), some (.int (nI m)), some (.int (nI g)), some (.int 1), x4] [] M r J (RMv T n (rfT T n s) val M J r) := by
  have q1 := h.2.2.1
  have q2 := h.2.2.2.1
  have q3 := h.2.2.2.2.1
  have q4 := h.2.2.2.2.2.1
  have hn := h.1.1
  have hL := h.2.2.2.2.2.2 h0
  refine x_aload_n (q := 38) dX12_signed_37 rfl rfl ?_
  refine q_gi (K := 6) (q := 41) dX12_signed_38 rfl cl_12 (by decide) tw_1088 rfl rfl ?_
  refine x_iconst (2) (q := 42) dX12_signed_41 rfl (by decide) ?_
  refine x_icmp_eq (t := 50) (q := 45) dX12_signed_42 (by decide) rfl (fun c42 => absurd c42 (fun z => hk ((ms_c 3 hL.2.1 (by decide) rfl).mp z))) (fun c42 => ?_)
  refine x_aload_n (q := 46) dX12_signed_45 rfl rfl ?_
  refine x_iconst (2) (q := 47) dX12_signed_46 rfl (by decide) ?_
  refine q_callV (ci := 12) (N := 79) (T := TX12) (As := [.int 2]) (rest := []) (q := 50) dX12_signed_47 rfl okX12_wrong tw_1390 rfl rfl (c_wr r h (k := 2) (by decide) h0) rfl rfl (Nat.le_of_ble_eq_true rfl) ⟨by decide, by decide⟩ ⟨rfl, rfl⟩ (fun rv_ V r_ K hv_ => ?_)
  obtain ⟨a1_, hV, hF, a3_⟩ := hv_
  rw [a1_, a3_]
  show Wq MX12_signed 50 [some (.ref 100), some (.int (nI m)), some (.int (nI g)), some (.int 1), x4] [] V r K _
  refine x_aload_n (q := 51) dX12_signed_50 rfl rfl ?_
  refine q_gi (K := 2) (q := 54) dX12_signed_51 rfl cl_12 (by decide) tw_1084 rfl rfl ?_
  refine x_if_ne (t := 71) (q := 57) dX12_signed_54 (by decide) rfl (fun c54 => ?_) (fun c54 => absurd c54 (fun z => rfT_n (f_0 hV.2.2.1 hV.2.2.2.2.2.1 z)))
  refine x_iload_n (q := 72) dX12_signed_71 rfl rfl ?_
  refine x_if_eq (t := 83) (q := 75) dX12_signed_72 (by decide) rfl (fun c72 => absurd c72 ((by decide))) (fun c72 => ?_)
  refine x_aload_n (q := 76) dX12_signed_75 rfl rfl ?_
  refine q_gi (K := 8) (q := 79) dX12_signed_76 rfl cl_12 (by decide) tw_1090 rfl rfl ?_
  refine x_ineg (q := 80) dX12_signed_79 rfl ?_
  refine x_goto (t := 87) dX12_signed_80 (by decide) ?_
  refine x_nmi (fun v1 ev1 => ?_)
  refine x_istore (L2 := [some (.ref 100), some (.int (nI m)), some (.int (nI g)), some (.int 1), some (.int v1)]) (q := 89) dX12_signed_87 rfl (by decide) rfl rfl ?_
  refine x_aload_n (q := 90) dX12_signed_89 rfl rfl ?_
  refine q_gi (K := 2) (q := 93) dX12_signed_90 rfl cl_12 (by decide) tw_1084 rfl rfl ?_
  refine x_if_ne (t := 100) (q := 96) dX12_signed_93 (by decide) rfl (fun c93 => ?_) (fun c93 => absurd c93 (fun z => rfT_n (f_0 hV.2.2.1 hV.2.2.2.2.2.1 z)))
  refine x_iload (q := 102) dX12_signed_100 rfl rfl ?_
  refine q_iret dX12_signed_102 rfl ?_
  exact ⟨_, rfl, fun z => absurd z rfT_n, hV, hF, rfl⟩
set_option maxRecDepth 100000 in
theorem l_sg1_g {T : Nat → Nat} {n : Nat} (r : MR) {M : MI} {J : MJ} {s : Nat × Nat × Nat} (h : PM T n s M J) (h0 : s.1 = 0) {m g : Nat} (hm : m < 10000) (hg : g ≤ n) (x4 : Option Value) (hk : kd T n s.2.2 = 3) (hr : vl T n s.2.2 ≤ m) : Wq MX12_signed 37 [some (.ref 100), some (.int (nI m)), some (.int (nI g)), some (.int 1), x4] [] M r J (RMv T n (adv T n s) (-(nI (vl T n s.2.2))) M J r) := by
  have q1 := h.2.2.1
  have q2 := h.2.2.2.1
  have q3 := h.2.2.2.2.1
  have q4 := h.2.2.2.2.2.1
  have hn := h.1.1
  have hL := h.2.2.2.2.2.2 h0
  have e8 : M 100 8 = nI (vl T n s.2.2) := hL.2.2.2.1 hk
  have v8 := vl_lt hk
  refine x_aload_n (q := 38) dX12_signed_37 rfl rfl ?_
  refine q_gi (K := 6) (q := 41) dX12_signed_38 rfl cl_12 (by decide) tw_1088 rfl rfl ?_
  refine x_iconst (2) (q := 42) dX12_signed_41 rfl (by decide) ?_
  refine x_icmp_eq (t := 50) (q := 45) dX12_signed_42 (by decide) rfl (fun c42 => ?_) (fun c42 => absurd c42 (fun z => z ((ms_c 3 hL.2.1 (by decide) rfl).mpr hk)))
  refine x_aload_n (q := 51) dX12_signed_50 rfl rfl ?_
  refine q_gi (K := 2) (q := 54) dX12_signed_51 rfl cl_12 (by decide) tw_1084 rfl rfl ?_
  refine x_if_ne (t := 71) (q := 57) dX12_signed_54 (by decide) rfl (fun c54 => absurd c54 (fun z => z (by rw [q1, h0]; rfl))) (fun c54 => ?_)
  refine x_aload_n (q := 58) dX12_signed_57 rfl rfl ?_
  refine q_gi (K := 8) (q := 61) dX12_signed_58 rfl cl_12 (by decide) tw_1090 rfl rfl ?_
  refine x_iload_n (q := 62) dX12_signed_61 rfl rfl ?_
  refine x_icmp_le (t := 71) (q := 65) dX12_signed_62 (by decide) rfl (fun c62 => ?_) (fun c62 => absurd c62 (fun z => z (by rw [e8]; exact nI_le hr (by omega))))
  refine x_iload_n (q := 72) dX12_signed_71 rfl rfl ?_
  refine x_if_eq (t := 83) (q := 75) dX12_signed_72 (by decide) rfl (fun c72 => absurd c72 ((by decide))) (fun c72 => ?_)
  refine x_aload_n (q := 76) dX12_signed_75 rfl rfl ?_
  refine q_gi (K := 8) (q := 79) dX12_signed_76 rfl cl_12 (by decide) tw_1090 rfl rfl ?_
  refine x_ineg (q := 80) dX12_signed_79 rfl ?_
  refine x_goto (t := 87) dX12_signed_80 (by decide) ?_
  refine x_nmi (fun v1 ev1 => ?_)
  refine x_istore (L2 := [some (.ref 100), some (.int (nI m)), some (.int (nI g)), some (.int 1), some (.int v1)]) (q := 89) dX12_signed_87 rfl (by decide) rfl rfl ?_
  refine x_aload_n (q := 90) dX12_signed_89 rfl rfl ?_
  refine q_gi (K := 2) (q := 93) dX12_signed_90 rfl cl_12 (by decide) tw_1084 rfl rfl ?_
  refine x_if_ne (t := 100) (q := 96) dX12_signed_93 (by decide) rfl (fun c93 => absurd c93 (fun z => z (by rw [q1, h0]; rfl))) (fun c93 => ?_)
  refine x_aload_n (q := 97) dX12_signed_96 rfl rfl ?_
  refine q_callV (ci := 12) (N := 79) (T := TX12) (As := []) (rest := []) (q := 100) dX12_signed_97 rfl okX12_token tw_1340 rfl rfl (c_tokP r h h0 (by rw [hk]; decide)) rfl rfl (Nat.le_of_ble_eq_true rfl) ⟨by decide, by decide⟩ ⟨rfl, rfl⟩ (fun rv_ V r_ K hv_ => ?_)
  obtain ⟨a1_, hV, hF, a3_⟩ := hv_
  rw [a1_, a3_]
  show Wq MX12_signed 100 [some (.ref 100), some (.int (nI m)), some (.int (nI g)), some (.int 1), some (.int v1)] [] V r K _
  refine x_iload (q := 102) dX12_signed_100 rfl rfl ?_
  refine q_iret dX12_signed_102 rfl ?_
  exact ⟨_, rfl, fun _ => by rw [ev1, e8], hV, hF, rfl⟩
set_option maxRecDepth 100000 in
theorem l_sg1_o {T : Nat → Nat} {n : Nat} (r : MR) {M : MI} {J : MJ} {s : Nat × Nat × Nat} (h : PM T n s M J) (h0 : s.1 = 0) {m g : Nat} (hm : m < 10000) (hg : g ≤ n) (x4 : Option Value) (hk : kd T n s.2.2 = 3) (hr : m < vl T n s.2.2) (val : Int32) : Wq MX12_signed 37 [some (.ref 100), some (.int (nI m)), some (.int (nI g)), some (.int 1), x4] [] M r J (RMv T n (4, g, s.2.2) val M J r) := by
  have q1 := h.2.2.1
  have q2 := h.2.2.2.1
  have q3 := h.2.2.2.2.1
  have q4 := h.2.2.2.2.2.1
  have hn := h.1.1
  have hL := h.2.2.2.2.2.2 h0
  have e8 : M 100 8 = nI (vl T n s.2.2) := hL.2.2.2.1 hk
  have v8 := vl_lt hk
  have est : rf (if kd T n s.2.2 = 1 ∧ g = sk T n s.2.2 then 1 else 4) g s = (4, g, s.2.2) := by rw [if_neg (fun z => absurd (hk.symm.trans z.1) (by decide))]; exact rf_p h0
  refine x_aload_n (q := 38) dX12_signed_37 rfl rfl ?_
  refine q_gi (K := 6) (q := 41) dX12_signed_38 rfl cl_12 (by decide) tw_1088 rfl rfl ?_
  refine x_iconst (2) (q := 42) dX12_signed_41 rfl (by decide) ?_
  refine x_icmp_eq (t := 50) (q := 45) dX12_signed_42 (by decide) rfl (fun c42 => ?_) (fun c42 => absurd c42 (fun z => z ((ms_c 3 hL.2.1 (by decide) rfl).mpr hk)))
  refine x_aload_n (q := 51) dX12_signed_50 rfl rfl ?_
  refine q_gi (K := 2) (q := 54) dX12_signed_51 rfl cl_12 (by decide) tw_1084 rfl rfl ?_
  refine x_if_ne (t := 71) (q := 57) dX12_signed_54 (by decide) rfl (fun c54 => absurd c54 (fun z => z (by rw [q1, h0]; rfl))) (fun c54 => ?_)
  refine x_aload_n (q := 58) dX12_signed_57 rfl rfl ?_
  refine q_gi (K := 8) (q := 61) dX12_signed_58 rfl cl_12 (by decide) tw_1090 rfl rfl ?_
  refine x_iload_n (q := 62) dX12_signed_61 rfl rfl ?_
  refine x_icmp_le (t := 71) (q := 65) dX12_signed_62 (by decide) rfl (fun c62 => absurd c62 (by rw [e8]; exact nI_ge hr (by omega))) (fun c62 => ?_)
  refine x_aload_n (q := 66) dX12_signed_65 rfl rfl ?_
  refine x_iconst (4) (q := 67) dX12_signed_66 rfl (by decide) ?_
  refine x_iload_n (q := 68) dX12_signed_67 rfl rfl ?_
  refine q_callV (ci := 12) (N := 79) (T := TX12) (As := [.int 4, .int (nI g)]) (rest := []) (q := 71) dX12_signed_68 rfl okX12_wrongAt tw_1394 rfl rfl (c_wrA r h (k := 4) (g := g) (by decide) hg) rfl rfl (Nat.le_of_ble_eq_true rfl) ⟨by decide, by decide⟩ ⟨rfl, rfl⟩ (fun rv_ V r_ K hv_ => ?_)
  obtain ⟨a1_, hV, hF, a3_⟩ := hv_
  rw [a1_, a3_]
  rw [est] at hV
  show Wq MX12_signed 71 [some (.ref 100), some (.int (nI m)), some (.int (nI g)), some (.int 1), x4] [] V r K _
  refine x_iload_n (q := 72) dX12_signed_71 rfl rfl ?_
  refine x_if_eq (t := 83) (q := 75) dX12_signed_72 (by decide) rfl (fun c72 => absurd c72 ((by decide))) (fun c72 => ?_)
  refine x_aload_n (q := 76) dX12_signed_75 rfl rfl ?_
  refine q_gi (K := 8) (q := 79) dX12_signed_76 rfl cl_12 (by decide) tw_1090 rfl rfl ?_
  refine x_ineg (q := 80) dX12_signed_79 rfl ?_
  refine x_goto (t := 87) dX12_signed_80 (by decide) ?_
  refine x_nmi (fun v1 ev1 => ?_)
  refine x_istore (L2 := [some (.ref 100), some (.int (nI m)), some (.int (nI g)), some (.int 1), some (.int v1)]) (q := 89) dX12_signed_87 rfl (by decide) rfl rfl ?_
  refine x_aload_n (q := 90) dX12_signed_89 rfl rfl ?_
  refine q_gi (K := 2) (q := 93) dX12_signed_90 rfl cl_12 (by decide) tw_1084 rfl rfl ?_
  refine x_if_ne (t := 100) (q := 96) dX12_signed_93 (by decide) rfl (fun c93 => ?_) (fun c93 => absurd c93 (fun z => absurd (f_0 hV.2.2.1 hV.2.2.2.2.2.1 z) (show ¬ (4 = 0) by decide)))
  refine x_iload (q := 102) dX12_signed_100 rfl rfl ?_
  refine q_iret dX12_signed_102 rfl ?_
  exact ⟨_, rfl, fun z => absurd z (show ¬ (4 = 0) by decide), hV, hF, rfl⟩
theorem l_sg1 {T : Nat → Nat} {n : Nat} (r : MR) {M : MI} {J : MJ} {s : Nat × Nat × Nat} (h : PM T n s M J) (h0 : s.1 = 0) {m g : Nat} (hm : m < 10000) (hg : g ≤ n) (x4 : Option Value) : Wq MX12_signed 37 [some (.ref 100), some (.int (nI m)), some (.int (nI g)), some (.int 1), x4] [] M r J (RMv T n (if kd T n s.2.2 = 3 then adv T n (if vl T n s.2.2 ≤ m then s else rf 4 g s) else rfT T n s) (-(nI (vl T n s.2.2))) M J r) := by
  by_cases hk : kd T n s.2.2 = 3
  · rw [if_pos hk]
    by_cases hr : vl T n s.2.2 ≤ m
    · rw [if_pos hr]; exact l_sg1_g r h h0 hm hg x4 hk hr
    · rw [if_neg hr, rf_p h0]
      refine wq_mono (fun v Y r' K hv => ?_) (l_sg1_o r h h0 hm hg x4 hk (by omega) 0)
      obtain ⟨x, a1, a2, a3, a4, a5⟩ := hv
      exact ⟨x, a1, fun z => absurd z (show ¬ (4 = 0) by decide), PM_p a3 (show ¬ (4 = 0) by decide) rfl rfl (en_b h.2.2.2.2.1).2, a4, a5⟩
  · rw [if_neg hk]; exact l_sg1_b r h h0 hm hg x4 hk _
set_option maxRecDepth 100000 in
theorem c_sgn_f {T : Nat → Nat} {n : Nat} (r : MR) {M : MI} {J : MJ} {s : Nat × Nat × Nat} (h : PM T n s M J) (h0 : ¬ s.1 = 0) {m : Nat} : Cq yX12_signed MX12_signed [.ref 100, .int (nI m)] M r J (RMv T n (tvaT T n m s) (tvV_ T n s) M J r) := by
  have q1 := h.2.2.1
  have q2 := h.2.2.2.1
  have q3 := h.2.2.2.2.1
  have q4 := h.2.2.2.2.2.1
  have hn := h.1.1
  have ev : tvaT T n m s = vS T n s := by unfold tvaT; rw [if_neg (fun z => h0 (by rw [← vS_1 (T := T) (n := n) (s := s)]; exact z.1))]; exact rfT_s (by rw [vS_1]; exact h0)
  have ep : (vS T n s).1 = s.1 ∧ (vS T n s).2.1 = s.2.1 ∧ (vS T n s).2.2 ≤ n := by
    unfold vS
    by_cases z : kd T n s.2.2 = 5
    · rw [if_pos z]; exact ⟨rfl, rfl, (en_b q3).2⟩
    · rw [if_neg z]; exact ⟨rfl, rfl, q3⟩
  rw [ev]
  refine cq_of [some (.ref 100), some (.int (nI m)), none, none, none] 3 (by decide +kernel) rfl rfl (Nat.le_of_ble_eq_true rfl) rfl ?_
  refine x_aload_n (q := 1) dX12_signed_0 rfl rfl ?_
  refine q_gi (K := 2) (q := 4) dX12_signed_1 rfl cl_12 (by decide) tw_1084 rfl rfl ?_
  refine x_if_le (t := 9) (q := 7) dX12_signed_4 (by decide) rfl (fun c4 => absurd c4 (fun z => h0 ((f_le q1 q4).mp z))) (fun c4 => ?_)
  refine x_iconst (0) (q := 8) dX12_signed_7 rfl (by decide) ?_
  refine q_iret dX12_signed_8 rfl ?_
  exact ⟨_, rfl, fun z => absurd (ep.1.symm.trans z) h0, PM_p h h0 ep.1 ep.2.1 ep.2.2, FM.rf, rfl⟩
set_option maxRecDepth 100000 in
theorem c_sgn_0 {T : Nat → Nat} {n : Nat} (r : MR) {M : MI} {J : MJ} {s : Nat × Nat × Nat} (h : PM T n s M J) (h0 : s.1 = 0) {m : Nat} (hm : m < 10000) (hk : ¬ kd T n s.2.2 = 5) : Cq yX12_signed MX12_signed [.ref 100, .int (nI m)] M r J (RMv T n (tvaT T n m s) (tvV_ T n s) M J r) := by
  have q1 := h.2.2.1
  have q2 := h.2.2.2.1
  have q3 := h.2.2.2.2.1
  have q4 := h.2.2.2.2.2.1
  have hn := h.1.1
  have hL := h.2.2.2.2.2.2 h0
  have evs : vS T n s = s := if_neg hk
  have et : tvaT T n m s = (if kd T n (vS T n s).2.2 = 3 then adv T n (if vl T n (vS T n s).2.2 ≤ m then vS T n s else rf 4 (sk T n s.2.2) (vS T n s)) else rfT T n (vS T n s)) := by
    unfold tvaT tvS
    by_cases z : kd T n (vS T n s).2.2 = 3
    · rw [if_pos ⟨by rw [vS_1]; exact h0, z⟩, if_pos z]
    · rw [if_neg (fun y => z y.2), if_neg z]
  have evv : tvV_ T n s = nI (vl T n (vS T n s).2.2) := by
    unfold tvV_
    rw [if_neg hk]
  rw [evs] at et evv
  refine cq_of [some (.ref 100), some (.int (nI m)), none, none, none] 3 (by decide +kernel) rfl rfl (Nat.le_of_ble_eq_true rfl) rfl ?_
  refine x_aload_n (q := 1) dX12_signed_0 rfl rfl ?_
  refine q_gi (K := 2) (q := 4) dX12_signed_1 rfl cl_12 (by decide) tw_1084 rfl rfl ?_
  refine x_if_le (t := 9) (q := 7) dX12_signed_4 (by decide) rfl (fun c4 => ?_) (fun c4 => absurd c4 (fun z => z ((f_le q1 q4).mpr h0)))
  refine x_aload_n (q := 10) dX12_signed_9 rfl rfl ?_
  refine q_gi (K := 7) (q := 13) dX12_signed_10 rfl cl_12 (by decide) tw_1089 rfl rfl ?_
  refine x_nmi (fun v1 ev1 => ?_)
  refine x_istore_n (L2 := [some (.ref 100), some (.int (nI m)), some (.int v1), none, none]) (q := 14) dX12_signed_13 rfl (by decide) rfl rfl ?_
  refine x_aload_n (q := 15) dX12_signed_14 rfl rfl ?_
  refine q_gi (K := 6) (q := 18) dX12_signed_15 rfl cl_12 (by decide) tw_1088 rfl rfl ?_
  refine x_bipush (45) (q := 20) dX12_signed_18 rfl (by decide) ?_
  refine x_icmp_ne (t := 27) (q := 23) dX12_signed_20 (by decide) rfl (fun c20 => ?_) (fun c20 => absurd c20 (fun z => hk ((ms_c 5 hL.2.1 (by decide) rfl).mp z)))
  refine x_iconst (0) (q := 28) dX12_signed_27 rfl (by decide) ?_
  refine x_istore_n (L2 := [some (.ref 100), some (.int (nI m)), some (.int v1), some (.int 0), none]) (q := 29) dX12_signed_28 rfl (by decide) rfl rfl ?_
  refine x_iload_n (q := 30) dX12_signed_29 rfl rfl ?_
  refine x_if_eq (t := 37) (q := 33) dX12_signed_30 (by decide) rfl (fun c30 => ?_) (fun c30 => absurd c30 ((by decide)))
  have e7 : M 100 7 = nI (sk T n s.2.2) := hL.2.2.1
  have ep : v1 = nI (sk T n s.2.2) := by rw [ev1]; exact e7
  rw [ep]
  refine wq_mono (fun v Y r' K hv => ?_) (l_sg0 r h h0 hm (sk_b q3).2 _)
  obtain ⟨x, a1, a2, a3, a4, a5⟩ := hv
  rw [← et] at a2 a3
  exact ⟨x, a1, fun z => by rw [a2 z]; exact evv.symm, a3, a4, a5⟩
set_option maxRecDepth 100000 in
theorem c_sgn_1 {T : Nat → Nat} {n : Nat} (r : MR) {M : MI} {J : MJ} {s : Nat × Nat × Nat} (h : PM T n s M J) (h0 : s.1 = 0) {m : Nat} (hm : m < 10000) (hk : kd T n s.2.2 = 5) : Cq yX12_signed MX12_signed [.ref 100, .int (nI m)] M r J (RMv T n (tvaT T n m s) (tvV_ T n s) M J r) := by
  have q1 := h.2.2.1
  have q2 := h.2.2.2.1
  have q3 := h.2.2.2.2.1
  have q4 := h.2.2.2.2.2.1
  have hn := h.1.1
  have hL := h.2.2.2.2.2.2 h0
  have evs : vS T n s = adv T n s := if_pos hk
  have et : tvaT T n m s = (if kd T n (vS T n s).2.2 = 3 then adv T n (if vl T n (vS T n s).2.2 ≤ m then vS T n s else rf 4 (sk T n s.2.2) (vS T n s)) else rfT T n (vS T n s)) := by
    unfold tvaT tvS
    by_cases z : kd T n (vS T n s).2.2 = 3
    · rw [if_pos ⟨by rw [vS_1]; exact h0, z⟩, if_pos z]
    · rw [if_neg (fun y => z y.2), if_neg z]
  have evv : tvV_ T n s = -(nI (vl T n (vS T n s).2.2)) := by
    unfold tvV_
    rw [if_pos hk]
  rw [evs] at et evv
  refine cq_of [some (.ref 100), some (.int (nI m)), none, none, none] 3 (by decide +kernel) rfl rfl (Nat.le_of_ble_eq_true rfl) rfl ?_
  refine x_aload_n (q := 1) dX12_signed_0 rfl rfl ?_
  refine q_gi (K := 2) (q := 4) dX12_signed_1 rfl cl_12 (by decide) tw_1084 rfl rfl ?_
  refine x_if_le (t := 9) (q := 7) dX12_signed_4 (by decide) rfl (fun c4 => ?_) (fun c4 => absurd c4 (fun z => z ((f_le q1 q4).mpr h0)))
  refine x_aload_n (q := 10) dX12_signed_9 rfl rfl ?_
  refine q_gi (K := 7) (q := 13) dX12_signed_10 rfl cl_12 (by decide) tw_1089 rfl rfl ?_
  refine x_nmi (fun v1 ev1 => ?_)
  refine x_istore_n (L2 := [some (.ref 100), some (.int (nI m)), some (.int v1), none, none]) (q := 14) dX12_signed_13 rfl (by decide) rfl rfl ?_
  refine x_aload_n (q := 15) dX12_signed_14 rfl rfl ?_
  refine q_gi (K := 6) (q := 18) dX12_signed_15 rfl cl_12 (by decide) tw_1088 rfl rfl ?_
  refine x_bipush (45) (q := 20) dX12_signed_18 rfl (by decide) ?_
  refine x_icmp_ne (t := 27) (q := 23) dX12_signed_20 (by decide) rfl (fun c20 => absurd c20 (fun z => z ((ms_c 5 hL.2.1 (by decide) rfl).mpr hk))) (fun c20 => ?_)
  refine x_iconst (1) (q := 24) dX12_signed_23 rfl (by decide) ?_
  refine x_goto (t := 28) dX12_signed_24 (by decide) ?_
  refine x_istore_n (L2 := [some (.ref 100), some (.int (nI m)), some (.int v1), some (.int 1), none]) (q := 29) dX12_signed_28 rfl (by decide) rfl rfl ?_
  refine x_iload_n (q := 30) dX12_signed_29 rfl rfl ?_
  refine x_if_eq (t := 37) (q := 33) dX12_signed_30 (by decide) rfl (fun c30 => absurd c30 ((by decide))) (fun c30 => ?_)
  refine x_aload_n (q := 34) dX12_signed_33 rfl rfl ?_
  refine q_callV (ci := 12) (N := 79) (T := TX12) (As := []) (rest := []) (q := 37) dX12_signed_34 rfl okX12_token tw_1340 rfl rfl (c_tokP r h h0 (by rw [hk]; decide)) rfl rfl (Nat.le_of_ble_eq_true rfl) ⟨by decide, by decide⟩ ⟨rfl, rfl⟩ (fun rv_ V r_ K hv_ => ?_)
  obtain ⟨a1_, hV, hF, a3_⟩ := hv_
  rw [a1_, a3_]
  show Wq MX12_signed 37 [some (.ref 100), some (.int (nI m)), some (.int v1), some (.int 1), none] [] V r K _
  have e7 : M 100 7 = nI (sk T n s.2.2) := hL.2.2.1
  have ep : v1 = nI (sk T n s.2.2) := by rw [ev1]; exact e7
  rw [ep]
  refine wq_mono (fun v Y r' K hv => ?_) (l_sg1 r hV (show (adv T n s).1 = 0 from h0) hm (sk_b q3).2 _)
  obtain ⟨x, a1, a2, a3, a4, a5⟩ := hv
  rw [← et] at a2 a3
  exact ⟨x, a1, fun z => by rw [a2 z]; exact evv.symm, a3, hF.tr a4, a5⟩
theorem c_sgn {T : Nat → Nat} {n : Nat} (r : MR) {M : MI} {J : MJ} {s : Nat × Nat × Nat} (h : PM T n s M J) {m : Nat} (hm : m < 10000) : Cq yX12_signed MX12_signed [.ref 100, .int (nI m)] M r J (RMv T n (tvaT T n m s) (tvV_ T n s) M J r) := by
  by_cases h0 : s.1 = 0
  · by_cases hk : kd T n s.2.2 = 5
    · exact c_sgn_1 r h h0 hm hk
    · exact c_sgn_0 r h h0 hm hk
  · exact c_sgn_f r h h0
