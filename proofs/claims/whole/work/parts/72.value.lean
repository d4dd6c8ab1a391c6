def ivC (T : Nat → Nat) (n : Nat) (s : Nat × Nat × Nat) : Prop := s.1 = 0 ∧ (kd T n s.2.2 = 3 ∨ kd T n s.2.2 = 5)
def vS (T : Nat → Nat) (n : Nat) (s : Nat × Nat × Nat) : Nat × Nat × Nat := if kd T n s.2.2 = 5 then adv T n s else s
def tvS (T : Nat → Nat) (n m : Nat) (s : Nat × Nat × Nat) : Nat × Nat × Nat := adv T n (if vl T n (vS T n s).2.2 ≤ m then vS T n s else rf 4 (sk T n s.2.2) (vS T n s))
def tvV_ (T : Nat → Nat) (n : Nat) (s : Nat × Nat × Nat) : Int32 := if kd T n s.2.2 = 5 then -(nI (vl T n (vS T n s).2.2)) else nI (vl T n (vS T n s).2.2)
set_option maxRecDepth 100000 in
theorem c_ivn_g {T : Nat → Nat} {n : Nat} {r : MR} (h4 : r 4 = 1) {X : MI} {J : MJ} {s : Nat × Nat × Nat} (h : PS T n s X J) (hc : ivC T n s) : Cq yX8_isValueNext MX8_isValueNext [.ref 54] X r J (Rt (some (.int 1)) X r J) := by
  have q1 := h.2.2.1
  have q2 := h.2.2.2.1
  have q3 := h.2.2.2.2.1
  have q4 := h.2.2.2.2.2.1
  have hL := h.2.2.2.2.2.2
  refine cq_of [some (.ref 54)] 0 (by decide +kernel) rfl rfl (Nat.le_of_ble_eq_true rfl) rfl ?_
  refine x_aload_n (q := 1) dX8_isValueNext_0 rfl rfl ?_
  refine q_gi (K := 2) (q := 4) dX8_isValueNext_1 rfl cl_8 (by decide) tw_367 rfl rfl ?_
  refine x_if_ne (t := 33) (q := 7) dX8_isValueNext_4 (by decide) rfl (fun c4 => absurd c4 (fun z => z (by rw [q1, hc.1]; rfl))) (fun c4 => ?_)
  refine x_aload_n (q := 8) dX8_isValueNext_7 rfl rfl ?_
  refine q_gr (K := 0) (b := 55) (q := 11) dX8_isValueNext_8 rfl cl_8 (by decide) tw_365 rfl rfl rfl ?_
  refine q_gi (K := 4) (q := 14) dX8_isValueNext_11 rfl cl_6 (by decide) tw_336 rfl rfl ?_
  refine x_iconst (3) (q := 15) dX8_isValueNext_14 rfl (by decide) ?_
  refine x_icmp_eq (t := 29) (q := 18) dX8_isValueNext_15 (by decide) rfl (fun c15 => ?_) (fun c15 => ?_)
  · refine x_iconst (1) (q := 30) dX8_isValueNext_29 rfl (by decide) ?_
    refine x_goto (t := 34) dX8_isValueNext_30 (by decide) ?_
    refine q_zret dX8_isValueNext_34 rfl (Or.inr rfl) ?_
    exact ⟨rfl, rfl, rfl, rfl⟩
  · refine x_aload_n (q := 19) dX8_isValueNext_18 rfl rfl ?_
    refine q_gr (K := 0) (b := 55) (q := 22) dX8_isValueNext_19 rfl cl_8 (by decide) tw_365 rfl rfl rfl ?_
    refine q_gi (K := 4) (q := 25) dX8_isValueNext_22 rfl cl_6 (by decide) tw_336 rfl rfl ?_
    refine x_iconst (5) (q := 26) dX8_isValueNext_25 rfl (by decide) ?_
    refine x_icmp_ne (t := 33) (q := 29) dX8_isValueNext_26 (by decide) rfl (fun c26 => ?_) (fun c26 => ?_)
    · rcases hc.2 with z | z
      · exact absurd ((kd_c 3 hL.2.2.1 (by decide) rfl).mpr z) c15
      · exact absurd ((kd_c 5 hL.2.2.1 (by decide) rfl).mpr z) c26
    · refine x_iconst (1) (q := 30) dX8_isValueNext_29 rfl (by decide) ?_
      refine x_goto (t := 34) dX8_isValueNext_30 (by decide) ?_
      refine q_zret dX8_isValueNext_34 rfl (Or.inr rfl) ?_
      exact ⟨rfl, rfl, rfl, rfl⟩
set_option maxRecDepth 100000 in
theorem c_ivn_b {T : Nat → Nat} {n : Nat} {r : MR} (h4 : r 4 = 1) {X : MI} {J : MJ} {s : Nat × Nat × Nat} (h : PS T n s X J) (hc : ¬ ivC T n s) : Cq yX8_isValueNext MX8_isValueNext [.ref 54] X r J (Rt (some (.int 0)) X r J) := by
  have q1 := h.2.2.1
  have q2 := h.2.2.2.1
  have q3 := h.2.2.2.2.1
  have q4 := h.2.2.2.2.2.1
  have hL := h.2.2.2.2.2.2
  refine cq_of [some (.ref 54)] 0 (by decide +kernel) rfl rfl (Nat.le_of_ble_eq_true rfl) rfl ?_
  refine x_aload_n (q := 1) dX8_isValueNext_0 rfl rfl ?_
  refine q_gi (K := 2) (q := 4) dX8_isValueNext_1 rfl cl_8 (by decide) tw_367 rfl rfl ?_
  refine x_if_ne (t := 33) (q := 7) dX8_isValueNext_4 (by decide) rfl (fun c4 => ?_) (fun c4 => ?_)
  · refine x_iconst (0) (q := 34) dX8_isValueNext_33 rfl (by decide) ?_
    refine q_zret dX8_isValueNext_34 rfl (Or.inl rfl) ?_
    exact ⟨rfl, rfl, rfl, rfl⟩
  · refine x_aload_n (q := 8) dX8_isValueNext_7 rfl rfl ?_
    refine q_gr (K := 0) (b := 55) (q := 11) dX8_isValueNext_8 rfl cl_8 (by decide) tw_365 rfl rfl rfl ?_
    refine q_gi (K := 4) (q := 14) dX8_isValueNext_11 rfl cl_6 (by decide) tw_336 rfl rfl ?_
    refine x_iconst (3) (q := 15) dX8_isValueNext_14 rfl (by decide) ?_
    refine x_icmp_eq (t := 29) (q := 18) dX8_isValueNext_15 (by decide) rfl (fun c15 => ?_) (fun c15 => ?_)
    · refine absurd ⟨f_0 q1 q4 c4, ?_⟩ hc
      first
      | exact Or.inl ((kd_c 3 hL.2.2.1 (by decide) rfl).mp c15)
      | exact Or.inr ((kd_c 5 hL.2.2.1 (by decide) rfl).mp c26)
    · refine x_aload_n (q := 19) dX8_isValueNext_18 rfl rfl ?_
      refine q_gr (K := 0) (b := 55) (q := 22) dX8_isValueNext_19 rfl cl_8 (by decide) tw_365 rfl rfl rfl ?_
      refine q_gi (K := 4) (q := 25) dX8_isValueNext_22 rfl cl_6 (by decide) tw_336 rfl rfl ?_
      refine x_iconst (5) (q := 26) dX8_isValueNext_25 rfl (by decide) ?_
      refine x_icmp_ne (t := 33) (q := 29) dX8_isValueNext_26 (by decide) rfl (fun c26 => ?_) (fun c26 => ?_)
      · refine x_iconst (0) (q := 34) dX8_isValueNext_33 rfl (by decide) ?_
        refine q_zret dX8_isValueNext_34 rfl (Or.inl rfl) ?_
        exact ⟨rfl, rfl, rfl, rfl⟩
      · refine absurd ⟨f_0 q1 q4 c4, ?_⟩ hc
        first
        | exact Or.inl ((kd_c 3 hL.2.2.1 (by decide) rfl).mp c15)
        | exact Or.inr ((kd_c 5 hL.2.2.1 (by decide) rfl).mp c26)
set_option maxRecDepth 100000 in
theorem l_tv0_g {T : Nat → Nat} {n : Nat} {r : MR} (h4 : r 4 = 1) {X : MI} {J : MJ} {s : Nat × Nat × Nat} (h : PS T n s X J) {m pp : Nat} (hm : m < 10000) (hv4 : X 54 4 = nI pp) (hc : nuC T n s) (x4 : Option Value) : Wq MX8_takeValue 39 [some (.ref 54), some (.int (-(nI m))), some (.int (nI m)), some (.int 0), x4] [] X r J (Rq (some (.int (nI (vl T n s.2.2)))) (fun Y K => PS T n (adv T n (if vl T n s.2.2 ≤ m then s else rf 4 pp s)) Y K ∧ FP X J Y K) r) := by
  have q1 := h.2.2.1
  have q2 := h.2.2.2.1
  have q3 := h.2.2.2.2.1
  have q4 := h.2.2.2.2.2.1
  have hL := h.2.2.2.2.2.2
  have hv : vl T n s.2.2 < 10000 := vl_lt hc.2
  have ev6 : X 55 6 = nI (vl T n s.2.2) := hL.2.2.2.2.1 hc.2
  refine x_aload_n (q := 40) dX8_takeValue_39 rfl rfl ?_
  refine q_gi (K := 2) (q := 43) dX8_takeValue_40 rfl cl_8 (by decide) tw_367 rfl rfl ?_
  refine x_if_ne (t := 57) (q := 46) dX8_takeValue_43 (by decide) rfl (fun c43 => absurd c43 (fun z => z (by rw [q1, hc.1]; rfl))) (fun c43 => ?_)
  refine x_aload_n (q := 47) dX8_takeValue_46 rfl rfl ?_
  refine q_gr (K := 0) (b := 55) (q := 50) dX8_takeValue_47 rfl cl_8 (by decide) tw_365 rfl rfl rfl ?_
  refine q_gi (K := 4) (q := 53) dX8_takeValue_50 rfl cl_6 (by decide) tw_336 rfl rfl ?_
  refine x_iconst (3) (q := 54) dX8_takeValue_53 rfl (by decide) ?_
  refine x_icmp_eq (t := 63) (q := 57) dX8_takeValue_54 (by decide) rfl (fun c54 => ?_) (fun c54 => absurd c54 (fun z => z ((kd_c 3 hL.2.2.1 (by decide) rfl).mpr hc.2)))
  refine x_iload_n (q := 64) dX8_takeValue_63 rfl rfl ?_
  refine x_if_eq (t := 78) (q := 67) dX8_takeValue_64 (by decide) rfl (fun c64 => ?_) (fun c64 => absurd c64 ((by decide)))
  refine x_aload_n (q := 79) dX8_takeValue_78 rfl rfl ?_
  refine q_gr (K := 0) (b := 55) (q := 82) dX8_takeValue_79 rfl cl_8 (by decide) tw_365 rfl rfl rfl ?_
  refine q_gi (K := 6) (q := 85) dX8_takeValue_82 rfl cl_6 (by decide) tw_340 rfl rfl ?_
  refine x_nmi (fun v1 ev1 => ?_)
  refine x_istore (L2 := [some (.ref 54), some (.int (-(nI m))), some (.int (nI m)), some (.int 0), some (.int v1)]) (q := 87) dX8_takeValue_85 rfl (by decide) rfl rfl ?_
  rw [ev6] at ev1
  refine x_iload (q := 89) dX8_takeValue_87 rfl rfl ?_
  refine x_iload_n (q := 90) dX8_takeValue_89 rfl rfl ?_
  refine x_icmp_lt (t := 99) (q := 93) dX8_takeValue_90 (by decide) rfl (fun c90 => ?_) (fun c90 => ?_)
  · have nb : ¬ vl T n s.2.2 ≤ m := by
      first
      | (rw [ev1, nI_leI (by omega) (by omega)] at c96; exact c96)
      | exact absurd (by rw [ev1] at c90; exact c90) (vr_1 hv hm)
    refine x_aload_n (q := 100) dX8_takeValue_99 rfl rfl ?_
    refine x_iconst (4) (q := 101) dX8_takeValue_100 rfl (by decide) ?_
    refine x_aload_n (q := 102) dX8_takeValue_101 rfl rfl ?_
    refine q_gi (K := 4) (q := 105) dX8_takeValue_102 rfl cl_8 (by decide) tw_371 rfl rfl ?_
    refine q_callV (ci := 8) (N := 5) (T := TX8) (As := [.int 4, .int (X 54 4)]) (rest := []) (q := 108) dX8_takeValue_105 rfl okX8_refuse tw_669 rfl rfl (by rw [hv4]; exact c_ref h4 h (k := 4) (g := pp) (by decide)) rfl rfl (Nat.le_of_ble_eq_true rfl) ⟨by decide, by decide⟩ ⟨rfl, rfl⟩ (fun rv_ Vb r_ Kb hv_ => ?_)
    obtain ⟨a1_, hb, a3_⟩ := hv_
    rw [a1_, a3_]
    show Wq MX8_takeValue 108 [some (.ref 54), some (.int (-(nI m))), some (.int (nI m)), some (.int 0), some (.int v1)] [] Vb r Kb _
    refine x_aload_n (q := 109) dX8_takeValue_108 rfl rfl ?_
    refine q_gr (K := 0) (b := 55) (q := 112) dX8_takeValue_109 rfl cl_8 (by decide) tw_365 rfl rfl rfl ?_
    refine q_callV (ci := 6) (N := 9) (T := TX6) (As := []) (rest := []) (q := 115) dX8_takeValue_112 rfl okX6_advance tw_673 rfl rfl (c_advP h4 hb.1) rfl rfl (Nat.le_of_ble_eq_true rfl) ⟨by decide, by decide⟩ ⟨rfl, rfl⟩ (fun rv_ Vd r_ Kd hv_ => ?_)
    obtain ⟨a1_, hd, a3_⟩ := hv_
    rw [a1_, a3_]
    show Wq MX8_takeValue 115 [some (.ref 54), some (.int (-(nI m))), some (.int (nI m)), some (.int 0), some (.int v1)] [] Vd r Kd _
    refine x_iload (q := 117) dX8_takeValue_115 rfl rfl ?_
    refine q_iret dX8_takeValue_117 rfl ?_
    rw [if_neg nb, ev1]
    exact ⟨rfl, ⟨hd.1, hb.2.tr hd.2⟩, rfl⟩
  · refine x_iload (q := 95) dX8_takeValue_93 rfl rfl ?_
    refine x_iload_n (q := 96) dX8_takeValue_95 rfl rfl ?_
    refine x_icmp_le (t := 108) (q := 99) dX8_takeValue_96 (by decide) rfl (fun c96 => ?_) (fun c96 => ?_)
    · have nb : vl T n s.2.2 ≤ m := by
        rw [ev1, nI_leI (by omega) (by omega)] at c96
        exact c96
      refine x_aload_n (q := 109) dX8_takeValue_108 rfl rfl ?_
      refine q_gr (K := 0) (b := 55) (q := 112) dX8_takeValue_109 rfl cl_8 (by decide) tw_365 rfl rfl rfl ?_
      refine q_callV (ci := 6) (N := 9) (T := TX6) (As := []) (rest := []) (q := 115) dX8_takeValue_112 rfl okX6_advance tw_673 rfl rfl (c_advP h4 h) rfl rfl (Nat.le_of_ble_eq_true rfl) ⟨by decide, by decide⟩ ⟨rfl, rfl⟩ (fun rv_ Vd r_ Kd hv_ => ?_)
      obtain ⟨a1_, hd, a3_⟩ := hv_
      rw [a1_, a3_]
      show Wq MX8_takeValue 115 [some (.ref 54), some (.int (-(nI m))), some (.int (nI m)), some (.int 0), some (.int v1)] [] Vd r Kd _
      refine x_iload (q := 117) dX8_takeValue_115 rfl rfl ?_
      refine q_iret dX8_takeValue_117 rfl ?_
      rw [if_pos nb, ev1]
      exact ⟨rfl, hd, rfl⟩
    · have nb : ¬ vl T n s.2.2 ≤ m := by
        first
        | (rw [ev1, nI_leI (by omega) (by omega)] at c96; exact c96)
        | exact absurd (by rw [ev1] at c90; exact c90) (vr_1 hv hm)
      refine x_aload_n (q := 100) dX8_takeValue_99 rfl rfl ?_
      refine x_iconst (4) (q := 101) dX8_takeValue_100 rfl (by decide) ?_
      refine x_aload_n (q := 102) dX8_takeValue_101 rfl rfl ?_
      refine q_gi (K := 4) (q := 105) dX8_takeValue_102 rfl cl_8 (by decide) tw_371 rfl rfl ?_
      refine q_callV (ci := 8) (N := 5) (T := TX8) (As := [.int 4, .int (X 54 4)]) (rest := []) (q := 108) dX8_takeValue_105 rfl okX8_refuse tw_669 rfl rfl (by rw [hv4]; exact c_ref h4 h (k := 4) (g := pp) (by decide)) rfl rfl (Nat.le_of_ble_eq_true rfl) ⟨by decide, by decide⟩ ⟨rfl, rfl⟩ (fun rv_ Vb r_ Kb hv_ => ?_)
      obtain ⟨a1_, hb, a3_⟩ := hv_
      rw [a1_, a3_]
      show Wq MX8_takeValue 108 [some (.ref 54), some (.int (-(nI m))), some (.int (nI m)), some (.int 0), some (.int v1)] [] Vb r Kb _
      refine x_aload_n (q := 109) dX8_takeValue_108 rfl rfl ?_
      refine q_gr (K := 0) (b := 55) (q := 112) dX8_takeValue_109 rfl cl_8 (by decide) tw_365 rfl rfl rfl ?_
      refine q_callV (ci := 6) (N := 9) (T := TX6) (As := []) (rest := []) (q := 115) dX8_takeValue_112 rfl okX6_advance tw_673 rfl rfl (c_advP h4 hb.1) rfl rfl (Nat.le_of_ble_eq_true rfl) ⟨by decide, by decide⟩ ⟨rfl, rfl⟩ (fun rv_ Vd r_ Kd hv_ => ?_)
      obtain ⟨a1_, hd, a3_⟩ := hv_
      rw [a1_, a3_]
      show Wq MX8_takeValue 115 [some (.ref 54), some (.int (-(nI m))), some (.int (nI m)), some (.int 0), some (.int v1)] [] Vd r Kd _
      refine x_iload (q := 117) dX8_takeValue_115 rfl rfl ?_
      refine q_iret dX8_takeValue_117 rfl ?_
      rw [if_neg nb, ev1]
      exact ⟨rfl, ⟨hd.1, hb.2.tr hd.2⟩, rfl⟩
set_option maxRecDepth 100000 in
theorem l_tv0_b {T : Nat → Nat} {n : Nat} {r : MR} (h4 : r 4 = 1) {X : MI} {J : MJ} {s : Nat × Nat × Nat} (h : PS T n s X J) {m pp : Nat} (hm : m < 10000) (hv4 : X 54 4 = nI pp) (hc : ¬ nuC T n s) (x4 : Option Value) : Wq MX8_takeValue 39 [some (.ref 54), some (.int (-(nI m))), some (.int (nI m)), some (.int 0), x4] [] X r J (Rq (some (.int (-(nI m)))) (fun Y K => PS T n (rfT T n s) Y K ∧ FP X J Y K) r) := by
  have q1 := h.2.2.1
  have q2 := h.2.2.2.1
  have q3 := h.2.2.2.2.1
  have q4 := h.2.2.2.2.2.1
  have hL := h.2.2.2.2.2.2
  refine x_aload_n (q := 40) dX8_takeValue_39 rfl rfl ?_
  refine q_gi (K := 2) (q := 43) dX8_takeValue_40 rfl cl_8 (by decide) tw_367 rfl rfl ?_
  refine x_if_ne (t := 57) (q := 46) dX8_takeValue_43 (by decide) rfl (fun c43 => ?_) (fun c43 => ?_)
  · refine x_aload_n (q := 58) dX8_takeValue_57 rfl rfl ?_
    refine q_callV (ci := 8) (N := 5) (T := TX8) (As := []) (rest := []) (q := 61) dX8_takeValue_58 rfl okX8_refuseToken tw_665 rfl rfl (c_rfT h4 h) rfl rfl (Nat.le_of_ble_eq_true rfl) ⟨by decide, by decide⟩ ⟨rfl, rfl⟩ (fun rv_ Va r_ Ka hv_ => ?_)
    obtain ⟨a1_, ha, a3_⟩ := hv_
    rw [a1_, a3_]
    show Wq MX8_takeValue 61 [some (.ref 54), some (.int (-(nI m))), some (.int (nI m)), some (.int 0), x4] [] Va r Ka _
    refine x_iload_n (q := 62) dX8_takeValue_61 rfl rfl ?_
    refine q_iret dX8_takeValue_62 rfl ?_
    exact ⟨rfl, ha, rfl⟩
  · refine x_aload_n (q := 47) dX8_takeValue_46 rfl rfl ?_
    refine q_gr (K := 0) (b := 55) (q := 50) dX8_takeValue_47 rfl cl_8 (by decide) tw_365 rfl rfl rfl ?_
    refine q_gi (K := 4) (q := 53) dX8_takeValue_50 rfl cl_6 (by decide) tw_336 rfl rfl ?_
    refine x_iconst (3) (q := 54) dX8_takeValue_53 rfl (by decide) ?_
    refine x_icmp_eq (t := 63) (q := 57) dX8_takeValue_54 (by decide) rfl (fun c54 => ?_) (fun c54 => ?_)
    · exact absurd ⟨f_0 q1 q4 c43, (kd_c 3 hL.2.2.1 (by decide) rfl).mp c54⟩ hc
    · refine x_aload_n (q := 58) dX8_takeValue_57 rfl rfl ?_
      refine q_callV (ci := 8) (N := 5) (T := TX8) (As := []) (rest := []) (q := 61) dX8_takeValue_58 rfl okX8_refuseToken tw_665 rfl rfl (c_rfT h4 h) rfl rfl (Nat.le_of_ble_eq_true rfl) ⟨by decide, by decide⟩ ⟨rfl, rfl⟩ (fun rv_ Va r_ Ka hv_ => ?_)
      obtain ⟨a1_, ha, a3_⟩ := hv_
      rw [a1_, a3_]
      show Wq MX8_takeValue 61 [some (.ref 54), some (.int (-(nI m))), some (.int (nI m)), some (.int 0), x4] [] Va r Ka _
      refine x_iload_n (q := 62) dX8_takeValue_61 rfl rfl ?_
      refine q_iret dX8_takeValue_62 rfl ?_
      exact ⟨rfl, ha, rfl⟩
set_option maxRecDepth 100000 in
theorem l_tv1_g {T : Nat → Nat} {n : Nat} {r : MR} (h4 : r 4 = 1) {X : MI} {J : MJ} {s : Nat × Nat × Nat} (h : PS T n s X J) {m pp : Nat} (hm : m < 10000) (hv4 : X 54 4 = nI pp) (hc : nuC T n s) (x4 : Option Value) : Wq MX8_takeValue 39 [some (.ref 54), some (.int (-(nI m))), some (.int (nI m)), some (.int 1), x4] [] X r J (Rq (some (.int (-(nI (vl T n s.2.2))))) (fun Y K => PS T n (adv T n (if vl T n s.2.2 ≤ m then s else rf 4 pp s)) Y K ∧ FP X J Y K) r) := by
  have q1 := h.2.2.1
  have q2 := h.2.2.2.1
  have q3 := h.2.2.2.2.1
  have q4 := h.2.2.2.2.2.1
  have hL := h.2.2.2.2.2.2
  have hv : vl T n s.2.2 < 10000 := vl_lt hc.2
  have ev6 : X 55 6 = nI (vl T n s.2.2) := hL.2.2.2.2.1 hc.2
  refine x_aload_n (q := 40) dX8_takeValue_39 rfl rfl ?_
  refine q_gi (K := 2) (q := 43) dX8_takeValue_40 rfl cl_8 (by decide) tw_367 rfl rfl ?_
  refine x_if_ne (t := 57) (q := 46) dX8_takeValue_43 (by decide) rfl (fun c43 => absurd c43 (fun z => z (by rw [q1, hc.1]; rfl))) (fun c43 => ?_)
  refine x_aload_n (q := 47) dX8_takeValue_46 rfl rfl ?_
  refine q_gr (K := 0) (b := 55) (q := 50) dX8_takeValue_47 rfl cl_8 (by decide) tw_365 rfl rfl rfl ?_
  refine q_gi (K := 4) (q := 53) dX8_takeValue_50 rfl cl_6 (by decide) tw_336 rfl rfl ?_
  refine x_iconst (3) (q := 54) dX8_takeValue_53 rfl (by decide) ?_
  refine x_icmp_eq (t := 63) (q := 57) dX8_takeValue_54 (by decide) rfl (fun c54 => ?_) (fun c54 => absurd c54 (fun z => z ((kd_c 3 hL.2.2.1 (by decide) rfl).mpr hc.2)))
  refine x_iload_n (q := 64) dX8_takeValue_63 rfl rfl ?_
  refine x_if_eq (t := 78) (q := 67) dX8_takeValue_64 (by decide) rfl (fun c64 => absurd c64 ((by decide))) (fun c64 => ?_)
  refine x_aload_n (q := 68) dX8_takeValue_67 rfl rfl ?_
  refine q_gr (K := 0) (b := 55) (q := 71) dX8_takeValue_68 rfl cl_8 (by decide) tw_365 rfl rfl rfl ?_
  refine q_gi (K := 6) (q := 74) dX8_takeValue_71 rfl cl_6 (by decide) tw_340 rfl rfl ?_
  refine x_ineg (q := 75) dX8_takeValue_74 rfl ?_
  refine x_goto (t := 85) dX8_takeValue_75 (by decide) ?_
  refine x_nmi (fun v1 ev1 => ?_)
  refine x_istore (L2 := [some (.ref 54), some (.int (-(nI m))), some (.int (nI m)), some (.int 1), some (.int v1)]) (q := 87) dX8_takeValue_85 rfl (by decide) rfl rfl ?_
  rw [ev6] at ev1
  refine x_iload (q := 89) dX8_takeValue_87 rfl rfl ?_
  refine x_iload_n (q := 90) dX8_takeValue_89 rfl rfl ?_
  refine x_icmp_lt (t := 99) (q := 93) dX8_takeValue_90 (by decide) rfl (fun c90 => ?_) (fun c90 => ?_)
  · have nb : ¬ vl T n s.2.2 ≤ m := by
      first
      | (rw [ev1, vr_3 hv hm] at c90; omega)
      | exact absurd (by rw [ev1]; exact vr_4 hv hm) c96
    refine x_aload_n (q := 100) dX8_takeValue_99 rfl rfl ?_
    refine x_iconst (4) (q := 101) dX8_takeValue_100 rfl (by decide) ?_
    refine x_aload_n (q := 102) dX8_takeValue_101 rfl rfl ?_
    refine q_gi (K := 4) (q := 105) dX8_takeValue_102 rfl cl_8 (by decide) tw_371 rfl rfl ?_
    refine q_callV (ci := 8) (N := 5) (T := TX8) (As := [.int 4, .int (X 54 4)]) (rest := []) (q := 108) dX8_takeValue_105 rfl okX8_refuse tw_669 rfl rfl (by rw [hv4]; exact c_ref h4 h (k := 4) (g := pp) (by decide)) rfl rfl (Nat.le_of_ble_eq_true rfl) ⟨by decide, by decide⟩ ⟨rfl, rfl⟩ (fun rv_ Vb r_ Kb hv_ => ?_)
    obtain ⟨a1_, hb, a3_⟩ := hv_
    rw [a1_, a3_]
    show Wq MX8_takeValue 108 [some (.ref 54), some (.int (-(nI m))), some (.int (nI m)), some (.int 1), some (.int v1)] [] Vb r Kb _
    refine x_aload_n (q := 109) dX8_takeValue_108 rfl rfl ?_
    refine q_gr (K := 0) (b := 55) (q := 112) dX8_takeValue_109 rfl cl_8 (by decide) tw_365 rfl rfl rfl ?_
    refine q_callV (ci := 6) (N := 9) (T := TX6) (As := []) (rest := []) (q := 115) dX8_takeValue_112 rfl okX6_advance tw_673 rfl rfl (c_advP h4 hb.1) rfl rfl (Nat.le_of_ble_eq_true rfl) ⟨by decide, by decide⟩ ⟨rfl, rfl⟩ (fun rv_ Vd r_ Kd hv_ => ?_)
    obtain ⟨a1_, hd, a3_⟩ := hv_
    rw [a1_, a3_]
    show Wq MX8_takeValue 115 [some (.ref 54), some (.int (-(nI m))), some (.int (nI m)), some (.int 1), some (.int v1)] [] Vd r Kd _
    refine x_iload (q := 117) dX8_takeValue_115 rfl rfl ?_
    refine q_iret dX8_takeValue_117 rfl ?_
    rw [if_neg nb, ev1]
    exact ⟨rfl, ⟨hd.1, hb.2.tr hd.2⟩, rfl⟩
  · refine x_iload (q := 95) dX8_takeValue_93 rfl rfl ?_
    refine x_iload_n (q := 96) dX8_takeValue_95 rfl rfl ?_
    refine x_icmp_le (t := 108) (q := 99) dX8_takeValue_96 (by decide) rfl (fun c96 => ?_) (fun c96 => ?_)
    · have nb : vl T n s.2.2 ≤ m := by
        rw [ev1, vr_3 hv hm] at c90
        omega
      refine x_aload_n (q := 109) dX8_takeValue_108 rfl rfl ?_
      refine q_gr (K := 0) (b := 55) (q := 112) dX8_takeValue_109 rfl cl_8 (by decide) tw_365 rfl rfl rfl ?_
      refine q_callV (ci := 6) (N := 9) (T := TX6) (As := []) (rest := []) (q := 115) dX8_takeValue_112 rfl okX6_advance tw_673 rfl rfl (c_advP h4 h) rfl rfl (Nat.le_of_ble_eq_true rfl) ⟨by decide, by decide⟩ ⟨rfl, rfl⟩ (fun rv_ Vd r_ Kd hv_ => ?_)
      obtain ⟨a1_, hd, a3_⟩ := hv_
      rw [a1_, a3_]
      show Wq MX8_takeValue 115 [some (.ref 54), some (.int (-(nI m))), some (.int (nI m)), some (.int 1), some (.int v1)] [] Vd r Kd _
      refine x_iload (q := 117) dX8_takeValue_115 rfl rfl ?_
      refine q_iret dX8_takeValue_117 rfl ?_
      rw [if_pos nb, ev1]
      exact ⟨rfl, hd, rfl⟩
    · have nb : ¬ vl T n s.2.2 ≤ m := by
        first
        | (rw [ev1, vr_3 hv hm] at c90; omega)
        | exact absurd (by rw [ev1]; exact vr_4 hv hm) c96
      refine x_aload_n (q := 100) dX8_takeValue_99 rfl rfl ?_
      refine x_iconst (4) (q := 101) dX8_takeValue_100 rfl (by decide) ?_
      refine x_aload_n (q := 102) dX8_takeValue_101 rfl rfl ?_
      refine q_gi (K := 4) (q := 105) dX8_takeValue_102 rfl cl_8 (by decide) tw_371 rfl rfl ?_
      refine q_callV (ci := 8) (N := 5) (T := TX8) (As := [.int 4, .int (X 54 4)]) (rest := []) (q := 108) dX8_takeValue_105 rfl okX8_refuse tw_669 rfl rfl (by rw [hv4]; exact c_ref h4 h (k := 4) (g := pp) (by decide)) rfl rfl (Nat.le_of_ble_eq_true rfl) ⟨by decide, by decide⟩ ⟨rfl, rfl⟩ (fun rv_ Vb r_ Kb hv_ => ?_)
      obtain ⟨a1_, hb, a3_⟩ := hv_
      rw [a1_, a3_]
      show Wq MX8_takeValue 108 [some (.ref 54), some (.int (-(nI m))), some (.int (nI m)), some (.int 1), some (.int v1)] [] Vb r Kb _
      refine x_aload_n (q := 109) dX8_takeValue_108 rfl rfl ?_
      refine q_gr (K := 0) (b := 55) (q := 112) dX8_takeValue_109 rfl cl_8 (by decide) tw_365 rfl rfl rfl ?_
      refine q_callV (ci := 6) (N := 9) (T := TX6) (As := []) (rest := []) (q := 115) dX8_takeValue_112 rfl okX6_advance tw_673 rfl rfl (c_advP h4 hb.1) rfl rfl (Nat.le_of_ble_eq_true rfl) ⟨by decide, by decide⟩ ⟨rfl, rfl⟩ (fun rv_ Vd r_ Kd hv_ => ?_)
      obtain ⟨a1_, hd, a3_⟩ := hv_
      rw [a1_, a3_]
      show Wq MX8_takeValue 115 [some (.ref 54), some (.int (-(nI m))), some (.int (nI m)), some (.int 1), some (.int v1)] [] Vd r Kd _
      refine x_iload (q := 117) dX8_takeValue_115 rfl rfl ?_
      refine q_iret dX8_takeValue_117 rfl ?_
      rw [if_neg nb, ev1]
      exact ⟨rfl, ⟨hd.1, hb.2.tr hd.2⟩, rfl⟩
set_option maxRecDepth 100000 in
theorem l_tv1_b {T : Nat → Nat} {n : Nat} {r : MR} (h4 : r 4 = 1) {X : MI} {J : MJ} {s : Nat × Nat × Nat} (h : PS T n s X J) {m pp : Nat} (hm : m < 10000) (hv4 : X 54 4 = nI pp) (hc : ¬ nuC T n s) (x4 : Option Value) : Wq MX8_takeValue 39 [some (.ref 54), some (.int (-(nI m))), some (.int (nI m)), some (.int 1), x4] [] X r J (Rq (some (.int (-(nI m)))) (fun Y K => PS T n (rfT T n s) Y K ∧ FP X J Y K) r) := by
  have q1 := h.2.2.1
  have q2 := h.2.2.2.1
  have q3 := h.2.2.2.2.1
  have q4 := h.2.2.2.2.2.1
  have hL := h.2.2.2.2.2.2
  refine x_aload_n (q := 40) dX8_takeValue_39 rfl rfl ?_
  refine q_gi (K := 2) (q := 43) dX8_takeValue_40 rfl cl_8 (by decide) tw_367 rfl rfl ?_
  refine x_if_ne (t := 57) (q := 46) dX8_takeValue_43 (by decide) rfl (fun c43 => ?_) (fun c43 => ?_)
  · refine x_aload_n (q := 58) dX8_takeValue_57 rfl rfl ?_
    refine q_callV (ci := 8) (N := 5) (T := TX8) (As := []) (rest := []) (q := 61) dX8_takeValue_58 rfl okX8_refuseToken tw_665 rfl rfl (c_rfT h4 h) rfl rfl (Nat.le_of_ble_eq_true rfl) ⟨by decide, by decide⟩ ⟨rfl, rfl⟩ (fun rv_ Va r_ Ka hv_ => ?_)
    obtain ⟨a1_, ha, a3_⟩ := hv_
    rw [a1_, a3_]
    show Wq MX8_takeValue 61 [some (.ref 54), some (.int (-(nI m))), some (.int (nI m)), some (.int 1), x4] [] Va r Ka _
    refine x_iload_n (q := 62) dX8_takeValue_61 rfl rfl ?_
    refine q_iret dX8_takeValue_62 rfl ?_
    exact ⟨rfl, ha, rfl⟩
  · refine x_aload_n (q := 47) dX8_takeValue_46 rfl rfl ?_
    refine q_gr (K := 0) (b := 55) (q := 50) dX8_takeValue_47 rfl cl_8 (by decide) tw_365 rfl rfl rfl ?_
    refine q_gi (K := 4) (q := 53) dX8_takeValue_50 rfl cl_6 (by decide) tw_336 rfl rfl ?_
    refine x_iconst (3) (q := 54) dX8_takeValue_53 rfl (by decide) ?_
    refine x_icmp_eq (t := 63) (q := 57) dX8_takeValue_54 (by decide) rfl (fun c54 => ?_) (fun c54 => ?_)
    · exact absurd ⟨f_0 q1 q4 c43, (kd_c 3 hL.2.2.1 (by decide) rfl).mp c54⟩ hc
    · refine x_aload_n (q := 58) dX8_takeValue_57 rfl rfl ?_
      refine q_callV (ci := 8) (N := 5) (T := TX8) (As := []) (rest := []) (q := 61) dX8_takeValue_58 rfl okX8_refuseToken tw_665 rfl rfl (c_rfT h4 h) rfl rfl (Nat.le_of_ble_eq_true rfl) ⟨by decide, by decide⟩ ⟨rfl, rfl⟩ (fun rv_ Va r_ Ka hv_ => ?_)
      obtain ⟨a1_, ha, a3_⟩ := hv_
      rw [a1_, a3_]
      show Wq MX8_takeValue 61 [some (.ref 54), some (.int (-(nI m))), some (.int (nI m)), some (.int 1), x4] [] Va r Ka _
      refine x_iload_n (q := 62) dX8_takeValue_61 rfl rfl ?_
      refine q_iret dX8_takeValue_62 rfl ?_
      exact ⟨rfl, ha, rfl⟩
set_option maxRecDepth 100000 in
theorem c_tva_g {T : Nat → Nat} {n : Nat} {r : MR} (h4 : r 4 = 1) {X : MI} {J : MJ} {s : Nat × Nat × Nat} (h : PS T n s X J) {m : Nat} (hm : m < 10000) (hc : nuC T n (vS T n s)) : Cq yX8_takeValue MX8_takeValue [.ref 54, .int (-(nI m)), .int (nI m)] X r J (Rq (some (.int (tvV_ T n s))) (fun Y K => PS T n (tvS T n m s) Y K ∧ FW X J Y K ∧ Y 54 4 = nI (sk T n s.2.2)) r) := by
  have q1 := h.2.2.1
  have q2 := h.2.2.2.1
  have q3 := h.2.2.2.2.1
  have q4 := h.2.2.2.2.2.1
  have hL := h.2.2.2.2.2.2
  refine cq_of [some (.ref 54), some (.int (-(nI m))), some (.int (nI m)), none, none] 2 (by decide +kernel) rfl rfl (Nat.le_of_ble_eq_true rfl) rfl ?_
  refine x_aload_n (q := 1) dX8_takeValue_0 rfl rfl ?_
  refine x_aload_n (q := 2) dX8_takeValue_1 rfl rfl ?_
  refine q_gr (K := 0) (b := 55) (q := 5) dX8_takeValue_2 rfl cl_8 (by decide) tw_365 rfl rfl rfl ?_
  refine q_gi (K := 5) (q := 8) dX8_takeValue_5 rfl cl_6 (by decide) tw_338 rfl rfl ?_
  refine q_pi (K := 4) (q := 11) dX8_takeValue_8 rfl cl_8 (by decide) tw_371 rfl rfl rfl rfl (fun I1 eI1 => ?_)
  have hp1 : PS T n s I1 J := by rw [eI1]; exact PS_54 h
  have hp4 : I1 54 4 = nI (sk T n s.2.2) := by rw [eI1, upq]; exact hL.2.2.2.1
  have hw1 : FW X J I1 J := ⟨fun c e1 e2 => by rw [eI1, upc e1], fun _ _ _ => rfl⟩
  refine x_aload_n (q := 12) dX8_takeValue_11 rfl rfl ?_
  refine q_gr (K := 0) (b := 55) (q := 15) dX8_takeValue_12 rfl cl_8 (by decide) tw_365 rfl rfl rfl ?_
  refine q_gi (K := 4) (q := 18) dX8_takeValue_15 rfl cl_6 (by decide) tw_336 rfl rfl ?_
  refine x_iconst (5) (q := 19) dX8_takeValue_18 rfl (by decide) ?_
  refine x_icmp_ne (t := 26) (q := 22) dX8_takeValue_19 (by decide) rfl (fun c19 => ?_) (fun c19 => ?_)
  · refine x_iconst (0) (q := 27) dX8_takeValue_26 rfl (by decide) ?_
    refine x_istore_n (L2 := [some (.ref 54), some (.int (-(nI m))), some (.int (nI m)), some (.int 0), none]) (q := 28) dX8_takeValue_27 rfl (by decide) rfl rfl ?_
    refine x_iload_n (q := 29) dX8_takeValue_28 rfl rfl ?_
    refine x_if_eq (t := 39) (q := 32) dX8_takeValue_29 (by decide) rfl (fun c29 => ?_) (fun c29 => absurd c29 ((by decide)))
    have ek : ¬ kd T n s.2.2 = 5 := fun z => c19 (by rw [eI1, upc (by decide)]; exact (kd_c 5 hL.2.2.1 (by decide) rfl).mpr z)
    have es : vS T n s = s := if_neg ek
    have hz := hp1
    rw [← es] at hz
    have hz4 := hp4
    have hzw := hw1
    refine wq_mono (fun v Y r' K' hv => ?_) (l_tv0_g h4 hz hm hz4 hc none)
    obtain ⟨a1, ⟨a2, a3⟩, a4⟩ := hv
    refine ⟨by rw [a1]; unfold tvV_; rw [if_neg ek], ⟨a2, hzw.tr a3.w, a3.2.2.trans hz4⟩, a4⟩
  · refine x_iconst (1) (q := 23) dX8_takeValue_22 rfl (by decide) ?_
    refine x_goto (t := 27) dX8_takeValue_23 (by decide) ?_
    refine x_istore_n (L2 := [some (.ref 54), some (.int (-(nI m))), some (.int (nI m)), some (.int 1), none]) (q := 28) dX8_takeValue_27 rfl (by decide) rfl rfl ?_
    refine x_iload_n (q := 29) dX8_takeValue_28 rfl rfl ?_
    refine x_if_eq (t := 39) (q := 32) dX8_takeValue_29 (by decide) rfl (fun c29 => absurd c29 ((by decide))) (fun c29 => ?_)
    refine x_aload_n (q := 33) dX8_takeValue_32 rfl rfl ?_
    refine q_gr (K := 0) (b := 55) (q := 36) dX8_takeValue_33 rfl cl_8 (by decide) tw_365 rfl rfl rfl ?_
    refine q_callV (ci := 6) (N := 9) (T := TX6) (As := []) (rest := []) (q := 39) dX8_takeValue_36 rfl okX6_advance tw_673 rfl rfl (c_advP h4 hp1) rfl rfl (Nat.le_of_ble_eq_true rfl) ⟨by decide, by decide⟩ ⟨rfl, rfl⟩ (fun rv_ Va r_ Ka hv_ => ?_)
    obtain ⟨a1_, ha, a3_⟩ := hv_
    rw [a1_, a3_]
    show Wq MX8_takeValue 39 [some (.ref 54), some (.int (-(nI m))), some (.int (nI m)), some (.int 1), none] [] Va r Ka _
    have ek : kd T n s.2.2 = 5 := by rw [eI1, upc (by decide)] at c19; exact (kd_c 5 hL.2.2.1 (by decide) rfl).mp c19
    have es : vS T n s = adv T n s := if_pos ek
    have hz := ha.1
    rw [← es] at hz
    have hz4 : Va 54 4 = nI (sk T n s.2.2) := by rw [ha.2.2.2]; exact hp4
    have hzw : FW X J Va Ka := hw1.tr ha.2.w
    refine wq_mono (fun v Y r' K' hv => ?_) (l_tv1_g h4 hz hm hz4 hc none)
    obtain ⟨a1, ⟨a2, a3⟩, a4⟩ := hv
    refine ⟨by rw [a1]; unfold tvV_; rw [if_pos ek], ⟨a2, hzw.tr a3.w, a3.2.2.trans hz4⟩, a4⟩
set_option maxRecDepth 100000 in
theorem c_tva_b {T : Nat → Nat} {n : Nat} {r : MR} (h4 : r 4 = 1) {X : MI} {J : MJ} {s : Nat × Nat × Nat} (h : PS T n s X J) {m : Nat} (hm : m < 10000) (hc : ¬ nuC T n (vS T n s)) : Cq yX8_takeValue MX8_takeValue [.ref 54, .int (-(nI m)), .int (nI m)] X r J (Rq (some (.int (-(nI m)))) (fun Y K => PS T n (rfT T n (vS T n s)) Y K ∧ FW X J Y K ∧ Y 54 4 = nI (sk T n s.2.2)) r) := by
  have q1 := h.2.2.1
  have q2 := h.2.2.2.1
  have q3 := h.2.2.2.2.1
  have q4 := h.2.2.2.2.2.1
  have hL := h.2.2.2.2.2.2
  refine cq_of [some (.ref 54), some (.int (-(nI m))), some (.int (nI m)), none, none] 2 (by decide +kernel) rfl rfl (Nat.le_of_ble_eq_true rfl) rfl ?_
  refine x_aload_n (q := 1) dX8_takeValue_0 rfl rfl ?_
  refine x_aload_n (q := 2) dX8_takeValue_1 rfl rfl ?_
  refine q_gr (K := 0) (b := 55) (q := 5) dX8_takeValue_2 rfl cl_8 (by decide) tw_365 rfl rfl rfl ?_
  refine q_gi (K := 5) (q := 8) dX8_takeValue_5 rfl cl_6 (by decide) tw_338 rfl rfl ?_
  refine q_pi (K := 4) (q := 11) dX8_takeValue_8 rfl cl_8 (by decide) tw_371 rfl rfl rfl rfl (fun I1 eI1 => ?_)
  have hp1 : PS T n s I1 J := by rw [eI1]; exact PS_54 h
  have hp4 : I1 54 4 = nI (sk T n s.2.2) := by rw [eI1, upq]; exact hL.2.2.2.1
  have hw1 : FW X J I1 J := ⟨fun c e1 e2 => by rw [eI1, upc e1], fun _ _ _ => rfl⟩
  refine x_aload_n (q := 12) dX8_takeValue_11 rfl rfl ?_
  refine q_gr (K := 0) (b := 55) (q := 15) dX8_takeValue_12 rfl cl_8 (by decide) tw_365 rfl rfl rfl ?_
  refine q_gi (K := 4) (q := 18) dX8_takeValue_15 rfl cl_6 (by decide) tw_336 rfl rfl ?_
  refine x_iconst (5) (q := 19) dX8_takeValue_18 rfl (by decide) ?_
  refine x_icmp_ne (t := 26) (q := 22) dX8_takeValue_19 (by decide) rfl (fun c19 => ?_) (fun c19 => ?_)
  · refine x_iconst (0) (q := 27) dX8_takeValue_26 rfl (by decide) ?_
    refine x_istore_n (L2 := [some (.ref 54), some (.int (-(nI m))), some (.int (nI m)), some (.int 0), none]) (q := 28) dX8_takeValue_27 rfl (by decide) rfl rfl ?_
    refine x_iload_n (q := 29) dX8_takeValue_28 rfl rfl ?_
    refine x_if_eq (t := 39) (q := 32) dX8_takeValue_29 (by decide) rfl (fun c29 => ?_) (fun c29 => absurd c29 ((by decide)))
    have ek : ¬ kd T n s.2.2 = 5 := fun z => c19 (by rw [eI1, upc (by decide)]; exact (kd_c 5 hL.2.2.1 (by decide) rfl).mpr z)
    have es : vS T n s = s := if_neg ek
    have hz := hp1
    rw [← es] at hz
    have hz4 := hp4
    have hzw := hw1
    refine wq_mono (fun v Y r' K' hv => ?_) (l_tv0_b h4 hz hm hz4 hc none)
    obtain ⟨a1, ⟨a2, a3⟩, a4⟩ := hv
    exact ⟨a1, ⟨a2, hzw.tr a3.w, a3.2.2.trans hz4⟩, a4⟩
  · refine x_iconst (1) (q := 23) dX8_takeValue_22 rfl (by decide) ?_
    refine x_goto (t := 27) dX8_takeValue_23 (by decide) ?_
    refine x_istore_n (L2 := [some (.ref 54), some (.int (-(nI m))), some (.int (nI m)), some (.int 1), none]) (q := 28) dX8_takeValue_27 rfl (by decide) rfl rfl ?_
    refine x_iload_n (q := 29) dX8_takeValue_28 rfl rfl ?_
    refine x_if_eq (t := 39) (q := 32) dX8_takeValue_29 (by decide) rfl (fun c29 => absurd c29 ((by decide))) (fun c29 => ?_)
    refine x_aload_n (q := 33) dX8_takeValue_32 rfl rfl ?_
    refine q_gr (K := 0) (b := 55) (q := 36) dX8_takeValue_33 rfl cl_8 (by decide) tw_365 rfl rfl rfl ?_
    refine q_callV (ci := 6) (N := 9) (T := TX6) (As := []) (rest := []) (q := 39) dX8_takeValue_36 rfl okX6_advance tw_673 rfl rfl (c_advP h4 hp1) rfl rfl (Nat.le_of_ble_eq_true rfl) ⟨by decide, by decide⟩ ⟨rfl, rfl⟩ (fun rv_ Va r_ Ka hv_ => ?_)
    obtain ⟨a1_, ha, a3_⟩ := hv_
    rw [a1_, a3_]
    show Wq MX8_takeValue 39 [some (.ref 54), some (.int (-(nI m))), some (.int (nI m)), some (.int 1), none] [] Va r Ka _
    have ek : kd T n s.2.2 = 5 := by rw [eI1, upc (by decide)] at c19; exact (kd_c 5 hL.2.2.1 (by decide) rfl).mp c19
    have es : vS T n s = adv T n s := if_pos ek
    have hz := ha.1
    rw [← es] at hz
    have hz4 : Va 54 4 = nI (sk T n s.2.2) := by rw [ha.2.2.2]; exact hp4
    have hzw : FW X J Va Ka := hw1.tr ha.2.w
    refine wq_mono (fun v Y r' K' hv => ?_) (l_tv1_b h4 hz hm hz4 hc none)
    obtain ⟨a1, ⟨a2, a3⟩, a4⟩ := hv
    exact ⟨a1, ⟨a2, hzw.tr a3.w, a3.2.2.trans hz4⟩, a4⟩
