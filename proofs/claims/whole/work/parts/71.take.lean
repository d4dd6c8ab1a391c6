theorem ng_ti {v : Nat} (h : v < 2 ^ 31) : (-(nI v)).toInt = -(v : Int) := by
  rw [Int32.toInt_neg, nI_toInt h]
  exact Int.bmod_eq_of_le (by omega) (by omega)
theorem vr_1 {v m : Nat} (hv : v < 10000) (hm : m < 10000) : ¬ nI v < -(nI m) := by
  rw [Int32.lt_iff_toInt_lt, ng_ti (by omega), nI_toInt (by omega)]
  omega
theorem vr_3 {v m : Nat} (hv : v < 10000) (hm : m < 10000) : -(nI v) < -(nI m) ↔ m < v := by
  rw [Int32.lt_iff_toInt_lt, ng_ti (by omega), ng_ti (by omega)]
  omega
theorem vr_4 {v m : Nat} (hv : v < 10000) (hm : m < 10000) : -(nI v) ≤ nI m := by
  rw [Int32.le_iff_toInt_le, ng_ti (by omega), nI_toInt (by omega)]
  omega
theorem v10_lt {T : Nat → Nat} {q : Nat} : ∀ k, (∀ i, i < k → dgi (T (q + i)) = true) → v10 T q k < 10 ^ k := by
  intro k
  induction k with
  | zero => intro _; exact Nat.zero_lt_one
  | succ k ih =>
    intro h
    have h1 := dgi_lo (h k (by omega))
    have h2 := ih (fun i hi => h i (by omega))
    rw [Nat.pow_succ]
    unfold v10
    omega
theorem kd3 {T : Nat → Nat} {n q : Nat} (h : kdQ T n q = 3) : q < n ∧ dgi (T q) = true ∧ ¬ nbd T n q := by
  unfold kdQ at h
  by_cases h1 : n ≤ q
  · rw [if_pos h1] at h; exact absurd h (by decide)
  rw [if_neg h1] at h
  by_cases h2 : ltr (T q) = true
  · rw [if_pos h2] at h
    by_cases h3 : 8 < wde T n q - q
    · rw [if_pos h3] at h; exact absurd h (by decide)
    · rw [if_neg h3] at h; exact absurd h (by decide)
  rw [if_neg h2] at h
  by_cases h3 : dgi (T q) = true
  · rw [if_pos h3] at h
    by_cases h5 : 4 < dge T n q - q ∨ (dge T n q < n ∧ ltr (T (dge T n q)) = true)
    · rw [if_pos h5] at h; exact absurd h (by decide)
    · exact ⟨by omega, h3, h5⟩
  rw [if_neg h3] at h
  by_cases h5 : T q = 59
  · rw [if_pos h5] at h; exact absurd h (by decide)
  rw [if_neg h5] at h
  by_cases h6 : T q = 45
  · rw [if_pos h6] at h; exact absurd h (by decide)
  · rw [if_neg h6] at h; exact absurd h (by decide)
theorem vl_lt {T : Nat → Nat} {n p : Nat} (h : kd T n p = 3) : vl T n p < 10000 := by
  have h1 := kd3 h
  have h2 := v10_lt (T := T) (q := sk T n p) (dge T n (sk T n p) - sk T n p) (fun i hi => rlp_in (n := n) (p := sk T n p) (by omega) (by unfold dge at hi; omega))
  have h3 : ¬ 4 < dge T n (sk T n p) - sk T n p := fun z => h1.2.2 (Or.inl z)
  have h4 : 10 ^ (dge T n (sk T n p) - sk T n p) ≤ 10 ^ 4 := Nat.pow_le_pow_right (by decide) (by omega)
  unfold vl vlQ
  omega
theorem kd2 {T : Nat → Nat} {n q : Nat} (h : kdQ T n q = 2) : q < n ∧ ltr (T q) = true ∧ wde T n q - q ≤ 8 := by
  unfold kdQ at h
  by_cases h1 : n ≤ q
  · rw [if_pos h1] at h; exact absurd h (by decide)
  rw [if_neg h1] at h
  by_cases h2 : ltr (T q) = true
  · rw [if_pos h2] at h
    by_cases h3 : 8 < wde T n q - q
    · rw [if_pos h3] at h; exact absurd h (by decide)
    · exact ⟨by omega, h2, by omega⟩
  rw [if_neg h2] at h
  by_cases h3 : dgi (T q) = true
  · rw [if_pos h3] at h
    by_cases h5 : 4 < dge T n q - q ∨ (dge T n q < n ∧ ltr (T (dge T n q)) = true)
    · rw [if_pos h5] at h; exact absurd h (by decide)
    · rw [if_neg h5] at h; exact absurd h (by decide)
  rw [if_neg h3] at h
  by_cases h5 : T q = 59
  · rw [if_pos h5] at h; exact absurd h (by decide)
  rw [if_neg h5] at h
  by_cases h6 : T q = 45
  · rw [if_pos h6] at h; exact absurd h (by decide)
  · rw [if_neg h6] at h; exact absurd h (by decide)
def soC (T : Nat → Nat) (n : Nat) (s : Nat × Nat × Nat) : Prop := s.1 = 0 ∧ 8 ≤ kw T n s.2.2 ∧ kw T n s.2.2 ≤ 11
def naC (T : Nat → Nat) (n : Nat) (s : Nat × Nat × Nat) : Prop := s.1 = 0 ∧ kd T n s.2.2 = 2 ∧ kw T n s.2.2 = 20
def nuC (T : Nat → Nat) (n : Nat) (s : Nat × Nat × Nat) : Prop := s.1 = 0 ∧ kd T n s.2.2 = 3
theorem sc1 : ∀ k, k < 21 → ¬ kwI k - 8 < 0 → kwI k - 8 ≤ 3 → 8 ≤ k ∧ k ≤ 11 := by decide +kernel
theorem sc2 : ∀ k, k < 21 → 8 ≤ k ∧ k ≤ 11 → ¬ kwI k - 8 < 0 ∧ kwI k - 8 ≤ 3 ∧ kwI k - 8 = nI (k - 8) := by decide +kernel
set_option maxRecDepth 100000 in
theorem c_tso_g {T : Nat → Nat} {n : Nat} {r : MR} (h4 : r 4 = 1) {X : MI} {J : MJ} {s : Nat × Nat × Nat} (h : PS T n s X J) (hc : soC T n s) : Cq yX8_takeSort MX8_takeSort [.ref 54] X r J (RP (some (.int (nI (kw T n s.2.2 - 8)))) T n (adv T n s) X J r) := by
  have q1 := h.2.2.1
  have q2 := h.2.2.2.1
  have q3 := h.2.2.2.2.1
  have q4 := h.2.2.2.2.2.1
  have hL := h.2.2.2.2.2.2
  have hkw := kw_le T n s.2.2
  have e8 : X 55 8 = kwI (kw T n s.2.2) := hL.2.2.2.2.2.2
  refine cq_of [some (.ref 54), none] 1 (by decide +kernel) rfl rfl (Nat.le_of_ble_eq_true rfl) rfl ?_
  refine x_aload_n (q := 1) dX8_takeSort_0 rfl rfl ?_
  refine q_gr (K := 0) (b := 55) (q := 4) dX8_takeSort_1 rfl cl_8 (by decide) tw_365 rfl rfl rfl ?_
  refine q_gi (K := 8) (q := 7) dX8_takeSort_4 rfl cl_6 (by decide) tw_344 rfl rfl ?_
  refine x_bipush (8) (q := 9) dX8_takeSort_7 rfl (by decide) ?_
  refine x_isub (q := 10) dX8_takeSort_9 rfl ?_
  refine x_nmi (fun v1 ev1 => ?_)
  refine x_istore_n (L2 := [some (.ref 54), some (.int v1)]) (q := 11) dX8_takeSort_10 rfl (by decide) rfl rfl ?_
  refine x_aload_n (q := 12) dX8_takeSort_11 rfl rfl ?_
  refine q_gi (K := 2) (q := 15) dX8_takeSort_12 rfl cl_8 (by decide) tw_367 rfl rfl ?_
  refine x_if_ne (t := 27) (q := 18) dX8_takeSort_15 (by decide) rfl (fun c15 => absurd c15 (fun z => z (by rw [q1, hc.1]; rfl))) (fun c15 => ?_)
  refine x_iload_n (q := 19) dX8_takeSort_18 rfl rfl ?_
  refine x_if_lt (t := 27) (q := 22) dX8_takeSort_19 (by decide) rfl (fun c19 => absurd c19 (by rw [ev1, e8]; exact (sc2 _ (by omega) hc.2).1)) (fun c19 => ?_)
  refine x_iload_n (q := 23) dX8_takeSort_22 rfl rfl ?_
  refine x_iconst (3) (q := 24) dX8_takeSort_23 rfl (by decide) ?_
  refine x_icmp_le (t := 33) (q := 27) dX8_takeSort_24 (by decide) rfl (fun c24 => ?_) (fun c24 => absurd c24 (fun z => z (by rw [ev1, e8]; exact (sc2 _ (by omega) hc.2).2.1)))
  refine x_aload_n (q := 34) dX8_takeSort_33 rfl rfl ?_
  refine q_gr (K := 0) (b := 55) (q := 37) dX8_takeSort_34 rfl cl_8 (by decide) tw_365 rfl rfl rfl ?_
  refine q_callV (ci := 6) (N := 9) (T := TX6) (As := []) (rest := []) (q := 40) dX8_takeSort_37 rfl okX6_advance tw_673 rfl rfl (c_advP h4 h) rfl rfl (Nat.le_of_ble_eq_true rfl) ⟨by decide, by decide⟩ ⟨rfl, rfl⟩ (fun rv_ Va r_ Ka hv_ => ?_)
  obtain ⟨a1_, ha, a3_⟩ := hv_
  rw [a1_, a3_]
  show Wq MX8_takeSort 40 [some (.ref 54), some (.int v1)] [] Va r Ka _
  refine x_iload_n (q := 41) dX8_takeSort_40 rfl rfl ?_
  refine q_iret dX8_takeSort_41 rfl ?_
  rw [ev1, e8, (sc2 _ (by omega) hc.2).2.2]
  exact ⟨rfl, ha, rfl⟩
set_option maxRecDepth 100000 in
theorem c_tso_b {T : Nat → Nat} {n : Nat} {r : MR} (h4 : r 4 = 1) {X : MI} {J : MJ} {s : Nat × Nat × Nat} (h : PS T n s X J) (hc : ¬ soC T n s) : Cq yX8_takeSort MX8_takeSort [.ref 54] X r J (RP (some (.int 0)) T n (rfT T n s) X J r) := by
  have q1 := h.2.2.1
  have q2 := h.2.2.2.1
  have q3 := h.2.2.2.2.1
  have q4 := h.2.2.2.2.2.1
  have hL := h.2.2.2.2.2.2
  have hkw := kw_le T n s.2.2
  have e8 : X 55 8 = kwI (kw T n s.2.2) := hL.2.2.2.2.2.2
  refine cq_of [some (.ref 54), none] 1 (by decide +kernel) rfl rfl (Nat.le_of_ble_eq_true rfl) rfl ?_
  refine x_aload_n (q := 1) dX8_takeSort_0 rfl rfl ?_
  refine q_gr (K := 0) (b := 55) (q := 4) dX8_takeSort_1 rfl cl_8 (by decide) tw_365 rfl rfl rfl ?_
  refine q_gi (K := 8) (q := 7) dX8_takeSort_4 rfl cl_6 (by decide) tw_344 rfl rfl ?_
  refine x_bipush (8) (q := 9) dX8_takeSort_7 rfl (by decide) ?_
  refine x_isub (q := 10) dX8_takeSort_9 rfl ?_
  refine x_nmi (fun v1 ev1 => ?_)
  refine x_istore_n (L2 := [some (.ref 54), some (.int v1)]) (q := 11) dX8_takeSort_10 rfl (by decide) rfl rfl ?_
  refine x_aload_n (q := 12) dX8_takeSort_11 rfl rfl ?_
  refine q_gi (K := 2) (q := 15) dX8_takeSort_12 rfl cl_8 (by decide) tw_367 rfl rfl ?_
  refine x_if_ne (t := 27) (q := 18) dX8_takeSort_15 (by decide) rfl (fun c15 => ?_) (fun c15 => ?_)
  · refine x_aload_n (q := 28) dX8_takeSort_27 rfl rfl ?_
    refine q_callV (ci := 8) (N := 5) (T := TX8) (As := []) (rest := []) (q := 31) dX8_takeSort_28 rfl okX8_refuseToken tw_665 rfl rfl (c_rfT h4 h) rfl rfl (Nat.le_of_ble_eq_true rfl) ⟨by decide, by decide⟩ ⟨rfl, rfl⟩ (fun rv_ Va r_ Ka hv_ => ?_)
    obtain ⟨a1_, ha, a3_⟩ := hv_
    rw [a1_, a3_]
    show Wq MX8_takeSort 31 [some (.ref 54), some (.int v1)] [] Va r Ka _
    refine x_iconst (0) (q := 32) dX8_takeSort_31 rfl (by decide) ?_
    refine q_iret dX8_takeSort_32 rfl ?_
    exact ⟨rfl, ha, rfl⟩
  · refine x_iload_n (q := 19) dX8_takeSort_18 rfl rfl ?_
    refine x_if_lt (t := 27) (q := 22) dX8_takeSort_19 (by decide) rfl (fun c19 => ?_) (fun c19 => ?_)
    · refine x_aload_n (q := 28) dX8_takeSort_27 rfl rfl ?_
      refine q_callV (ci := 8) (N := 5) (T := TX8) (As := []) (rest := []) (q := 31) dX8_takeSort_28 rfl okX8_refuseToken tw_665 rfl rfl (c_rfT h4 h) rfl rfl (Nat.le_of_ble_eq_true rfl) ⟨by decide, by decide⟩ ⟨rfl, rfl⟩ (fun rv_ Va r_ Ka hv_ => ?_)
      obtain ⟨a1_, ha, a3_⟩ := hv_
      rw [a1_, a3_]
      show Wq MX8_takeSort 31 [some (.ref 54), some (.int v1)] [] Va r Ka _
      refine x_iconst (0) (q := 32) dX8_takeSort_31 rfl (by decide) ?_
      refine q_iret dX8_takeSort_32 rfl ?_
      exact ⟨rfl, ha, rfl⟩
    · refine x_iload_n (q := 23) dX8_takeSort_22 rfl rfl ?_
      refine x_iconst (3) (q := 24) dX8_takeSort_23 rfl (by decide) ?_
      refine x_icmp_le (t := 33) (q := 27) dX8_takeSort_24 (by decide) rfl (fun c24 => ?_) (fun c24 => ?_)
      · exact absurd ⟨f_0 q1 q4 c15, sc1 _ (by omega) (by rw [ev1, e8] at c19; exact c19) (by rw [ev1, e8] at c24; exact c24)⟩ hc
      · refine x_aload_n (q := 28) dX8_takeSort_27 rfl rfl ?_
        refine q_callV (ci := 8) (N := 5) (T := TX8) (As := []) (rest := []) (q := 31) dX8_takeSort_28 rfl okX8_refuseToken tw_665 rfl rfl (c_rfT h4 h) rfl rfl (Nat.le_of_ble_eq_true rfl) ⟨by decide, by decide⟩ ⟨rfl, rfl⟩ (fun rv_ Va r_ Ka hv_ => ?_)
        obtain ⟨a1_, ha, a3_⟩ := hv_
        rw [a1_, a3_]
        show Wq MX8_takeSort 31 [some (.ref 54), some (.int v1)] [] Va r Ka _
        refine x_iconst (0) (q := 32) dX8_takeSort_31 rfl (by decide) ?_
        refine q_iret dX8_takeSort_32 rfl ?_
        exact ⟨rfl, ha, rfl⟩
set_option maxRecDepth 100000 in
theorem c_tna_g {T : Nat → Nat} {n : Nat} {r : MR} (h4 : r 4 = 1) {X : MI} {J : MJ} {s : Nat × Nat × Nat} (h : PS T n s X J) (hc : naC T n s) : Cq yX8_takeName MX8_takeName [.ref 54] X r J (RP (some (.long (lN (w5 T n s.2.2)))) T n (adv T n s) X J r) := by
  have q1 := h.2.2.1
  have q2 := h.2.2.2.1
  have q3 := h.2.2.2.2.1
  have q4 := h.2.2.2.2.2.1
  have hL := h.2.2.2.2.2.2
  have hkw := kw_le T n s.2.2
  have e8 : X 55 8 = kwI (kw T n s.2.2) := hL.2.2.2.2.2.2
  refine cq_of [some (.ref 54), none, none] 2 (by decide +kernel) rfl rfl (Nat.le_of_ble_eq_true rfl) rfl ?_
  refine x_aload_n (q := 1) dX8_takeName_0 rfl rfl ?_
  refine q_gi (K := 2) (q := 4) dX8_takeName_1 rfl cl_8 (by decide) tw_367 rfl rfl ?_
  refine x_if_ne (t := 29) (q := 7) dX8_takeName_4 (by decide) rfl (fun c4 => absurd c4 (fun z => z (by rw [q1, hc.1]; rfl))) (fun c4 => ?_)
  refine x_aload_n (q := 8) dX8_takeName_7 rfl rfl ?_
  refine q_gr (K := 0) (b := 55) (q := 11) dX8_takeName_8 rfl cl_8 (by decide) tw_365 rfl rfl rfl ?_
  refine q_gi (K := 4) (q := 14) dX8_takeName_11 rfl cl_6 (by decide) tw_336 rfl rfl ?_
  refine x_iconst (2) (q := 15) dX8_takeName_14 rfl (by decide) ?_
  refine x_icmp_ne (t := 29) (q := 18) dX8_takeName_15 (by decide) rfl (fun c15 => absurd c15 (fun z => z ((kd_c 2 hL.2.2.1 (by decide) rfl).mpr hc.2.1))) (fun c15 => ?_)
  refine x_aload_n (q := 19) dX8_takeName_18 rfl rfl ?_
  refine q_gr (K := 0) (b := 55) (q := 22) dX8_takeName_19 rfl cl_8 (by decide) tw_365 rfl rfl rfl ?_
  refine q_gi (K := 8) (q := 25) dX8_takeName_22 rfl cl_6 (by decide) tw_344 rfl rfl ?_
  refine x_iconst (-1) (q := 26) dX8_takeName_25 rfl (by decide) ?_
  refine x_icmp_eq (t := 35) (q := 29) dX8_takeName_26 (by decide) rfl (fun c26 => ?_) (fun c26 => absurd c26 (fun z => z (by rw [e8]; exact (kwI_n hkw).mpr hc.2.2)))
  refine x_aload_n (q := 36) dX8_takeName_35 rfl rfl ?_
  refine q_gr (K := 0) (b := 55) (q := 39) dX8_takeName_36 rfl cl_8 (by decide) tw_365 rfl rfl rfl ?_
  refine q_gl (K := 7) (q := 42) dX8_takeName_39 rfl cl_6 (by decide) tw_342 rfl rfl ?_
  refine x_nml (fun v1 ev1 => ?_)
  refine x_lstore_n (L2 := [some (.ref 54), some (.long v1), none]) (q := 43) dX8_takeName_42 rfl (by decide) rfl rfl ?_
  refine x_aload_n (q := 44) dX8_takeName_43 rfl rfl ?_
  refine q_gr (K := 0) (b := 55) (q := 47) dX8_takeName_44 rfl cl_8 (by decide) tw_365 rfl rfl rfl ?_
  refine q_callV (ci := 6) (N := 9) (T := TX6) (As := []) (rest := []) (q := 50) dX8_takeName_47 rfl okX6_advance tw_673 rfl rfl (c_advP h4 h) rfl rfl (Nat.le_of_ble_eq_true rfl) ⟨by decide, by decide⟩ ⟨rfl, rfl⟩ (fun rv_ Va r_ Ka hv_ => ?_)
  obtain ⟨a1_, ha, a3_⟩ := hv_
  rw [a1_, a3_]
  show Wq MX8_takeName 50 [some (.ref 54), some (.long v1), none] [] Va r Ka _
  refine x_lload_n (q := 51) dX8_takeName_50 rfl rfl ?_
  refine q_lret dX8_takeName_51 rfl ?_
  rw [ev1, hL.2.2.2.2.2.1 hc.2.1]
  exact ⟨rfl, ha, rfl⟩
set_option maxRecDepth 100000 in
theorem c_tna_b {T : Nat → Nat} {n : Nat} {r : MR} (h4 : r 4 = 1) {X : MI} {J : MJ} {s : Nat × Nat × Nat} (h : PS T n s X J) (hc : ¬ naC T n s) : Cq yX8_takeName MX8_takeName [.ref 54] X r J (RP (some (.long 0)) T n (rfT T n s) X J r) := by
  have q1 := h.2.2.1
  have q2 := h.2.2.2.1
  have q3 := h.2.2.2.2.1
  have q4 := h.2.2.2.2.2.1
  have hL := h.2.2.2.2.2.2
  have hkw := kw_le T n s.2.2
  have e8 : X 55 8 = kwI (kw T n s.2.2) := hL.2.2.2.2.2.2
  refine cq_of [some (.ref 54), none, none] 2 (by decide +kernel) rfl rfl (Nat.le_of_ble_eq_true rfl) rfl ?_
  refine x_aload_n (q := 1) dX8_takeName_0 rfl rfl ?_
  refine q_gi (K := 2) (q := 4) dX8_takeName_1 rfl cl_8 (by decide) tw_367 rfl rfl ?_
  refine x_if_ne (t := 29) (q := 7) dX8_takeName_4 (by decide) rfl (fun c4 => ?_) (fun c4 => ?_)
  · refine x_aload_n (q := 30) dX8_takeName_29 rfl rfl ?_
    refine q_callV (ci := 8) (N := 5) (T := TX8) (As := []) (rest := []) (q := 33) dX8_takeName_30 rfl okX8_refuseToken tw_665 rfl rfl (c_rfT h4 h) rfl rfl (Nat.le_of_ble_eq_true rfl) ⟨by decide, by decide⟩ ⟨rfl, rfl⟩ (fun rv_ Va r_ Ka hv_ => ?_)
    obtain ⟨a1_, ha, a3_⟩ := hv_
    rw [a1_, a3_]
    show Wq MX8_takeName 33 [some (.ref 54), none, none] [] Va r Ka _
    refine x_lconst 0 (q := 34) dX8_takeName_33 rfl (by decide) ?_
    refine q_lret dX8_takeName_34 rfl ?_
    exact ⟨rfl, ha, rfl⟩
  · refine x_aload_n (q := 8) dX8_takeName_7 rfl rfl ?_
    refine q_gr (K := 0) (b := 55) (q := 11) dX8_takeName_8 rfl cl_8 (by decide) tw_365 rfl rfl rfl ?_
    refine q_gi (K := 4) (q := 14) dX8_takeName_11 rfl cl_6 (by decide) tw_336 rfl rfl ?_
    refine x_iconst (2) (q := 15) dX8_takeName_14 rfl (by decide) ?_
    refine x_icmp_ne (t := 29) (q := 18) dX8_takeName_15 (by decide) rfl (fun c15 => ?_) (fun c15 => ?_)
    · refine x_aload_n (q := 30) dX8_takeName_29 rfl rfl ?_
      refine q_callV (ci := 8) (N := 5) (T := TX8) (As := []) (rest := []) (q := 33) dX8_takeName_30 rfl okX8_refuseToken tw_665 rfl rfl (c_rfT h4 h) rfl rfl (Nat.le_of_ble_eq_true rfl) ⟨by decide, by decide⟩ ⟨rfl, rfl⟩ (fun rv_ Va r_ Ka hv_ => ?_)
      obtain ⟨a1_, ha, a3_⟩ := hv_
      rw [a1_, a3_]
      show Wq MX8_takeName 33 [some (.ref 54), none, none] [] Va r Ka _
      refine x_lconst 0 (q := 34) dX8_takeName_33 rfl (by decide) ?_
      refine q_lret dX8_takeName_34 rfl ?_
      exact ⟨rfl, ha, rfl⟩
    · refine x_aload_n (q := 19) dX8_takeName_18 rfl rfl ?_
      refine q_gr (K := 0) (b := 55) (q := 22) dX8_takeName_19 rfl cl_8 (by decide) tw_365 rfl rfl rfl ?_
      refine q_gi (K := 8) (q := 25) dX8_takeName_22 rfl cl_6 (by decide) tw_344 rfl rfl ?_
      refine x_iconst (-1) (q := 26) dX8_takeName_25 rfl (by decide) ?_
      refine x_icmp_eq (t := 35) (q := 29) dX8_takeName_26 (by decide) rfl (fun c26 => ?_) (fun c26 => ?_)
      · exact absurd ⟨f_0 q1 q4 c4, (kd_c 2 hL.2.2.1 (by decide) rfl).mp c15, (kwI_n hkw).mp (by rw [e8] at c26; exact c26)⟩ hc
      · refine x_aload_n (q := 30) dX8_takeName_29 rfl rfl ?_
        refine q_callV (ci := 8) (N := 5) (T := TX8) (As := []) (rest := []) (q := 33) dX8_takeName_30 rfl okX8_refuseToken tw_665 rfl rfl (c_rfT h4 h) rfl rfl (Nat.le_of_ble_eq_true rfl) ⟨by decide, by decide⟩ ⟨rfl, rfl⟩ (fun rv_ Va r_ Ka hv_ => ?_)
        obtain ⟨a1_, ha, a3_⟩ := hv_
        rw [a1_, a3_]
        show Wq MX8_takeName 33 [some (.ref 54), none, none] [] Va r Ka _
        refine x_lconst 0 (q := 34) dX8_takeName_33 rfl (by decide) ?_
        refine q_lret dX8_takeName_34 rfl ?_
        exact ⟨rfl, ha, rfl⟩
def tnuS (T : Nat → Nat) (n lo hi : Nat) (s : Nat × Nat × Nat) : Nat × Nat × Nat := adv T n (if lo ≤ vl T n s.2.2 ∧ vl T n s.2.2 ≤ hi then s else rf 4 (sk T n s.2.2) s)
set_option maxRecDepth 100000 in
theorem c_tnu_g {T : Nat → Nat} {n : Nat} {r : MR} (h4 : r 4 = 1) {X : MI} {J : MJ} {s : Nat × Nat × Nat} (h : PS T n s X J) {lo hi : Nat} (hlo : lo < 10000) (hhi : hi < 10000) (hc : nuC T n s) : Cq yX8_takeNumber MX8_takeNumber [.ref 54, .int (nI lo), .int (nI hi)] X r J (RP (some (.int (nI (vl T n s.2.2)))) T n (tnuS T n lo hi s) X J r) := by
  have q1 := h.2.2.1
  have q2 := h.2.2.2.1
  have q3 := h.2.2.2.2.1
  have q4 := h.2.2.2.2.2.1
  have hL := h.2.2.2.2.2.2
  have e6 := hL.2.2.2.2.1 hc.2
  have hv : vl T n s.2.2 < 10000 := vl_lt hc.2
  have ev6 : X 55 6 = nI (vl T n s.2.2) := e6
  refine cq_of [some (.ref 54), some (.int (nI lo)), some (.int (nI hi)), none] 1 (by decide +kernel) rfl rfl (Nat.le_of_ble_eq_true rfl) rfl ?_
  refine x_aload_n (q := 1) dX8_takeNumber_0 rfl rfl ?_
  refine q_gi (K := 2) (q := 4) dX8_takeNumber_1 rfl cl_8 (by decide) tw_367 rfl rfl ?_
  refine x_if_ne (t := 18) (q := 7) dX8_takeNumber_4 (by decide) rfl (fun c4 => absurd c4 (fun z => z (by rw [q1, hc.1]; rfl))) (fun c4 => ?_)
  refine x_aload_n (q := 8) dX8_takeNumber_7 rfl rfl ?_
  refine q_gr (K := 0) (b := 55) (q := 11) dX8_takeNumber_8 rfl cl_8 (by decide) tw_365 rfl rfl rfl ?_
  refine q_gi (K := 4) (q := 14) dX8_takeNumber_11 rfl cl_6 (by decide) tw_336 rfl rfl ?_
  refine x_iconst (3) (q := 15) dX8_takeNumber_14 rfl (by decide) ?_
  refine x_icmp_eq (t := 24) (q := 18) dX8_takeNumber_15 (by decide) rfl (fun c15 => ?_) (fun c15 => absurd c15 (fun z => z ((kd_c 3 hL.2.2.1 (by decide) rfl).mpr hc.2)))
  refine x_aload_n (q := 25) dX8_takeNumber_24 rfl rfl ?_
  refine q_gr (K := 0) (b := 55) (q := 28) dX8_takeNumber_25 rfl cl_8 (by decide) tw_365 rfl rfl rfl ?_
  refine q_gi (K := 6) (q := 31) dX8_takeNumber_28 rfl cl_6 (by decide) tw_340 rfl rfl ?_
  refine x_nmi (fun v1 ev1 => ?_)
  refine x_istore_n (L2 := [some (.ref 54), some (.int (nI lo)), some (.int (nI hi)), some (.int v1)]) (q := 32) dX8_takeNumber_31 rfl (by decide) rfl rfl ?_
  refine x_iload_n (q := 33) dX8_takeNumber_32 rfl rfl ?_
  refine x_iload_n (q := 34) dX8_takeNumber_33 rfl rfl ?_
  refine x_icmp_lt (t := 42) (q := 37) dX8_takeNumber_34 (by decide) rfl (fun c34 => ?_) (fun c34 => ?_)
  · have nb : ¬ (lo ≤ vl T n s.2.2 ∧ vl T n s.2.2 ≤ hi) := by
      intro z
      first
      | exact absurd c34 (by rw [ev1, ev6, nI_ltI (by omega) (by omega)]; omega)
      | exact c39 (by rw [ev1, ev6]; exact nI_le z.2 (by omega))
    refine x_aload_n (q := 43) dX8_takeNumber_42 rfl rfl ?_
    refine x_iconst (4) (q := 44) dX8_takeNumber_43 rfl (by decide) ?_
    refine x_aload_n (q := 45) dX8_takeNumber_44 rfl rfl ?_
    refine q_gr (K := 0) (b := 55) (q := 48) dX8_takeNumber_45 rfl cl_8 (by decide) tw_365 rfl rfl rfl ?_
    refine q_gi (K := 5) (q := 51) dX8_takeNumber_48 rfl cl_6 (by decide) tw_338 rfl rfl ?_
    refine q_callV (ci := 8) (N := 5) (T := TX8) (As := [.int 4, .int (X 55 5)]) (rest := []) (q := 54) dX8_takeNumber_51 rfl okX8_refuse tw_669 rfl rfl (by rw [hL.2.2.2.1]; exact c_ref h4 h (k := 4) (g := sk T n s.2.2) (by decide)) rfl rfl (Nat.le_of_ble_eq_true rfl) ⟨by decide, by decide⟩ ⟨rfl, rfl⟩ (fun rv_ Vb r_ Kb hv_ => ?_)
    obtain ⟨a1_, hb, a3_⟩ := hv_
    rw [a1_, a3_]
    show Wq MX8_takeNumber 54 [some (.ref 54), some (.int (nI lo)), some (.int (nI hi)), some (.int v1)] [] Vb r Kb _
    refine x_aload_n (q := 55) dX8_takeNumber_54 rfl rfl ?_
    refine q_gr (K := 0) (b := 55) (q := 58) dX8_takeNumber_55 rfl cl_8 (by decide) tw_365 rfl rfl rfl ?_
    refine q_callV (ci := 6) (N := 9) (T := TX6) (As := []) (rest := []) (q := 61) dX8_takeNumber_58 rfl okX6_advance tw_673 rfl rfl (c_advP h4 hb.1) rfl rfl (Nat.le_of_ble_eq_true rfl) ⟨by decide, by decide⟩ ⟨rfl, rfl⟩ (fun rv_ Vc r_ Kc hv_ => ?_)
    obtain ⟨a1_, hc_, a3_⟩ := hv_
    rw [a1_, a3_]
    show Wq MX8_takeNumber 61 [some (.ref 54), some (.int (nI lo)), some (.int (nI hi)), some (.int v1)] [] Vc r Kc _
    refine x_iload_n (q := 62) dX8_takeNumber_61 rfl rfl ?_
    refine q_iret dX8_takeNumber_62 rfl ?_
    rw [show tnuS T n lo hi s = adv T n (rf 4 (sk T n s.2.2) s) by unfold tnuS; rw [if_neg nb], ev1, ev6]
    exact ⟨rfl, ⟨hc_.1, hb.2.tr hc_.2⟩, rfl⟩
  · refine x_iload_n (q := 38) dX8_takeNumber_37 rfl rfl ?_
    refine x_iload_n (q := 39) dX8_takeNumber_38 rfl rfl ?_
    refine x_icmp_le (t := 54) (q := 42) dX8_takeNumber_39 (by decide) rfl (fun c39 => ?_) (fun c39 => ?_)
    · have nb : lo ≤ vl T n s.2.2 ∧ vl T n s.2.2 ≤ hi := by
        rw [ev1, ev6, nI_ltI (by omega) (by omega)] at c34
        rw [ev1, ev6, nI_leI (by omega) (by omega)] at c39
        omega
      refine x_aload_n (q := 55) dX8_takeNumber_54 rfl rfl ?_
      refine q_gr (K := 0) (b := 55) (q := 58) dX8_takeNumber_55 rfl cl_8 (by decide) tw_365 rfl rfl rfl ?_
      refine q_callV (ci := 6) (N := 9) (T := TX6) (As := []) (rest := []) (q := 61) dX8_takeNumber_58 rfl okX6_advance tw_673 rfl rfl (c_advP h4 h) rfl rfl (Nat.le_of_ble_eq_true rfl) ⟨by decide, by decide⟩ ⟨rfl, rfl⟩ (fun rv_ Vc r_ Kc hv_ => ?_)
      obtain ⟨a1_, hc_, a3_⟩ := hv_
      rw [a1_, a3_]
      show Wq MX8_takeNumber 61 [some (.ref 54), some (.int (nI lo)), some (.int (nI hi)), some (.int v1)] [] Vc r Kc _
      refine x_iload_n (q := 62) dX8_takeNumber_61 rfl rfl ?_
      refine q_iret dX8_takeNumber_62 rfl ?_
      rw [show tnuS T n lo hi s = adv T n s by unfold tnuS; rw [if_pos nb], ev1, ev6]
      exact ⟨rfl, hc_, rfl⟩
    · have nb : ¬ (lo ≤ vl T n s.2.2 ∧ vl T n s.2.2 ≤ hi) := by
        intro z
        first
        | exact absurd c34 (by rw [ev1, ev6, nI_ltI (by omega) (by omega)]; omega)
        | exact c39 (by rw [ev1, ev6]; exact nI_le z.2 (by omega))
      refine x_aload_n (q := 43) dX8_takeNumber_42 rfl rfl ?_
      refine x_iconst (4) (q := 44) dX8_takeNumber_43 rfl (by decide) ?_
      refine x_aload_n (q := 45) dX8_takeNumber_44 rfl rfl ?_
      refine q_gr (K := 0) (b := 55) (q := 48) dX8_takeNumber_45 rfl cl_8 (by decide) tw_365 rfl rfl rfl ?_
      refine q_gi (K := 5) (q := 51) dX8_takeNumber_48 rfl cl_6 (by decide) tw_338 rfl rfl ?_
      refine q_callV (ci := 8) (N := 5) (T := TX8) (As := [.int 4, .int (X 55 5)]) (rest := []) (q := 54) dX8_takeNumber_51 rfl okX8_refuse tw_669 rfl rfl (by rw [hL.2.2.2.1]; exact c_ref h4 h (k := 4) (g := sk T n s.2.2) (by decide)) rfl rfl (Nat.le_of_ble_eq_true rfl) ⟨by decide, by decide⟩ ⟨rfl, rfl⟩ (fun rv_ Vb r_ Kb hv_ => ?_)
      obtain ⟨a1_, hb, a3_⟩ := hv_
      rw [a1_, a3_]
      show Wq MX8_takeNumber 54 [some (.ref 54), some (.int (nI lo)), some (.int (nI hi)), some (.int v1)] [] Vb r Kb _
      refine x_aload_n (q := 55) dX8_takeNumber_54 rfl rfl ?_
      refine q_gr (K := 0) (b := 55) (q := 58) dX8_takeNumber_55 rfl cl_8 (by decide) tw_365 rfl rfl rfl ?_
      refine q_callV (ci := 6) (N := 9) (T := TX6) (As := []) (rest := []) (q := 61) dX8_takeNumber_58 rfl okX6_advance tw_673 rfl rfl (c_advP h4 hb.1) rfl rfl (Nat.le_of_ble_eq_true rfl) ⟨by decide, by decide⟩ ⟨rfl, rfl⟩ (fun rv_ Vc r_ Kc hv_ => ?_)
      obtain ⟨a1_, hc_, a3_⟩ := hv_
      rw [a1_, a3_]
      show Wq MX8_takeNumber 61 [some (.ref 54), some (.int (nI lo)), some (.int (nI hi)), some (.int v1)] [] Vc r Kc _
      refine x_iload_n (q := 62) dX8_takeNumber_61 rfl rfl ?_
      refine q_iret dX8_takeNumber_62 rfl ?_
      rw [show tnuS T n lo hi s = adv T n (rf 4 (sk T n s.2.2) s) by unfold tnuS; rw [if_neg nb], ev1, ev6]
      exact ⟨rfl, ⟨hc_.1, hb.2.tr hc_.2⟩, rfl⟩
set_option maxRecDepth 100000 in
theorem c_tnu_b {T : Nat → Nat} {n : Nat} {r : MR} (h4 : r 4 = 1) {X : MI} {J : MJ} {s : Nat × Nat × Nat} (h : PS T n s X J) {lo hi : Int32} (hc : ¬ nuC T n s) : Cq yX8_takeNumber MX8_takeNumber [.ref 54, .int lo, .int hi] X r J (RP (some (.int lo)) T n (rfT T n s) X J r) := by
  have q1 := h.2.2.1
  have q2 := h.2.2.2.1
  have q3 := h.2.2.2.2.1
  have q4 := h.2.2.2.2.2.1
  have hL := h.2.2.2.2.2.2
  refine cq_of [some (.ref 54), some (.int lo), some (.int hi), none] 1 (by decide +kernel) rfl rfl (Nat.le_of_ble_eq_true rfl) rfl ?_
  refine x_aload_n (q := 1) dX8_takeNumber_0 rfl rfl ?_
  refine q_gi (K := 2) (q := 4) dX8_takeNumber_1 rfl cl_8 (by decide) tw_367 rfl rfl ?_
  refine x_if_ne (t := 18) (q := 7) dX8_takeNumber_4 (by decide) rfl (fun c4 => ?_) (fun c4 => ?_)
  · refine x_aload_n (q := 19) dX8_takeNumber_18 rfl rfl ?_
    refine q_callV (ci := 8) (N := 5) (T := TX8) (As := []) (rest := []) (q := 22) dX8_takeNumber_19 rfl okX8_refuseToken tw_665 rfl rfl (c_rfT h4 h) rfl rfl (Nat.le_of_ble_eq_true rfl) ⟨by decide, by decide⟩ ⟨rfl, rfl⟩ (fun rv_ Va r_ Ka hv_ => ?_)
    obtain ⟨a1_, ha, a3_⟩ := hv_
    rw [a1_, a3_]
    show Wq MX8_takeNumber 22 [some (.ref 54), some (.int lo), some (.int hi), none] [] Va r Ka _
    refine x_iload_n (q := 23) dX8_takeNumber_22 rfl rfl ?_
    refine q_iret dX8_takeNumber_23 rfl ?_
    exact ⟨rfl, ha, rfl⟩
  · refine x_aload_n (q := 8) dX8_takeNumber_7 rfl rfl ?_
    refine q_gr (K := 0) (b := 55) (q := 11) dX8_takeNumber_8 rfl cl_8 (by decide) tw_365 rfl rfl rfl ?_
    refine q_gi (K := 4) (q := 14) dX8_takeNumber_11 rfl cl_6 (by decide) tw_336 rfl rfl ?_
    refine x_iconst (3) (q := 15) dX8_takeNumber_14 rfl (by decide) ?_
    refine x_icmp_eq (t := 24) (q := 18) dX8_takeNumber_15 (by decide) rfl (fun c15 => ?_) (fun c15 => ?_)
    · exact absurd ⟨f_0 q1 q4 c4, (kd_c 3 hL.2.2.1 (by decide) rfl).mp c15⟩ hc
    · refine x_aload_n (q := 19) dX8_takeNumber_18 rfl rfl ?_
      refine q_callV (ci := 8) (N := 5) (T := TX8) (As := []) (rest := []) (q := 22) dX8_takeNumber_19 rfl okX8_refuseToken tw_665 rfl rfl (c_rfT h4 h) rfl rfl (Nat.le_of_ble_eq_true rfl) ⟨by decide, by decide⟩ ⟨rfl, rfl⟩ (fun rv_ Va r_ Ka hv_ => ?_)
      obtain ⟨a1_, ha, a3_⟩ := hv_
      rw [a1_, a3_]
      show Wq MX8_takeNumber 22 [some (.ref 54), some (.int lo), some (.int hi), none] [] Va r Ka _
      refine x_iload_n (q := 23) dX8_takeNumber_22 rfl rfl ?_
      refine q_iret dX8_takeNumber_23 rfl ?_
      exact ⟨rfl, ha, rfl⟩
