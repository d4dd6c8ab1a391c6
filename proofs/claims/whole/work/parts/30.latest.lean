/-- how many steps to look at, from the class's lastInTime -/
def litN (I : MI) (b hn st y : Nat) (sh : Int32) : Nat := if fwV I b hn st y sh 0 0 = -1 then 72 else (fwV I b hn st y sh 0 0).toNatClampNeg
theorem fwV_val {I : MI} {b hn st y : Nat} {sh much : Int32} {at0 : Nat} (h : ¬ fwV I b hn st y sh much at0 = -1) : ∃ j, 1 ≤ j ∧ j ≤ 72 ∧ fwV I b hn st y sh much at0 = nI j ∧ whB (fwG I b y hn sh st much at0 (yGet I y) j) = true := by
  rcases fstW_cases (fun k => whB (fwG I b y hn sh st much at0 (yGet I y) k)) 72 0 with q | ⟨j, q1, q2, q3, q4⟩
  · exact absurd q h
  · exact ⟨j, q1, by omega, q3, q4⟩
theorem lit_le {I : MI} {b hn st y : Nat} {sh : Int32} : litN I b hn st y sh ≤ 72 := by
  unfold litN
  by_cases h : fwV I b hn st y sh 0 0 = -1
  · rw [if_pos h]
    decide
  · rw [if_neg h]
    obtain ⟨j, h1, h2, h3, h4⟩ := fwV_val h
    rw [h3, nI_clamp (by omega)]
    exact h2
theorem fw_before {I : MI} {b hn y : Nat} {sh : Int32} {st : Nat} {much : Int32} {at0 : Nat} {G : GT} : ∀ k, k ≤ at0 → fwG I b y hn sh st much at0 G k = fwG I b y hn sh st 0 0 G k := by
  intro k
  induction k with
  | zero => intro _; rfl
  | succ k ih =>
    intro hk
    unfold fwG
    rw [ih (by omega), spr_0]
    unfold sprG
    rw [if_neg (by omega)]
theorem dn_skip {p : Nat → Bool} {n0 : Nat} : ∀ n, n0 ≤ n → (∀ s, n0 ≤ s → s < n → p s = false) → dnF p n = dnF p n0 := by
  intro n
  induction n with
  | zero =>
    intro h _
    rw [show n0 = 0 by omega]
  | succ n ih =>
    intro h hp
    by_cases e : n0 = n + 1
    · rw [e]
    · have e2 : dnF p (n + 1) = dnF p n := if_neg (by rw [hp n (by omega) (by omega)]; decide)
      rw [e2]
      exact ih (by omega) (fun s h1 h2 => hp s h1 (by omega))
theorem late_eq {I : MI} {b hn st y : Nat} {sh much : Int32} : dnF (fun s => noW I b hn st y sh much s) 72 = dnF (fun s => noW I b hn st y sh much s) (litN I b hn st y sh) := by
  refine dn_skip 72 lit_le (fun s h1 h2 => ?_)
  unfold litN at h1
  by_cases h : fwV I b hn st y sh 0 0 = -1
  · rw [if_pos h] at h1
    omega
  · rw [if_neg h] at h1
    obtain ⟨j, j1, j2, j3, j4⟩ := fwV_val h
    rw [j3, nI_clamp (by omega)] at h1
    unfold noW
    refine decide_eq_false (fun q => ?_)
    unfold fwV at q
    refine fstW_hit (W := fun k => whB (fwG I b y hn sh st much s (yGet I y) k)) (j := j) ?_ (by omega) 72 0 (by omega) (by omega) q
    show whB (fwG I b y hn sh st much s (yGet I y) j) = true
    rw [fw_before j h1]
    exact j4
theorem nI_n1 (n : Nat) : nI (n + 1) - 1 = nI n := nI_pred n
set_option maxRecDepth 100000 in
theorem c_lit {I : MI} {b yn wn hn sn st : Nat} {r : MR} (J : MJ) (hr : RefOk r b) (h : RelL I b yn wn hn sn st) {y : Nat} (hy : y < yn) {sh : Int32} (hs : (-50 : Int32) ≤ sh ∧ sh ≤ 50) : Cq yX7_lastInTime MX7_lastInTime [.ref 76, .ref 58, .int (nI y), .int sh] I r J (Rs (nI (litN I b hn st y sh) - 1) I 77 r J) := by
  refine cq_of [some (.ref 76), some (.ref 58), some (.int (nI y)), some (.int sh), none] 1 (by decide +kernel) rfl rfl (Nat.le_of_ble_eq_true rfl) rfl ?_
  refine x_aload_n (q := 1) dX7_lastInTime_0 rfl rfl ?_
  refine x_aload_n (q := 2) dX7_lastInTime_1 rfl rfl ?_
  refine x_iload_n (q := 3) dX7_lastInTime_2 rfl rfl ?_
  refine x_iload_n (q := 4) dX7_lastInTime_3 rfl rfl ?_
  refine x_iconst (0) (q := 5) dX7_lastInTime_4 rfl (by decide) ?_
  refine x_iconst (0) (q := 6) dX7_lastInTime_5 rfl (by decide) ?_
  refine q_callV (ci := 7) (N := 1) (T := TX7) (As := [.ref 58, .int (nI y), .int sh, .int 0, .int 0]) (rest := []) (q := 9) dX7_lastInTime_6 rfl okX7_firstWhite tw_881 rfl rfl (k_fw J hr h hy (shOk_iff.mpr hs) (much := 0) (at0 := 0) (by decide) (by decide)) rfl rfl (Nat.le_of_ble_eq_true rfl) ⟨by decide, by decide⟩ ⟨rfl, rfl⟩ (fun rv_ I_ r_ J_ hv_ => ?_)
  obtain ⟨a1_, ⟨Gx, a2_⟩, a3_, a4_⟩ := hv_
  rw [a1_, a2_, a3_, a4_]
  show Wq MX7_lastInTime 9 [some (.ref 76), some (.ref 58), some (.int (nI y)), some (.int sh), none] [.int (fwV I b hn st y sh 0 0)] (gPut I 77 Gx) r J _
  refine x_nmi (fun v1 ev1 => ?_)
  refine x_istore (L2 := [some (.ref 76), some (.ref 58), some (.int (nI y)), some (.int sh), some (.int v1)]) (q := 11) dX7_lastInTime_9 rfl (by decide) rfl rfl ?_
  refine x_iload (q := 13) dX7_lastInTime_11 rfl rfl ?_
  refine x_iconst (-1) (q := 14) dX7_lastInTime_13 rfl (by decide) ?_
  refine x_icmp_ne (t := 22) (q := 17) dX7_lastInTime_14 (by decide) rfl (fun c14 => ?_) (fun c14 => ?_)
  · refine x_iload (q := 24) dX7_lastInTime_22 rfl rfl ?_
    refine x_iconst (1) (q := 25) dX7_lastInTime_24 rfl (by decide) ?_
    refine x_isub (q := 26) dX7_lastInTime_25 rfl ?_
    refine q_iret dX7_lastInTime_26 rfl ?_
    refine ⟨?_, ⟨_, rfl⟩, rfl, rfl⟩
    rw [ev1] at c14 ⊢
    have e : litN I b hn st y sh = (fwV I b hn st y sh 0 0).toNatClampNeg := if_neg c14
    obtain ⟨j, j1, j2, j3, j4⟩ := fwV_val c14
    rw [e, j3, nI_clamp (by omega)]
  · refine x_bipush (72) (q := 19) dX7_lastInTime_17 rfl (by decide) ?_
    refine x_goto (t := 24) dX7_lastInTime_19 (by decide) ?_
    refine x_iconst (1) (q := 25) dX7_lastInTime_24 rfl (by decide) ?_
    refine x_isub (q := 26) dX7_lastInTime_25 rfl ?_
    refine q_iret dX7_lastInTime_26 rfl ?_
    refine ⟨?_, ⟨_, rfl⟩, rfl, rfl⟩
    rw [ev1] at c14
    have e : litN I b hn st y sh = 72 := if_pos c14
    rw [e]
    rfl
theorem ha_ti {a : Int32} (ha : (0 : Int32) ≤ a ∧ a ≤ 99) : 0 ≤ a.toInt ∧ a.toInt ≤ 99 := by
  have h1 := Int32.le_iff_toInt_le.mp ha.1
  have h2 := Int32.le_iff_toInt_le.mp ha.2
  have c : (99 : Int32).toInt = 99 := by decide
  rw [Int32.toInt_zero] at h1
  omega
set_option maxRecDepth 100000 in
theorem l_Xlate {I : MI} {b yn wn hn sn st : Nat} {r : MR} (J : MJ) (hr : RefOk r b) (h : RelL I b yn wn hn sn st) {y : Nat} (hy : y < yn) {sh : Int32} (hs : (-50 : Int32) ≤ sh ∧ sh ≤ 50) {a : Int32} (ha : (0 : Int32) ≤ a ∧ a ≤ 99) : ∀ (n : Nat) (G : GT), n ≤ 72 → Wq MX11_latest 39 [some (.ref 0), some (.int (nI y)), some (.int sh), some (.int a), some (.int (nI n - 1))] [] (gPut I 77 G) r J (Rs (dnF (fun s => noW I b hn st y sh a s) n) I 77 r J) := by
  have hb28 := (refs_L hr).2
  have h8 : yn ≤ 8 := h.1.2.2.1
  intro n
  induction n with
  | zero =>
    intro G hn72
    refine x_iload (q := 41) dX11_latest_39 rfl rfl ?_
    refine x_if_lt (t := 73) (q := 44) dX11_latest_41 (by decide) rfl (fun c41 => ?_) (fun c41 => absurd c41 (by decide))
    refine x_iconst (-1) (q := 74) dX11_latest_73 rfl (by decide) ?_
    refine q_iret dX11_latest_74 rfl ?_
    exact ⟨rfl, ⟨_, rfl⟩, rfl, rfl⟩
  | succ n ih =>
    intro G hn72
    rw [nI_n1]
    refine x_iload (q := 41) dX11_latest_39 rfl rfl ?_
    refine x_if_lt (t := 73) (q := 44) dX11_latest_41 (by decide) rfl (fun c41 => absurd c41 (nI_pos (by omega))) (fun c41 => ?_)
    refine x_aload_n (q := 45) dX11_latest_44 rfl rfl ?_
    refine q_gr (K := 6) (b := 76) (q := 48) dX11_latest_45 rfl cl_11 (by decide) tw_573 rfl rfl rfl ?_
    refine x_aload_n (q := 49) dX11_latest_48 rfl rfl ?_
    refine q_gr (K := 5) (b := 58) (q := 52) dX11_latest_49 rfl cl_11 (by decide) tw_572 rfl rfl rfl ?_
    refine x_iload_n (q := 53) dX11_latest_52 rfl rfl ?_
    refine x_iload_n (q := 54) dX11_latest_53 rfl rfl ?_
    refine x_iload_n (q := 55) dX11_latest_54 rfl rfl ?_
    refine x_iload (q := 57) dX11_latest_55 rfl rfl ?_
    refine q_callV (ci := 7) (N := 1) (T := TX7) (As := [.ref 58, .int (nI y), .int sh, .int a, .int (nI n)]) (rest := []) (q := 60) dX11_latest_57 rfl okX7_firstWhite tw_843 rfl rfl (k_fw J hr (RelL_77 G hb28 h) hy (shOk_iff.mpr hs) (much := a) (at0 := n) (ha_ti ha) (by omega)) rfl rfl (Nat.le_of_ble_eq_true rfl) ⟨by decide, by decide⟩ ⟨rfl, rfl⟩ (fun rv_ I_ r_ J_ hv_ => ?_)
    obtain ⟨a1_, ⟨Gx, a2_⟩, a3_, a4_⟩ := hv_
    rw [fwV_77 hb28 (by omega)] at a1_
    rw [gPut77c] at a2_
    rw [a1_, a2_, a3_, a4_]
    show Wq MX11_latest 60 [some (.ref 0), some (.int (nI y)), some (.int sh), some (.int a), some (.int (nI n))] [.int (fwV I b hn st y sh a n)] (gPut I 77 Gx) r J _
    refine x_iconst (-1) (q := 61) dX11_latest_60 rfl (by decide) ?_
    refine x_icmp_ne (t := 67) (q := 64) dX11_latest_61 (by decide) rfl (fun c61 => ?_) (fun c61 => ?_)
    · obtain ⟨v1, ev1⟩ : ∃ y : Int32, y = (nI n) + (-1) := ⟨_, rfl⟩
      refine x_iinc (v := v1) (L2 := [some (.ref 0), some (.int (nI y)), some (.int sh), some (.int a), some (.int v1)]) (q := 70) dX11_latest_67 rfl (by decide) rfl rfl (by rw [ev1]; rfl) rfl ?_
      refine x_goto (t := 39) dX11_latest_70 (by decide) ?_
      have e : dnF (fun s => noW I b hn st y sh a s) (n + 1) = dnF (fun s => noW I b hn st y sh a s) n := if_neg (fun q => c61 (of_decide_eq_true q))
      rw [e, show v1 = nI n - 1 by rw [ev1, Int32.sub_eq_add_neg]]
      exact ih Gx (by omega)
    · refine x_iload (q := 66) dX11_latest_64 rfl rfl ?_
      refine q_iret dX11_latest_66 rfl ?_
      refine ⟨?_, ⟨_, rfl⟩, rfl, rfl⟩
      have e : dnF (fun s => noW I b hn st y sh a s) (n + 1) = nI n := if_pos (decide_eq_true c61)
      rw [e]
set_option maxRecDepth 100000 in
theorem l_Mlate {I : MI} {b yn wn hn sn st : Nat} {r : MR} (J : MJ) (hr : RefOk r b) (h : RelL I b yn wn hn sn st) {y : Nat} (hy : y < yn) {sh : Int32} (hs : (-50 : Int32) ≤ sh ∧ sh ≤ 50) {a : Int32} (ha : (0 : Int32) ≤ a ∧ a ≤ 99) : ∀ (n : Nat) (G : GT), n ≤ 72 → Wq MX12_latest 31 [some (.ref 100), some (.int (nI y)), some (.int sh), some (.int a), some (.int (nI n - 1))] [] (mPut I G) r J (Rm (dnF (fun s => noW I b hn st y sh a s) n) I r J) := by
  have hb28 := (refs_L hr).2
  have h8 : yn ≤ 8 := h.1.2.2.1
  intro n
  induction n with
  | zero =>
    intro G hn72
    refine x_iload (q := 33) dX12_latest_31 rfl rfl ?_
    refine x_if_lt (t := 57) (q := 36) dX12_latest_33 (by decide) rfl (fun c33 => ?_) (fun c33 => absurd c33 (by decide))
    refine x_iconst (-1) (q := 58) dX12_latest_57 rfl (by decide) ?_
    refine q_iret dX12_latest_58 rfl ?_
    exact ⟨rfl, ⟨_, rfl⟩, rfl, rfl⟩
  | succ n ih =>
    intro G hn72
    rw [nI_n1]
    refine x_iload (q := 33) dX12_latest_31 rfl rfl ?_
    refine x_if_lt (t := 57) (q := 36) dX12_latest_33 (by decide) rfl (fun c33 => absurd c33 (nI_pos (by omega))) (fun c33 => ?_)
    refine x_aload_n (q := 37) dX12_latest_36 rfl rfl ?_
    refine x_iload_n (q := 38) dX12_latest_37 rfl rfl ?_
    refine x_iload_n (q := 39) dX12_latest_38 rfl rfl ?_
    refine x_iload (q := 41) dX12_latest_39 rfl rfl ?_
    refine x_iload_n (q := 42) dX12_latest_41 rfl rfl ?_
    refine q_callV (ci := 12) (N := 79) (T := TX12) (As := [.int (nI y), .int sh, .int (nI n), .int a]) (rest := []) (q := 45) dX12_latest_42 rfl okX12_firstWhite tw_1512 rfl rfl (k_mfw r J (RelL_m G hb28 h) hy (shOk_iff.mpr hs) (much := a) (sat := nI n) (at0 := n) (ha_ti ha) (at_nI (by omega))) rfl rfl (Nat.le_of_ble_eq_true rfl) ⟨by decide, by decide⟩ ⟨rfl, rfl⟩ (fun rv_ I_ r_ J_ hv_ => ?_)
    obtain ⟨a1_, ⟨Gx, a2_⟩, a3_, a4_⟩ := hv_
    rw [fwV_m hb28 (by omega)] at a1_
    rw [mPmm] at a2_
    rw [a1_, a2_, a3_, a4_]
    show Wq MX12_latest 45 [some (.ref 100), some (.int (nI y)), some (.int sh), some (.int a), some (.int (nI n))] [.int (fwV I b hn st y sh a n)] (mPut I Gx) r J _
    refine x_if_ge (t := 51) (q := 48) dX12_latest_45 (by decide) rfl (fun c45 => ?_) (fun c45 => ?_)
    · obtain ⟨v1, ev1⟩ : ∃ y : Int32, y = (nI n) + (-1) := ⟨_, rfl⟩
      refine x_iinc (v := v1) (L2 := [some (.ref 100), some (.int (nI y)), some (.int sh), some (.int a), some (.int v1)]) (q := 54) dX12_latest_51 rfl (by decide) rfl rfl (by rw [ev1]; rfl) rfl ?_
      refine x_goto (t := 31) dX12_latest_54 (by decide) ?_
      have e : dnF (fun s => noW I b hn st y sh a s) (n + 1) = dnF (fun s => noW I b hn st y sh a s) n := if_neg (fun q => absurd (fwV_neg.mpr (of_decide_eq_true q)) (Int32.not_lt.mpr c45))
      rw [e, show v1 = nI n - 1 by rw [ev1, Int32.sub_eq_add_neg]]
      exact ih Gx (by omega)
    · refine x_iload (q := 50) dX12_latest_48 rfl rfl ?_
      refine q_iret dX12_latest_50 rfl ?_
      refine ⟨?_, ⟨_, rfl⟩, rfl, rfl⟩
      have e : dnF (fun s => noW I b hn st y sh a s) (n + 1) = nI n := if_pos (decide_eq_true (fwV_neg.mp (Int32.not_le.mp c45)))
      rw [e]
set_option maxRecDepth 100000 in
theorem c_Xlate_g {I : MI} {b yn wn hn sn st : Nat} {r : MR} (J : MJ) (hr : RefOk r b) (h : RelL I b yn wn hn sn st) {y : Nat} (hy : y < yn) {sh : Int32} (hs : (-50 : Int32) ≤ sh ∧ sh ≤ 50) {a : Int32} (ha : (0 : Int32) ≤ a ∧ a ≤ 99) : Cq yX11_latest MX11_latest [.ref 0, .int (nI y), .int sh, .int a] I r J (Rs (dnF (fun s => noW I b hn st y sh a s) (litN I b hn st y sh)) I 77 r J) := by
  have hb0 : SH (r 0) = (15, 18) := by rw [hr.1]; exact (refs_L hr).1
  have h8 : yn ≤ 8 := h.1.2.2.1
  have ey : I (r 0) 1 = nI yn := by rw [hr.1]; exact h.1.2.1
  have em : I 100 41 = nI yn := h.2.2.1.1
  refine cq_of [some (.ref 0), some (.int (nI y)), some (.int sh), some (.int a), none] 1 (by decide +kernel) rfl rfl (Nat.le_of_ble_eq_true rfl) rfl ?_
  refine x_aload_n (q := 1) dX11_latest_0 rfl rfl ?_
  refine x_iload_n (q := 2) dX11_latest_1 rfl rfl ?_
  refine q_callV (ci := 11) (N := 14) (T := TX11) (As := [.int (nI y)]) (rest := []) (q := 5) dX11_latest_2 rfl okX11_isYard tw_811 rfl rfl (c_isYard_g I r J hb0 ey h8 hy) rfl rfl (Nat.le_of_ble_eq_true rfl) ⟨by decide, by decide⟩ ⟨rfl, rfl⟩ (fun rv_ I_ r_ J_ hv_ => ?_)
  obtain ⟨a1_, a2_, a3_, a4_⟩ := hv_
  rw [a1_, a2_, a3_, a4_]
  show Wq MX11_latest 5 [some (.ref 0), some (.int (nI y)), some (.int sh), some (.int a), none] [.int 1] I r J _
  refine x_if_eq (t := 22) (q := 8) dX11_latest_5 (by decide) rfl (fun c5 => absurd c5 ((by decide))) (fun c5 => ?_)
  refine x_iload_n (q := 9) dX11_latest_8 rfl rfl ?_
  refine q_callS (As := [.int sh]) (rest := []) (q := 12) dX11_latest_9 rfl okX11_isShift tw_803 (c_isShift_g I r J hs.1 hs.2) rfl rfl (Nat.le_of_ble_eq_true rfl) ⟨by decide, by decide⟩ ⟨rfl, rfl⟩ (fun rv_ I_ r_ J_ hv_ => ?_)
  obtain ⟨a1_, a2_, a3_, a4_⟩ := hv_
  rw [a1_, a2_, a3_, a4_]
  show Wq MX11_latest 12 [some (.ref 0), some (.int (nI y)), some (.int sh), some (.int a), none] [.int 1] I r J _
  refine x_if_eq (t := 22) (q := 15) dX11_latest_12 (by decide) rfl (fun c12 => absurd c12 ((by decide))) (fun c12 => ?_)
  refine x_iload_n (q := 16) dX11_latest_15 rfl rfl ?_
  refine q_callS (As := [.int a]) (rest := []) (q := 19) dX11_latest_16 rfl okX11_isSalt tw_874 (c_isSalt_g I r J ha.1 ha.2) rfl rfl (Nat.le_of_ble_eq_true rfl) ⟨by decide, by decide⟩ ⟨rfl, rfl⟩ (fun rv_ I_ r_ J_ hv_ => ?_)
  obtain ⟨a1_, a2_, a3_, a4_⟩ := hv_
  rw [a1_, a2_, a3_, a4_]
  show Wq MX11_latest 19 [some (.ref 0), some (.int (nI y)), some (.int sh), some (.int a), none] [.int 1] I r J _
  refine x_if_ne (t := 24) (q := 22) dX11_latest_19 (by decide) rfl (fun c19 => ?_) (fun c19 => absurd c19 ((by decide)))
  refine x_aload_n (q := 25) dX11_latest_24 rfl rfl ?_
  refine q_gr (K := 6) (b := 76) (q := 28) dX11_latest_25 rfl cl_11 (by decide) tw_573 rfl rfl rfl ?_
  refine x_aload_n (q := 29) dX11_latest_28 rfl rfl ?_
  refine q_gr (K := 5) (b := 58) (q := 32) dX11_latest_29 rfl cl_11 (by decide) tw_572 rfl rfl rfl ?_
  refine x_iload_n (q := 33) dX11_latest_32 rfl rfl ?_
  refine x_iload_n (q := 34) dX11_latest_33 rfl rfl ?_
  refine q_callV (ci := 7) (N := 1) (T := TX7) (As := [.ref 58, .int (nI y), .int sh]) (rest := []) (q := 37) dX11_latest_34 rfl okX7_lastInTime tw_877 rfl rfl (c_lit J hr h hy hs) rfl rfl (Nat.le_of_ble_eq_true rfl) ⟨by decide, by decide⟩ ⟨rfl, rfl⟩ (fun rv_ I_ r_ J_ hv_ => ?_)
  obtain ⟨a1_, ⟨Gx, a2_⟩, a3_, a4_⟩ := hv_
  rw [a1_, a2_, a3_, a4_]
  show Wq MX11_latest 37 [some (.ref 0), some (.int (nI y)), some (.int sh), some (.int a), none] [.int (nI (litN I b hn st y sh) - 1)] (gPut I 77 Gx) r J _
  refine x_istore (L2 := [some (.ref 0), some (.int (nI y)), some (.int sh), some (.int a), some (.int (nI (litN I b hn st y sh) - 1))]) (q := 39) dX11_latest_37 rfl (by decide) rfl rfl ?_
  exact l_Xlate J hr h hy hs ha _ _ lit_le
set_option maxRecDepth 100000 in
theorem c_Xlate_1 {I : MI} {b yn wn hn sn st : Nat} {r : MR} (J : MJ) (hr : RefOk r b) (h : RelL I b yn wn hn sn st) {x sh a : Int32} (hno : ¬ ∃ k, k < yn ∧ x = nI k) : Cq yX11_latest MX11_latest [.ref 0, .int x, .int sh, .int a] I r J (Rs (-1) I 77 r J) := by
  have hb0 : SH (r 0) = (15, 18) := by rw [hr.1]; exact (refs_L hr).1
  have h8 : yn ≤ 8 := h.1.2.2.1
  have ey : I (r 0) 1 = nI yn := by rw [hr.1]; exact h.1.2.1
  have em : I 100 41 = nI yn := h.2.2.1.1
  refine cq_of [some (.ref 0), some (.int x), some (.int sh), some (.int a), none] 1 (by decide +kernel) rfl rfl (Nat.le_of_ble_eq_true rfl) rfl ?_
  refine x_aload_n (q := 1) dX11_latest_0 rfl rfl ?_
  refine x_iload_n (q := 2) dX11_latest_1 rfl rfl ?_
  refine q_callV (ci := 11) (N := 14) (T := TX11) (As := [.int x]) (rest := []) (q := 5) dX11_latest_2 rfl okX11_isYard tw_811 rfl rfl (c_isYard_b I r J hb0 ey h8 hno) rfl rfl (Nat.le_of_ble_eq_true rfl) ⟨by decide, by decide⟩ ⟨rfl, rfl⟩ (fun rv_ I_ r_ J_ hv_ => ?_)
  obtain ⟨a1_, a2_, a3_, a4_⟩ := hv_
  rw [a1_, a2_, a3_, a4_]
  show Wq MX11_latest 5 [some (.ref 0), some (.int x), some (.int sh), some (.int a), none] [.int 0] I r J _
  refine x_if_eq (t := 22) (q := 8) dX11_latest_5 (by decide) rfl (fun c5 => ?_) (fun c5 => absurd c5 ((by decide)))
  refine x_iconst (-1) (q := 23) dX11_latest_22 rfl (by decide) ?_
  refine q_iret dX11_latest_23 rfl ?_
  exact Rs_same
set_option maxRecDepth 100000 in
theorem c_Mlate_1 {I : MI} {b yn wn hn sn st : Nat} {r : MR} (J : MJ) (hr : RefOk r b) (h : RelL I b yn wn hn sn st) {x sh a : Int32} (hno : ¬ ∃ k, k < yn ∧ x = nI k) : Cq yX12_latest MX12_latest [.ref 100, .int x, .int sh, .int a] I r J (Rm (-1) I r J) := by
  have hb0 : SH (r 0) = (15, 18) := by rw [hr.1]; exact (refs_L hr).1
  have h8 : yn ≤ 8 := h.1.2.2.1
  have ey : I (r 0) 1 = nI yn := by rw [hr.1]; exact h.1.2.1
  have em : I 100 41 = nI yn := h.2.2.1.1
  refine cq_of [some (.ref 100), some (.int x), some (.int sh), some (.int a), none] 1 (by decide +kernel) rfl rfl (Nat.le_of_ble_eq_true rfl) rfl ?_
  refine x_aload_n (q := 1) dX12_latest_0 rfl rfl ?_
  refine x_iload_n (q := 2) dX12_latest_1 rfl rfl ?_
  refine q_callV (ci := 12) (N := 79) (T := TX12) (As := [.int x]) (rest := []) (q := 5) dX12_latest_2 rfl okX12_isYard tw_1485 rfl rfl (c_mYard_b I r J em h8 hno) rfl rfl (Nat.le_of_ble_eq_true rfl) ⟨by decide, by decide⟩ ⟨rfl, rfl⟩ (fun rv_ I_ r_ J_ hv_ => ?_)
  obtain ⟨a1_, a2_, a3_, a4_⟩ := hv_
  rw [a1_, a2_, a3_, a4_]
  show Wq MX12_latest 5 [some (.ref 100), some (.int x), some (.int sh), some (.int a), none] [.int 0] I r J _
  refine x_if_eq (t := 25) (q := 8) dX12_latest_5 (by decide) rfl (fun c5 => ?_) (fun c5 => absurd c5 ((by decide)))
  refine x_iconst (-1) (q := 26) dX12_latest_25 rfl (by decide) ?_
  refine q_iret dX12_latest_26 rfl ?_
  exact Rm_same
set_option maxRecDepth 100000 in
theorem c_Xlate_2 {I : MI} {b yn wn hn sn st : Nat} {r : MR} (J : MJ) (hr : RefOk r b) (h : RelL I b yn wn hn sn st) {y : Nat} (hy : y < yn) {sh a : Int32} (hno : ¬ ((-50 : Int32) ≤ sh ∧ sh ≤ 50)) : Cq yX11_latest MX11_latest [.ref 0, .int (nI y), .int sh, .int a] I r J (Rs (-1) I 77 r J) := by
  have hb0 : SH (r 0) = (15, 18) := by rw [hr.1]; exact (refs_L hr).1
  have h8 : yn ≤ 8 := h.1.2.2.1
  have ey : I (r 0) 1 = nI yn := by rw [hr.1]; exact h.1.2.1
  have em : I 100 41 = nI yn := h.2.2.1.1
  refine cq_of [some (.ref 0), some (.int (nI y)), some (.int sh), some (.int a), none] 1 (by decide +kernel) rfl rfl (Nat.le_of_ble_eq_true rfl) rfl ?_
  refine x_aload_n (q := 1) dX11_latest_0 rfl rfl ?_
  refine x_iload_n (q := 2) dX11_latest_1 rfl rfl ?_
  refine q_callV (ci := 11) (N := 14) (T := TX11) (As := [.int (nI y)]) (rest := []) (q := 5) dX11_latest_2 rfl okX11_isYard tw_811 rfl rfl (c_isYard_g I r J hb0 ey h8 hy) rfl rfl (Nat.le_of_ble_eq_true rfl) ⟨by decide, by decide⟩ ⟨rfl, rfl⟩ (fun rv_ I_ r_ J_ hv_ => ?_)
  obtain ⟨a1_, a2_, a3_, a4_⟩ := hv_
  rw [a1_, a2_, a3_, a4_]
  show Wq MX11_latest 5 [some (.ref 0), some (.int (nI y)), some (.int sh), some (.int a), none] [.int 1] I r J _
  refine x_if_eq (t := 22) (q := 8) dX11_latest_5 (by decide) rfl (fun c5 => absurd c5 ((by decide))) (fun c5 => ?_)
  refine x_iload_n (q := 9) dX11_latest_8 rfl rfl ?_
  refine q_callS (As := [.int sh]) (rest := []) (q := 12) dX11_latest_9 rfl okX11_isShift tw_803 (c_isShift_b I r J hno) rfl rfl (Nat.le_of_ble_eq_true rfl) ⟨by decide, by decide⟩ ⟨rfl, rfl⟩ (fun rv_ I_ r_ J_ hv_ => ?_)
  obtain ⟨a1_, a2_, a3_, a4_⟩ := hv_
  rw [a1_, a2_, a3_, a4_]
  show Wq MX11_latest 12 [some (.ref 0), some (.int (nI y)), some (.int sh), some (.int a), none] [.int 0] I r J _
  refine x_if_eq (t := 22) (q := 15) dX11_latest_12 (by decide) rfl (fun c12 => ?_) (fun c12 => absurd c12 ((by decide)))
  refine x_iconst (-1) (q := 23) dX11_latest_22 rfl (by decide) ?_
  refine q_iret dX11_latest_23 rfl ?_
  exact Rs_same
set_option maxRecDepth 100000 in
theorem c_Mlate_2 {I : MI} {b yn wn hn sn st : Nat} {r : MR} (J : MJ) (hr : RefOk r b) (h : RelL I b yn wn hn sn st) {y : Nat} (hy : y < yn) {sh a : Int32} (hno : ¬ ((-50 : Int32) ≤ sh ∧ sh ≤ 50)) : Cq yX12_latest MX12_latest [.ref 100, .int (nI y), .int sh, .int a] I r J (Rm (-1) I r J) := by
  have hb0 : SH (r 0) = (15, 18) := by rw [hr.1]; exact (refs_L hr).1
  have h8 : yn ≤ 8 := h.1.2.2.1
  have ey : I (r 0) 1 = nI yn := by rw [hr.1]; exact h.1.2.1
  have em : I 100 41 = nI yn := h.2.2.1.1
  refine cq_of [some (.ref 100), some (.int (nI y)), some (.int sh), some (.int a), none] 1 (by decide +kernel) rfl rfl (Nat.le_of_ble_eq_true rfl) rfl ?_
  refine x_aload_n (q := 1) dX12_latest_0 rfl rfl ?_
  refine x_iload_n (q := 2) dX12_latest_1 rfl rfl ?_
  refine q_callV (ci := 12) (N := 79) (T := TX12) (As := [.int (nI y)]) (rest := []) (q := 5) dX12_latest_2 rfl okX12_isYard tw_1485 rfl rfl (c_mYard_g I r J em h8 hy) rfl rfl (Nat.le_of_ble_eq_true rfl) ⟨by decide, by decide⟩ ⟨rfl, rfl⟩ (fun rv_ I_ r_ J_ hv_ => ?_)
  obtain ⟨a1_, a2_, a3_, a4_⟩ := hv_
  rw [a1_, a2_, a3_, a4_]
  show Wq MX12_latest 5 [some (.ref 100), some (.int (nI y)), some (.int sh), some (.int a), none] [.int 1] I r J _
  refine x_if_eq (t := 25) (q := 8) dX12_latest_5 (by decide) rfl (fun c5 => absurd c5 ((by decide))) (fun c5 => ?_)
  refine x_iload_n (q := 9) dX12_latest_8 rfl rfl ?_
  refine q_callS (As := [.int sh]) (rest := []) (q := 12) dX12_latest_9 rfl okX12_isShift tw_1509 (c_mShift_b I r J hno) rfl rfl (Nat.le_of_ble_eq_true rfl) ⟨by decide, by decide⟩ ⟨rfl, rfl⟩ (fun rv_ I_ r_ J_ hv_ => ?_)
  obtain ⟨a1_, a2_, a3_, a4_⟩ := hv_
  rw [a1_, a2_, a3_, a4_]
  show Wq MX12_latest 12 [some (.ref 100), some (.int (nI y)), some (.int sh), some (.int a), none] [.int 0] I r J _
  refine x_if_eq (t := 25) (q := 15) dX12_latest_12 (by decide) rfl (fun c12 => ?_) (fun c12 => absurd c12 ((by decide)))
  refine x_iconst (-1) (q := 26) dX12_latest_25 rfl (by decide) ?_
  refine q_iret dX12_latest_26 rfl ?_
  exact Rm_same
set_option maxRecDepth 100000 in
theorem c_Xlate_3 {I : MI} {b yn wn hn sn st : Nat} {r : MR} (J : MJ) (hr : RefOk r b) (h : RelL I b yn wn hn sn st) {y : Nat} (hy : y < yn) {sh : Int32} (hs : (-50 : Int32) ≤ sh ∧ sh ≤ 50) {a : Int32} (hno : ¬ ((0 : Int32) ≤ a ∧ a ≤ 99)) : Cq yX11_latest MX11_latest [.ref 0, .int (nI y), .int sh, .int a] I r J (Rs (-1) I 77 r J) := by
  have hb0 : SH (r 0) = (15, 18) := by rw [hr.1]; exact (refs_L hr).1
  have h8 : yn ≤ 8 := h.1.2.2.1
  have ey : I (r 0) 1 = nI yn := by rw [hr.1]; exact h.1.2.1
  have em : I 100 41 = nI yn := h.2.2.1.1
  refine cq_of [some (.ref 0), some (.int (nI y)), some (.int sh), some (.int a), none] 1 (by decide +kernel) rfl rfl (Nat.le_of_ble_eq_true rfl) rfl ?_
  refine x_aload_n (q := 1) dX11_latest_0 rfl rfl ?_
  refine x_iload_n (q := 2) dX11_latest_1 rfl rfl ?_
  refine q_callV (ci := 11) (N := 14) (T := TX11) (As := [.int (nI y)]) (rest := []) (q := 5) dX11_latest_2 rfl okX11_isYard tw_811 rfl rfl (c_isYard_g I r J hb0 ey h8 hy) rfl rfl (Nat.le_of_ble_eq_true rfl) ⟨by decide, by decide⟩ ⟨rfl, rfl⟩ (fun rv_ I_ r_ J_ hv_ => ?_)
  obtain ⟨a1_, a2_, a3_, a4_⟩ := hv_
  rw [a1_, a2_, a3_, a4_]
  show Wq MX11_latest 5 [some (.ref 0), some (.int (nI y)), some (.int sh), some (.int a), none] [.int 1] I r J _
  refine x_if_eq (t := 22) (q := 8) dX11_latest_5 (by decide) rfl (fun c5 => absurd c5 ((by decide))) (fun c5 => ?_)
  refine x_iload_n (q := 9) dX11_latest_8 rfl rfl ?_
  refine q_callS (As := [.int sh]) (rest := []) (q := 12) dX11_latest_9 rfl okX11_isShift tw_803 (c_isShift_g I r J hs.1 hs.2) rfl rfl (Nat.le_of_ble_eq_true rfl) ⟨by decide, by decide⟩ ⟨rfl, rfl⟩ (fun rv_ I_ r_ J_ hv_ => ?_)
  obtain ⟨a1_, a2_, a3_, a4_⟩ := hv_
  rw [a1_, a2_, a3_, a4_]
  show Wq MX11_latest 12 [some (.ref 0), some (.int (nI y)), some (.int sh), some (.int a), none] [.int 1] I r J _
  refine x_if_eq (t := 22) (q := 15) dX11_latest_12 (by decide) rfl (fun c12 => absurd c12 ((by decide))) (fun c12 => ?_)
  refine x_iload_n (q := 16) dX11_latest_15 rfl rfl ?_
  refine q_callS (As := [.int a]) (rest := []) (q := 19) dX11_latest_16 rfl okX11_isSalt tw_874 (c_isSalt_b I r J hno) rfl rfl (Nat.le_of_ble_eq_true rfl) ⟨by decide, by decide⟩ ⟨rfl, rfl⟩ (fun rv_ I_ r_ J_ hv_ => ?_)
  obtain ⟨a1_, a2_, a3_, a4_⟩ := hv_
  rw [a1_, a2_, a3_, a4_]
  show Wq MX11_latest 19 [some (.ref 0), some (.int (nI y)), some (.int sh), some (.int a), none] [.int 0] I r J _
  refine x_if_ne (t := 24) (q := 22) dX11_latest_19 (by decide) rfl (fun c19 => absurd c19 ((by decide))) (fun c19 => ?_)
  refine x_iconst (-1) (q := 23) dX11_latest_22 rfl (by decide) ?_
  refine q_iret dX11_latest_23 rfl ?_
  exact Rs_same
set_option maxRecDepth 100000 in
theorem c_Mlate_3 {I : MI} {b yn wn hn sn st : Nat} {r : MR} (J : MJ) (hr : RefOk r b) (h : RelL I b yn wn hn sn st) {y : Nat} (hy : y < yn) {sh : Int32} (hs : (-50 : Int32) ≤ sh ∧ sh ≤ 50) {a : Int32} (hno : ¬ ((0 : Int32) ≤ a ∧ a ≤ 99)) : Cq yX12_latest MX12_latest [.ref 100, .int (nI y), .int sh, .int a] I r J (Rm (-1) I r J) := by
  have hb0 : SH (r 0) = (15, 18) := by rw [hr.1]; exact (refs_L hr).1
  have h8 : yn ≤ 8 := h.1.2.2.1
  have ey : I (r 0) 1 = nI yn := by rw [hr.1]; exact h.1.2.1
  have em : I 100 41 = nI yn := h.2.2.1.1
  refine cq_of [some (.ref 100), some (.int (nI y)), some (.int sh), some (.int a), none] 1 (by decide +kernel) rfl rfl (Nat.le_of_ble_eq_true rfl) rfl ?_
  refine x_aload_n (q := 1) dX12_latest_0 rfl rfl ?_
  refine x_iload_n (q := 2) dX12_latest_1 rfl rfl ?_
  refine q_callV (ci := 12) (N := 79) (T := TX12) (As := [.int (nI y)]) (rest := []) (q := 5) dX12_latest_2 rfl okX12_isYard tw_1485 rfl rfl (c_mYard_g I r J em h8 hy) rfl rfl (Nat.le_of_ble_eq_true rfl) ⟨by decide, by decide⟩ ⟨rfl, rfl⟩ (fun rv_ I_ r_ J_ hv_ => ?_)
  obtain ⟨a1_, a2_, a3_, a4_⟩ := hv_
  rw [a1_, a2_, a3_, a4_]
  show Wq MX12_latest 5 [some (.ref 100), some (.int (nI y)), some (.int sh), some (.int a), none] [.int 1] I r J _
  refine x_if_eq (t := 25) (q := 8) dX12_latest_5 (by decide) rfl (fun c5 => absurd c5 ((by decide))) (fun c5 => ?_)
  refine x_iload_n (q := 9) dX12_latest_8 rfl rfl ?_
  refine q_callS (As := [.int sh]) (rest := []) (q := 12) dX12_latest_9 rfl okX12_isShift tw_1509 (c_mShift_g I r J hs.1 hs.2) rfl rfl (Nat.le_of_ble_eq_true rfl) ⟨by decide, by decide⟩ ⟨rfl, rfl⟩ (fun rv_ I_ r_ J_ hv_ => ?_)
  obtain ⟨a1_, a2_, a3_, a4_⟩ := hv_
  rw [a1_, a2_, a3_, a4_]
  show Wq MX12_latest 12 [some (.ref 100), some (.int (nI y)), some (.int sh), some (.int a), none] [.int 1] I r J _
  refine x_if_eq (t := 25) (q := 15) dX12_latest_12 (by decide) rfl (fun c12 => absurd c12 ((by decide))) (fun c12 => ?_)
  refine x_iload_n (q := 16) dX12_latest_15 rfl rfl ?_
  refine x_iconst (0) (q := 17) dX12_latest_16 rfl (by decide) ?_
  refine x_bipush (99) (q := 19) dX12_latest_17 rfl (by decide) ?_
  refine q_callS (As := [.int a, .int 0, .int 99]) (rest := []) (q := 22) dX12_latest_19 rfl okX12_isIn tw_1450 (c_isIn_b I r J hno) rfl rfl (Nat.le_of_ble_eq_true rfl) ⟨by decide, by decide⟩ ⟨rfl, rfl⟩ (fun rv_ I_ r_ J_ hv_ => ?_)
  obtain ⟨a1_, a2_, a3_, a4_⟩ := hv_
  rw [a1_, a2_, a3_, a4_]
  show Wq MX12_latest 22 [some (.ref 100), some (.int (nI y)), some (.int sh), some (.int a), none] [.int 0] I r J _
  refine x_if_ne (t := 27) (q := 25) dX12_latest_22 (by decide) rfl (fun c22 => absurd c22 ((by decide))) (fun c22 => ?_)
  refine x_iconst (-1) (q := 26) dX12_latest_25 rfl (by decide) ?_
  refine q_iret dX12_latest_26 rfl ?_
  exact Rm_same
set_option maxRecDepth 100000 in
theorem c_Mlate_g {I : MI} {b yn wn hn sn st : Nat} {r : MR} (J : MJ) (hr : RefOk r b) (h : RelL I b yn wn hn sn st) {y : Nat} (hy : y < yn) {sh : Int32} (hs : (-50 : Int32) ≤ sh ∧ sh ≤ 50) {a : Int32} (ha : (0 : Int32) ≤ a ∧ a ≤ 99) : Cq yX12_latest MX12_latest [.ref 100, .int (nI y), .int sh, .int a] I r J (Rm (dnF (fun s => noW I b hn st y sh a s) 72) I r J) := by
  have hb0 : SH (r 0) = (15, 18) := by rw [hr.1]; exact (refs_L hr).1
  have h8 : yn ≤ 8 := h.1.2.2.1
  have ey : I (r 0) 1 = nI yn := by rw [hr.1]; exact h.1.2.1
  have em : I 100 41 = nI yn := h.2.2.1.1
  refine cq_of [some (.ref 100), some (.int (nI y)), some (.int sh), some (.int a), none] 1 (by decide +kernel) rfl rfl (Nat.le_of_ble_eq_true rfl) rfl ?_
  refine x_aload_n (q := 1) dX12_latest_0 rfl rfl ?_
  refine x_iload_n (q := 2) dX12_latest_1 rfl rfl ?_
  refine q_callV (ci := 12) (N := 79) (T := TX12) (As := [.int (nI y)]) (rest := []) (q := 5) dX12_latest_2 rfl okX12_isYard tw_1485 rfl rfl (c_mYard_g I r J em h8 hy) rfl rfl (Nat.le_of_ble_eq_true rfl) ⟨by decide, by decide⟩ ⟨rfl, rfl⟩ (fun rv_ I_ r_ J_ hv_ => ?_)
  obtain ⟨a1_, a2_, a3_, a4_⟩ := hv_
  rw [a1_, a2_, a3_, a4_]
  show Wq MX12_latest 5 [some (.ref 100), some (.int (nI y)), some (.int sh), some (.int a), none] [.int 1] I r J _
  refine x_if_eq (t := 25) (q := 8) dX12_latest_5 (by decide) rfl (fun c5 => absurd c5 ((by decide))) (fun c5 => ?_)
  refine x_iload_n (q := 9) dX12_latest_8 rfl rfl ?_
  refine q_callS (As := [.int sh]) (rest := []) (q := 12) dX12_latest_9 rfl okX12_isShift tw_1509 (c_mShift_g I r J hs.1 hs.2) rfl rfl (Nat.le_of_ble_eq_true rfl) ⟨by decide, by decide⟩ ⟨rfl, rfl⟩ (fun rv_ I_ r_ J_ hv_ => ?_)
  obtain ⟨a1_, a2_, a3_, a4_⟩ := hv_
  rw [a1_, a2_, a3_, a4_]
  show Wq MX12_latest 12 [some (.ref 100), some (.int (nI y)), some (.int sh), some (.int a), none] [.int 1] I r J _
  refine x_if_eq (t := 25) (q := 15) dX12_latest_12 (by decide) rfl (fun c12 => absurd c12 ((by decide))) (fun c12 => ?_)
  refine x_iload_n (q := 16) dX12_latest_15 rfl rfl ?_
  refine x_iconst (0) (q := 17) dX12_latest_16 rfl (by decide) ?_
  refine x_bipush (99) (q := 19) dX12_latest_17 rfl (by decide) ?_
  refine q_callS (As := [.int a, .int 0, .int 99]) (rest := []) (q := 22) dX12_latest_19 rfl okX12_isIn tw_1450 (c_isIn_g I r J ha.1 ha.2) rfl rfl (Nat.le_of_ble_eq_true rfl) ⟨by decide, by decide⟩ ⟨rfl, rfl⟩ (fun rv_ I_ r_ J_ hv_ => ?_)
  obtain ⟨a1_, a2_, a3_, a4_⟩ := hv_
  rw [a1_, a2_, a3_, a4_]
  show Wq MX12_latest 22 [some (.ref 100), some (.int (nI y)), some (.int sh), some (.int a), none] [.int 1] I r J _
  refine x_if_ne (t := 27) (q := 25) dX12_latest_22 (by decide) rfl (fun c22 => ?_) (fun c22 => absurd c22 ((by decide)))
  refine x_bipush (71) (q := 29) dX12_latest_27 rfl (by decide) ?_
  refine x_istore (L2 := [some (.ref 100), some (.int (nI y)), some (.int sh), some (.int a), some (.int 71)]) (q := 31) dX12_latest_29 rfl (by decide) rfl rfl ?_
  have k9 := l_Mlate J hr h hy hs ha 72 (mGet I) (by decide)
  rw [mPut_get] at k9
  exact k9
theorem op_latest (x sh a : Int32) : OpOk yX11_latest MX11_latest yX12_latest MX12_latest [.int x, .int sh, .int a] := by
  intro I r J hrel
  obtain ⟨b, yn, wn, hn, sn, st, hr, hl, hR, hJ⟩ := hrel
  have hb := (refs_L hr).2
  have h8 : yn ≤ 8 := hl.1.2.2.1
  by_cases h1 : ∃ k, k < yn ∧ x = nI k
  · obtain ⟨y, hy, rfl⟩ := h1
    by_cases h2 : (-50 : Int32) ≤ sh ∧ sh ≤ 50
    · by_cases h3 : (0 : Int32) ≤ a ∧ a ≤ 99
      · exact op_ask hr hl hR hJ (c_Xlate_g J hr hl hy h2 h3) (fun G g1 g2 => by
          have k := c_Mlate_g J hr g1 hy h2 h3
          have e : (fun s => noW (gPut I 77 G) b hn st y sh a s) = (fun s => noW I b hn st y sh a s) := by
            funext k
            unfold noW
            rw [fwV_77 hb (by omega)]
          rw [e, late_eq] at k
          exact k)
      · exact op_ask hr hl hR hJ (c_Xlate_3 J hr hl hy h2 h3) (fun G g1 g2 => c_Mlate_3 J hr g1 hy h2 h3)
    · exact op_ask hr hl hR hJ (c_Xlate_2 J hr hl hy h2) (fun G g1 g2 => c_Mlate_2 J hr g1 hy h2)
  · exact op_ask hr hl hR hJ (c_Xlate_1 J hr hl h1) (fun G g1 g2 => c_Mlate_1 J hr g1 h1)
