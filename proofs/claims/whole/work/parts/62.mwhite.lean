set_option maxRecDepth 100000 in
theorem l_mof {n d : Nat} {D o : Nat → Nat} {X : MI} (hD : dc 128 D X) (ho : oc 129 n o X) (hn : n ≤ 7) (hd : d < 8) (hdp : X 100 47 = nI d) (r : MR) (J : MJ) {q : Nat} (hq : q ≤ n) : ∀ (f : Nat) (i : Nat) (_ : i + f = q), Wq MX12_minutesOf 10 [some (.ref 100), some (.int (nI q)), some (.int (nI (msN D d o i))), some (.int (nI (if i = 0 then d else o (i - 1)))), some (.int (nI i))] [] X r J (Rt (some (.int (nI (msN D d o q)))) X r J) := by
  intro f
  induction f with
  | zero =>
    intro i hik
    refine x_iload (q := 12) dX12_minutesOf_10 rfl rfl ?_
    refine x_iload_n (q := 13) dX12_minutesOf_12 rfl rfl ?_
    refine x_icmp_ge (t := 50) (q := 16) dX12_minutesOf_13 (by decide) rfl (fun c13 => ?_) (fun c13 => absurd c13 (fun q => q (nI_le (by omega) (by omega))))
    refine x_iload_n (q := 51) dX12_minutesOf_50 rfl rfl ?_
    refine q_iret dX12_minutesOf_51 rfl ?_
    rw [show i = q by omega]
    exact ⟨rfl, rfl, rfl, rfl⟩
  | succ f ih =>
    intro i hik
    have hoi := (ho i (by omega)).1
    have eo : X 129 (nI i).toNatClampNeg = nI (o i) := by rw [nI_clamp (by omega)]; exact (ho i (by omega)).2
    have hfr : (if i = 0 then d else o (i - 1)) < 8 := by
      by_cases z : i = 0
      · rw [if_pos z]; exact hd
      · rw [if_neg z]; exact (ho (i - 1) (by omega)).1
    refine x_iload (q := 12) dX12_minutesOf_10 rfl rfl ?_
    refine x_iload_n (q := 13) dX12_minutesOf_12 rfl rfl ?_
    refine x_icmp_ge (t := 50) (q := 16) dX12_minutesOf_13 (by decide) rfl (fun c13 => absurd c13 (nI_ge (by omega) (by omega))) (fun c13 => ?_)
    refine x_iload_n (q := 17) dX12_minutesOf_16 rfl rfl ?_
    refine x_aload_n (q := 18) dX12_minutesOf_17 rfl rfl ?_
    refine q_gr (K := 58) (b := 128) (q := 21) dX12_minutesOf_18 rfl cl_12 (by decide) tw_1140 rfl rfl rfl ?_
    refine x_bipush (8) (q := 23) dX12_minutesOf_21 rfl (by decide) ?_
    refine x_iload_n (q := 24) dX12_minutesOf_23 rfl rfl ?_
    refine x_imul (q := 25) dX12_minutesOf_24 rfl ?_
    refine x_aload_n (q := 26) dX12_minutesOf_25 rfl rfl ?_
    refine q_gr (K := 59) (b := 129) (q := 29) dX12_minutesOf_26 rfl cl_12 (by decide) tw_1141 rfl rfl rfl ?_
    refine x_iload (q := 31) dX12_minutesOf_29 rfl rfl ?_
    refine q_iald (q := 32) dX12_minutesOf_31 rfl rfl (vp_in_nI (by omega) (by decide)) ?_
    refine x_iadd (q := 33) dX12_minutesOf_32 rfl ?_
    refine q_iald (q := 34) dX12_minutesOf_33 rfl rfl (by rw [eo, ix2]; exact vp_in_nI (by omega) (by decide)) ?_
    refine x_iadd (q := 35) dX12_minutesOf_34 rfl ?_
    refine x_nmi (fun v1 ev1 => ?_)
    refine x_istore_n (L2 := [some (.ref 100), some (.int (nI q)), some (.int v1), some (.int (nI (if i = 0 then d else o (i - 1)))), some (.int (nI i))]) (q := 36) dX12_minutesOf_35 rfl (by decide) rfl rfl ?_
    refine x_aload_n (q := 37) dX12_minutesOf_36 rfl rfl ?_
    refine q_gr (K := 59) (b := 129) (q := 40) dX12_minutesOf_37 rfl cl_12 (by decide) tw_1141 rfl rfl rfl ?_
    refine x_iload (q := 42) dX12_minutesOf_40 rfl rfl ?_
    refine q_iald (q := 43) dX12_minutesOf_42 rfl rfl (vp_in_nI (by omega) (by decide)) ?_
    refine x_nmi (fun v2 ev2 => ?_)
    refine x_istore_n (L2 := [some (.ref 100), some (.int (nI q)), some (.int v1), some (.int v2), some (.int (nI i))]) (q := 44) dX12_minutesOf_43 rfl (by decide) rfl rfl ?_
    obtain ⟨v3, ev3⟩ : ∃ y_ : Int32, y_ = (nI i) + 1 := ⟨_, rfl⟩
    refine x_iinc (v := v3) (L2 := [some (.ref 100), some (.int (nI q)), some (.int v1), some (.int v2), some (.int v3)]) (q := 47) dX12_minutesOf_44 rfl (by decide) rfl rfl (by rw [ev3]; rfl) rfl ?_
    refine x_goto (t := 10) dX12_minutesOf_47 (by decide) ?_
    rw [eo, ix2, nI_clamp (by omega), hD _ (by omega), nI_add] at ev1
    rw [eo] at ev2
    rw [ev1, show v3 = nI (i + 1) by rw [ev3, nI_p1], show v2 = nI (if i + 1 = 0 then d else o (i + 1 - 1)) by rw [ev2, if_neg (by omega), show i + 1 - 1 = i by omega]]
    exact ih (i + 1) (by omega)
set_option maxRecDepth 100000 in
theorem c_mof {n d : Nat} {D o : Nat → Nat} {X : MI} (hD : dc 128 D X) (ho : oc 129 n o X) (hn : n ≤ 7) (hd : d < 8) (hdp : X 100 47 = nI d) (r : MR) (J : MJ) {q : Nat} (hq : q ≤ n) : Cq yX12_minutesOf MX12_minutesOf [.ref 100, .int (nI q)] X r J (Rt (some (.int (nI (msN D d o q)))) X r J) := by
  refine cq_of [some (.ref 100), some (.int (nI q)), none, none, none] 3 (by decide +kernel) rfl rfl (Nat.le_of_ble_eq_true rfl) rfl ?_
  refine x_iconst (0) (q := 1) dX12_minutesOf_0 rfl (by decide) ?_
  refine x_istore_n (L2 := [some (.ref 100), some (.int (nI q)), some (.int 0), none, none]) (q := 2) dX12_minutesOf_1 rfl (by decide) rfl rfl ?_
  refine x_aload_n (q := 3) dX12_minutesOf_2 rfl rfl ?_
  refine q_gi (K := 47) (q := 6) dX12_minutesOf_3 rfl cl_12 (by decide) tw_1129 rfl rfl ?_
  refine x_nmi (fun v1 ev1 => ?_)
  refine x_istore_n (L2 := [some (.ref 100), some (.int (nI q)), some (.int 0), some (.int v1), none]) (q := 7) dX12_minutesOf_6 rfl (by decide) rfl rfl ?_
  refine x_iconst (0) (q := 8) dX12_minutesOf_7 rfl (by decide) ?_
  refine x_istore (L2 := [some (.ref 100), some (.int (nI q)), some (.int 0), some (.int v1), some (.int 0)]) (q := 10) dX12_minutesOf_8 rfl (by decide) rfl rfl ?_
  rw [show v1 = nI (if 0 = 0 then d else o (0 - 1)) by rw [ev1, if_pos rfl]; exact hdp]
  exact l_mof hD ho hn hd hdp r J hq q 0 (by omega)
def whM (yn N : Nat) (W : Nat → Nat → Bool) (X : MI) : Prop := ∀ y s, y < yn → N.testBit y = true → s < 72 → X 131 (72 * y + s) = if W y s then 1 else 0
theorem i72' (a c : Nat) : (72 : Int32) * nI a + nI c = nI (72 * a + c) := by
  rw [show (72 : Int32) = nI 72 from rfl, pk_mul, nI_add]
theorem les71 {m : Nat} (h : m < 2 ^ 31) : lesF (nI m / 10) 71 = nI (min 71 (m / 10)) := st71 h
set_option maxRecDepth 100000 in
theorem l_who {yn n d N : Nat} {D o : Nat → Nat} {W : Nat → Nat → Bool} {X : MI} (hD : dc 128 D X) (hDl : dl D) (ho : oc 129 n o X) (hn : n ≤ 7) (h8 : yn ≤ 8) (hd : d < 8) (hdp : X 100 47 = nI d) (hoy : ∀ k, k < n → o k < yn ∧ N.testBit (o k) = true) (hw : whM yn N W X) (r : MR) (J : MJ) : ∀ (f : Nat) (i : Nat) (_ : i + f = n), Wq MX12_whitesOf 4 [some (.ref 100), some (.int (nI n)), some (.int (nI (wsN D d o W i))), some (.int (nI i))] [] X r J (Rt (some (.int (nI (wsN D d o W n)))) X r J) := by
  intro f
  induction f with
  | zero =>
    intro i hik
    refine x_iload_n (q := 5) dX12_whitesOf_4 rfl rfl ?_
    refine x_iload_n (q := 6) dX12_whitesOf_5 rfl rfl ?_
    refine x_icmp_ge (t := 56) (q := 9) dX12_whitesOf_6 (by decide) rfl (fun c6 => ?_) (fun c6 => absurd c6 (fun q => q (nI_le (by omega) (by omega))))
    refine x_iload_n (q := 57) dX12_whitesOf_56 rfl rfl ?_
    refine q_iret dX12_whitesOf_57 rfl ?_
    rw [show i = n by omega]
    exact ⟨rfl, rfl, rfl, rfl⟩
  | succ f ih =>
    intro i hik
    have hoi := (hoy i (by omega)).1
    have eo : X 129 (nI i).toNatClampNeg = nI (o i) := by rw [nI_clamp (by omega)]; exact (ho i (by omega)).2
    have hms : msN D d o i + mtN D d o i ≤ 1000000 * (i + 1) := msN_le hDl hd (fun k hk => (ho k hk).1) (i + 1) (by omega)
    have ix : (72 : Int32) * X 129 (nI i).toNatClampNeg + lesF (nI (msN D d o (i + 1)) / 10) 71 = nI (72 * o i + min 71 ((msN D d o i + mtN D d o i) / 10)) := by
      rw [eo, show msN D d o (i + 1) = msN D d o i + mtN D d o i from rfl, les71 (by omega), i72']
    have ev : X 131 (72 * o i + min 71 ((msN D d o i + mtN D d o i) / 10)) = if W (o i) (min 71 ((msN D d o i + mtN D d o i) / 10)) then 1 else 0 := hw _ _ hoi (hoy i (by omega)).2 (by omega)
    refine x_iload_n (q := 5) dX12_whitesOf_4 rfl rfl ?_
    refine x_iload_n (q := 6) dX12_whitesOf_5 rfl rfl ?_
    refine x_icmp_ge (t := 56) (q := 9) dX12_whitesOf_6 (by decide) rfl (fun c6 => absurd c6 (nI_ge (by omega) (by omega))) (fun c6 => ?_)
    refine x_iload_n (q := 10) dX12_whitesOf_9 rfl rfl ?_
    refine x_aload_n (q := 11) dX12_whitesOf_10 rfl rfl ?_
    refine q_gr (K := 62) (b := 131) (q := 14) dX12_whitesOf_11 rfl cl_12 (by decide) tw_1144 rfl rfl rfl ?_
    refine x_bipush (72) (q := 16) dX12_whitesOf_14 rfl (by decide) ?_
    refine x_aload_n (q := 17) dX12_whitesOf_16 rfl rfl ?_
    refine q_gr (K := 59) (b := 129) (q := 20) dX12_whitesOf_17 rfl cl_12 (by decide) tw_1141 rfl rfl rfl ?_
    refine x_iload_n (q := 21) dX12_whitesOf_20 rfl rfl ?_
    refine q_iald (q := 22) dX12_whitesOf_21 rfl rfl (vp_in_nI (by omega) (by decide)) ?_
    refine x_imul (q := 23) dX12_whitesOf_22 rfl ?_
    refine x_aload_n (q := 24) dX12_whitesOf_23 rfl rfl ?_
    refine x_iload_n (q := 25) dX12_whitesOf_24 rfl rfl ?_
    refine x_iconst (1) (q := 26) dX12_whitesOf_25 rfl (by decide) ?_
    refine x_iadd (q := 27) dX12_whitesOf_26 rfl ?_
    refine q_callV (ci := 12) (N := 79) (T := TX12) (As := [.int ((nI i) + 1)]) (rest := [.int (72 * (X 129 (nI i).toNatClampNeg)), .ref 131, .int (nI (wsN D d o W i))]) dX12_whitesOf_27 rfl okX12_minutesOf tw_1588 rfl rfl (by rw [nI_p1]; exact c_mof hD ho hn hd hdp r J (q := i + 1) (by omega)) rfl rfl (Nat.le_of_ble_eq_true rfl) ⟨by decide, by decide⟩ ⟨rfl, rfl⟩ (fun rv_ I_ r_ J_ hv_ => ?_)
    obtain ⟨a1_, a2_, a3_, a4_⟩ := hv_
    rw [a1_, a2_, a3_, a4_]
    show Wq MX12_whitesOf 30 [some (.ref 100), some (.int (nI n)), some (.int (nI (wsN D d o W i))), some (.int (nI i))] [.int (nI (msN D d o (i + 1))), .int (72 * (X 129 (nI i).toNatClampNeg)), .ref 131, .int (nI (wsN D d o W i))] X r J _
    refine x_bipush (10) (q := 32) dX12_whitesOf_30 rfl (by decide) ?_
    refine x_idiv (q := 33) dX12_whitesOf_32 rfl (by decide) ?_
    refine x_bipush (71) (q := 35) dX12_whitesOf_33 rfl (by decide) ?_
    refine q_callS (As := [.int ((nI (msN D d o (i + 1))) / 10), .int 71]) (rest := [.int (72 * (X 129 (nI i).toNatClampNeg)), .ref 131, .int (nI (wsN D d o W i))]) (q := 38) dX12_whitesOf_35 rfl okX12_lesser tw_1461 (c_lesser _ _ X r J) rfl rfl (Nat.le_of_ble_eq_true rfl) ⟨by decide, by decide⟩ ⟨rfl, rfl⟩ (fun rv_ I_ r_ J_ hv_ => ?_)
    obtain ⟨a1_, a2_, a3_, a4_⟩ := hv_
    rw [a1_, a2_, a3_, a4_]
    show Wq MX12_whitesOf 38 [some (.ref 100), some (.int (nI n)), some (.int (nI (wsN D d o W i))), some (.int (nI i))] [.int (lesF ((nI (msN D d o (i + 1))) / 10) 71), .int (72 * (X 129 (nI i).toNatClampNeg)), .ref 131, .int (nI (wsN D d o W i))] X r J _
    refine x_iadd (q := 39) dX12_whitesOf_38 rfl ?_
    refine q_zald (q := 40) dX12_whitesOf_39 rfl rfl (by rw [ix]; exact vp_in_nI (by omega) (by decide)) ?_
    refine x_if_eq (t := 47) (q := 43) dX12_whitesOf_40 (by decide) rfl (fun c40 => ?_) (fun c40 => ?_)
    · refine x_iconst (0) (q := 48) dX12_whitesOf_47 rfl (by decide) ?_
      refine x_iadd (q := 49) dX12_whitesOf_48 rfl ?_
      refine x_nmi (fun v1 ev1 => ?_)
      refine x_istore_n (L2 := [some (.ref 100), some (.int (nI n)), some (.int v1), some (.int (nI i))]) (q := 50) dX12_whitesOf_49 rfl (by decide) rfl rfl ?_
      obtain ⟨v2, ev2⟩ : ∃ y_ : Int32, y_ = (nI i) + 1 := ⟨_, rfl⟩
      refine x_iinc (v := v2) (L2 := [some (.ref 100), some (.int (nI n)), some (.int v1), some (.int v2)]) (q := 53) dX12_whitesOf_50 rfl (by decide) rfl rfl (by rw [ev2]; rfl) rfl ?_
      refine x_goto (t := 4) dX12_whitesOf_53 (by decide) ?_
      rw [ix, nI_clamp (by omega), ev] at c40
      rw [show v2 = nI (i + 1) by rw [ev2, nI_p1]]
      have e2 : v1 = nI (wsN D d o W (i + 1)) := by
        rw [ev1]
        show _ = nI (wsN D d o W i + (if W (o i) (min 71 ((msN D d o i + mtN D d o i) / 10)) then 1 else 0))
        cases z : W (o i) (min 71 ((msN D d o i + mtN D d o i) / 10))
        · rw [z] at c40
          first | exact nI_p0 _ | exact absurd rfl c40
        · rw [z] at c40
          first | exact nI_p1 _ | exact absurd c40 (by decide)
      rw [e2]
      exact ih (i + 1) (by omega)
    · refine x_iconst (1) (q := 44) dX12_whitesOf_43 rfl (by decide) ?_
      refine x_goto (t := 48) dX12_whitesOf_44 (by decide) ?_
      refine x_iadd (q := 49) dX12_whitesOf_48 rfl ?_
      refine x_nmi (fun v3 ev3 => ?_)
      refine x_istore_n (L2 := [some (.ref 100), some (.int (nI n)), some (.int v3), some (.int (nI i))]) (q := 50) dX12_whitesOf_49 rfl (by decide) rfl rfl ?_
      obtain ⟨v4, ev4⟩ : ∃ y_ : Int32, y_ = (nI i) + 1 := ⟨_, rfl⟩
      refine x_iinc (v := v4) (L2 := [some (.ref 100), some (.int (nI n)), some (.int v3), some (.int v4)]) (q := 53) dX12_whitesOf_50 rfl (by decide) rfl rfl (by rw [ev4]; rfl) rfl ?_
      refine x_goto (t := 4) dX12_whitesOf_53 (by decide) ?_
      rw [ix, nI_clamp (by omega), ev] at c40
      rw [show v4 = nI (i + 1) by rw [ev4, nI_p1]]
      have e2 : v3 = nI (wsN D d o W (i + 1)) := by
        rw [ev3]
        show _ = nI (wsN D d o W i + (if W (o i) (min 71 ((msN D d o i + mtN D d o i) / 10)) then 1 else 0))
        cases z : W (o i) (min 71 ((msN D d o i + mtN D d o i) / 10))
        · rw [z] at c40
          first | exact nI_p0 _ | exact absurd rfl c40
        · rw [z] at c40
          first | exact nI_p1 _ | exact absurd c40 (by decide)
      rw [e2]
      exact ih (i + 1) (by omega)
set_option maxRecDepth 100000 in
theorem c_who {yn n d N : Nat} {D o : Nat → Nat} {W : Nat → Nat → Bool} {X : MI} (hD : dc 128 D X) (hDl : dl D) (ho : oc 129 n o X) (hn : n ≤ 7) (h8 : yn ≤ 8) (hd : d < 8) (hdp : X 100 47 = nI d) (hoy : ∀ k, k < n → o k < yn ∧ N.testBit (o k) = true) (hw : whM yn N W X) (r : MR) (J : MJ) : Cq yX12_whitesOf MX12_whitesOf [.ref 100, .int (nI n)] X r J (Rt (some (.int (nI (wsN D d o W n)))) X r J) := by
  refine cq_of [some (.ref 100), some (.int (nI n)), none, none] 2 (by decide +kernel) rfl rfl (Nat.le_of_ble_eq_true rfl) rfl ?_
  refine x_iconst (0) (q := 1) dX12_whitesOf_0 rfl (by decide) ?_
  refine x_istore_n (L2 := [some (.ref 100), some (.int (nI n)), some (.int 0), none]) (q := 2) dX12_whitesOf_1 rfl (by decide) rfl rfl ?_
  refine x_iconst (0) (q := 3) dX12_whitesOf_2 rfl (by decide) ?_
  refine x_istore_n (L2 := [some (.ref 100), some (.int (nI n)), some (.int 0), some (.int 0)]) (q := 4) dX12_whitesOf_3 rfl (by decide) rfl rfl ?_
  exact l_who hD hDl ho hn h8 hd hdp hoy hw r J n 0 (by omega)
def Fw (I X : MI) : Prop := ∀ c j, ¬ c = 131 → ¬ c = 125 → ¬ (c = 100 ∧ 49 ≤ j ∧ j ≤ 52) → X c j = I c j
theorem Fw.kr {I X : MI} (h : Fw I X) : Kr I X := fun c j q1 q2 q3 q4 q5 => h c j (fun e => q1 (by unfold scr; omega)) (fun e => q1 (by unfold scr; omega)) (fun e => q1 (by unfold scr; omega))
theorem Fw_m {I X : MI} {G : GT} (h : Fw I X) : Fw I (mPut X G) := fun c j q1 q2 q3 => by
  unfold mPut
  rw [if_neg (fun e => q2 e.1), if_neg (fun e => q3 ⟨e.1, e.2.1, by omega⟩)]
  exact h c j q1 q2 q3
theorem Fw_u {I X : MI} {K : Nat} {x : Int32} (h : Fw I X) : Fw I (upI X 131 K x) := fun c j q1 q2 q3 => by
  rw [upc q1]
  exact h c j q1 q2 q3
def lwP (I : MI) (yn N : Nat) (W : Nat → Nat → Bool) (y s : Nat) (X : MI) : Prop := Fw I X ∧ (∀ y1 s1, y1 < y → N.testBit y1 = true → s1 < 72 → X 131 (72 * y1 + s1) = if W y1 s1 then 1 else 0) ∧ ∀ s1, s1 < s → N.testBit y = true → X 131 (72 * y + s1) = if W y s1 then 1 else 0
theorem fw_le {I : MI} {b hn st y s : Nat} {much : Int32} (h : fwV I b hn st y 0 much s ≤ 0) : Wb I b hn st much y s = false := by
  unfold Wb
  have : fwV I b hn st y 0 much s = -1 := by
    by_cases z : fwV I b hn st y 0 much s = -1
    · exact z
    · exact absurd h (fwV_pos.mpr z)
  rw [this]
  rfl
theorem fw_gt {I : MI} {b hn st y s : Nat} {much : Int32} (h : ¬ fwV I b hn st y 0 much s ≤ 0) : Wb I b hn st much y s = true := by
  unfold Wb
  rw [decide_eq_false (fwV_pos.mp h)]
  rfl
theorem lw_e {I : MI} {yn N : Nat} {W : Nat → Nat → Bool} {y : Nat} {X : MI} {s : Nat} (h : lwP I yn N W y s X) (he : s = 72 ∨ N.testBit y = false) : lwP I yn N W (y + 1) 0 X := by
  refine ⟨h.1, fun y1 s1 q1 q2 q3 => ?_, fun s1 q1 => absurd q1 (by omega)⟩
  by_cases e : y1 = y
  · rcases he with z | z
    · rw [e] at q2 ⊢; exact h.2.2 s1 (by omega) q2
    · rw [e, z] at q2; exact absurd q2 (by decide)
  · exact h.2.1 y1 s1 (by omega) q2 q3
set_option maxRecDepth 100000 in
theorem l_lw1 {I : MI} {b yn wn hn sn st : Nat} (hb : b ≤ 28) (r : MR) (J : MJ) (h : RelL I b yn wn hn sn st) {N : Nat} (hN : N < 256) {much : Int32} (hm : 0 ≤ much.toInt ∧ much.toInt ≤ 99) {y : Nat} (hy : y < yn) (post : Option Value → MI → MR → MJ → Prop) (kx : ∀ (X : MI) (x4 : Option Value), lwP I yn N (Wb I b hn st much) (y + 1) 0 X → Wq MX12_layWhite 64 [some (.ref 100), some (.int (nI N)), some (.int much), some (.int (nI y)), x4] [] X r J post) : ∀ (f : Nat) (s : Nat) (X : MI) (_ : s + f = 72) (_ : lwP I yn N (Wb I b hn st much) y s X), Wq MX12_layWhite 13 [some (.ref 100), some (.int (nI N)), some (.int much), some (.int (nI y)), some (.int (nI s))] [] X r J (post) := by
  have h8 : yn ≤ 8 := h.1.2.2.1
  intro f
  induction f with
  | zero =>
    intro s X hsk hX
    refine x_iload (q := 15) dX12_layWhite_13 rfl rfl ?_
    refine x_bipush (72) (q := 17) dX12_layWhite_15 rfl (by decide) ?_
    refine x_icmp_ge (t := 64) (q := 20) dX12_layWhite_17 (by decide) rfl (fun c17 => ?_) (fun c17 => absurd c17 (fun q => q (nI_le (a := 72) (by omega) (by omega))))
    exact kx X _ (lw_e hX (Or.inl (by omega)))
  | succ f ih =>
    intro s X hsk hX
    refine x_iload (q := 15) dX12_layWhite_13 rfl rfl ?_
    refine x_bipush (72) (q := 17) dX12_layWhite_15 rfl (by decide) ?_
    refine x_icmp_ge (t := 64) (q := 20) dX12_layWhite_17 (by decide) rfl (fun c17 => absurd c17 (nI_ge (b := 72) (by omega) (by decide))) (fun c17 => ?_)
    refine x_iload_n (q := 21) dX12_layWhite_20 rfl rfl ?_
    refine x_iload_n (q := 22) dX12_layWhite_21 rfl rfl ?_
    refine x_ishr (q := 23) dX12_layWhite_22 rfl ?_
    refine x_iconst (1) (q := 24) dX12_layWhite_23 rfl (by decide) ?_
    refine x_iand (q := 25) dX12_layWhite_24 rfl ?_
    refine x_iconst (1) (q := 26) dX12_layWhite_25 rfl (by decide) ?_
    refine x_icmp_ne (t := 64) (q := 29) dX12_layWhite_26 (by decide) rfl (fun c26 => ?_) (fun c26 => ?_)
    · rw [bit_1 (by omega) (by omega)] at c26
      exact kx X _ (lw_e hX (Or.inr (eq_false_of_ne_true c26)))
    · refine x_aload_n (q := 30) dX12_layWhite_29 rfl rfl ?_
      refine q_gr (K := 62) (b := 131) (q := 33) dX12_layWhite_30 rfl cl_12 (by decide) tw_1144 rfl rfl rfl ?_
      refine x_bipush (72) (q := 35) dX12_layWhite_33 rfl (by decide) ?_
      refine x_iload_n (q := 36) dX12_layWhite_35 rfl rfl ?_
      refine x_imul (q := 37) dX12_layWhite_36 rfl ?_
      refine x_iload (q := 39) dX12_layWhite_37 rfl rfl ?_
      refine x_iadd (q := 40) dX12_layWhite_39 rfl ?_
      refine x_aload_n (q := 41) dX12_layWhite_40 rfl rfl ?_
      refine x_iload_n (q := 42) dX12_layWhite_41 rfl rfl ?_
      refine x_iconst (0) (q := 43) dX12_layWhite_42 rfl (by decide) ?_
      refine x_iload (q := 45) dX12_layWhite_43 rfl rfl ?_
      refine x_iload_n (q := 46) dX12_layWhite_45 rfl rfl ?_
      refine q_callV (ci := 12) (N := 79) (T := TX12) (As := [.int (nI y), .int 0, .int (nI s), .int much]) (rest := [.int ((72 * (nI y)) + (nI s)), .ref 131]) (q := 49) dX12_layWhite_46 rfl okX12_firstWhite tw_1512 rfl rfl (k_mfw r J (RelL_r hX.1.kr hb h) hy sh0k hm (at0 := s) (fun k hk => by rw [nI_eq (by omega) (by omega)]; exact eq_comm)) rfl rfl (Nat.le_of_ble_eq_true rfl) ⟨by decide, by decide⟩ ⟨rfl, rfl⟩ (fun rv_ I_ r_ J_ hv_ => ?_)
      obtain ⟨a1_, ⟨Gx, a2_⟩, a3_, a4_⟩ := hv_
      rw [a1_, a2_, a3_, a4_]
      show Wq MX12_layWhite 49 [some (.ref 100), some (.int (nI N)), some (.int much), some (.int (nI y)), some (.int (nI s))] [.int (fwV X b hn st y 0 much s), .int ((72 * (nI y)) + (nI s)), .ref 131] (mPut X Gx) r J _
      refine x_if_le (t := 56) (q := 52) dX12_layWhite_49 (by decide) rfl (fun c49 => ?_) (fun c49 => ?_)
      · refine x_iconst (0) (q := 57) dX12_layWhite_56 rfl (by decide) ?_
        refine q_zast (q := 58) dX12_layWhite_57 rfl (by decide) rfl (by rw [i72']; exact vp_in_nI (by omega) (by decide)) (fun I1 eI1 => ?_)
        obtain ⟨v2, ev2⟩ : ∃ y_ : Int32, y_ = (nI s) + 1 := ⟨_, rfl⟩
        refine x_iinc (v := v2) (L2 := [some (.ref 100), some (.int (nI N)), some (.int much), some (.int (nI y)), some (.int v2)]) (q := 61) dX12_layWhite_58 rfl (by decide) rfl rfl (by rw [ev2]; rfl) rfl ?_
        refine x_goto (t := 13) dX12_layWhite_61 (by decide) ?_
        rw [bit_1 (by omega) (by omega)] at c26
        rw [i72', nI_clamp (by omega)] at eI1
        have hZ : I1 = upI (mPut X Gx) 131 (72 * y + s) (if Wb I b hn st much y s then 1 else 0) := by
          rw [fwV_r hX.1.kr hb (by omega)] at c49
          first | rw [eI1, fw_le c49, if_neg (by decide)] | rw [eI1, fw_gt c49, if_pos rfl]
        rw [hZ, show v2 = nI (s + 1) by rw [ev2, nI_p1]]
        refine ih (s + 1) _ (by omega) ⟨Fw_u (Fw_m hX.1), fun y1 s1 q1 q2 q3 => ?_, fun s1 q1 q2 => ?_⟩
        · rw [ups (by omega), mPc (by decide) (by decide)]; exact hX.2.1 y1 s1 q1 q2 q3
        · by_cases e : s1 = s
          · rw [e, upq]
          · rw [ups (by omega), mPc (by decide) (by decide)]; exact hX.2.2 s1 (by omega) q2
      · refine x_iconst (1) (q := 53) dX12_layWhite_52 rfl (by decide) ?_
        refine x_goto (t := 57) dX12_layWhite_53 (by decide) ?_
        refine q_zast (q := 58) dX12_layWhite_57 rfl (by decide) rfl (by rw [i72']; exact vp_in_nI (by omega) (by decide)) (fun I3 eI3 => ?_)
        obtain ⟨v4, ev4⟩ : ∃ y_ : Int32, y_ = (nI s) + 1 := ⟨_, rfl⟩
        refine x_iinc (v := v4) (L2 := [some (.ref 100), some (.int (nI N)), some (.int much), some (.int (nI y)), some (.int v4)]) (q := 61) dX12_layWhite_58 rfl (by decide) rfl rfl (by rw [ev4]; rfl) rfl ?_
        refine x_goto (t := 13) dX12_layWhite_61 (by decide) ?_
        rw [bit_1 (by omega) (by omega)] at c26
        rw [i72', nI_clamp (by omega)] at eI3
        have hZ : I3 = upI (mPut X Gx) 131 (72 * y + s) (if Wb I b hn st much y s then 1 else 0) := by
          rw [fwV_r hX.1.kr hb (by omega)] at c49
          first | rw [eI3, fw_le c49, if_neg (by decide)] | rw [eI3, fw_gt c49, if_pos rfl]
        rw [hZ, show v4 = nI (s + 1) by rw [ev4, nI_p1]]
        refine ih (s + 1) _ (by omega) ⟨Fw_u (Fw_m hX.1), fun y1 s1 q1 q2 q3 => ?_, fun s1 q1 q2 => ?_⟩
        · rw [ups (by omega), mPc (by decide) (by decide)]; exact hX.2.1 y1 s1 q1 q2 q3
        · by_cases e : s1 = s
          · rw [e, upq]
          · rw [ups (by omega), mPc (by decide) (by decide)]; exact hX.2.2 s1 (by omega) q2
set_option maxRecDepth 100000 in
theorem l_lw {I : MI} {b yn wn hn sn st : Nat} (hb : b ≤ 28) (r : MR) (J : MJ) (h : RelL I b yn wn hn sn st) {N : Nat} (hN : N < 256) {much : Int32} (hm : 0 ≤ much.toInt ∧ much.toInt ≤ 99) : ∀ (f : Nat) (y : Nat) (X : MI) (x4 : Option Value) (_ : y + f = yn) (_ : lwP I yn N (Wb I b hn st much) y 0 X), Wq MX12_layWhite 2 [some (.ref 100), some (.int (nI N)), some (.int much), some (.int (nI y)), x4] [] X r J (Rp none (fun Y => Fw I Y ∧ whM yn N (Wb I b hn st much) Y) r J) := by
  have h8 : yn ≤ 8 := h.1.2.2.1
  intro f
  induction f with
  | zero =>
    intro y X x4 hyk hX
    have ey : X 100 41 = nI yn := by rw [hX.1 100 41 (by decide) (by decide) (by omega)]; exact h.2.2.1.1
    refine x_iload_n (q := 3) dX12_layWhite_2 rfl rfl ?_
    refine x_aload_n (q := 4) dX12_layWhite_3 rfl rfl ?_
    refine q_gi (K := 41) (q := 7) dX12_layWhite_4 rfl cl_12 (by decide) tw_1123 rfl rfl ?_
    refine x_icmp_ge (t := 70) (q := 10) dX12_layWhite_7 (by decide) rfl (fun c7 => ?_) (fun c7 => absurd c7 (fun q => q (by rw [ey]; exact nI_le (by omega) (by omega))))
    refine q_vret dX12_layWhite_70 rfl ?_
    rw [show y = yn by omega] at hX
    exact ⟨rfl, ⟨hX.1, fun y s q1 q2 q3 => hX.2.1 y s q1 q2 q3⟩, rfl, rfl⟩
  | succ f ih =>
    intro y X x4 hyk hX
    have ey : X 100 41 = nI yn := by rw [hX.1 100 41 (by decide) (by decide) (by omega)]; exact h.2.2.1.1
    refine x_iload_n (q := 3) dX12_layWhite_2 rfl rfl ?_
    refine x_aload_n (q := 4) dX12_layWhite_3 rfl rfl ?_
    refine q_gi (K := 41) (q := 7) dX12_layWhite_4 rfl cl_12 (by decide) tw_1123 rfl rfl ?_
    refine x_icmp_ge (t := 70) (q := 10) dX12_layWhite_7 (by decide) rfl (fun c7 => absurd c7 (by rw [ey]; exact nI_ge (by omega) (by omega))) (fun c7 => ?_)
    refine x_iconst (0) (q := 11) dX12_layWhite_10 rfl (by decide) ?_
    refine x_istore (L2 := [some (.ref 100), some (.int (nI N)), some (.int much), some (.int (nI y)), some (.int 0)]) (q := 13) dX12_layWhite_11 rfl (by decide) rfl rfl ?_
    refine l_lw1 hb r J h hN hm (y := y) (by omega) _ (fun Y y4 hY => ?_) 72 0 X rfl hX
    obtain ⟨v31, ev31⟩ : ∃ y_ : Int32, y_ = (nI y) + 1 := ⟨_, rfl⟩
    refine x_iinc (v := v31) (L2 := [some (.ref 100), some (.int (nI N)), some (.int much), some (.int v31), y4]) (q := 67) dX12_layWhite_64 rfl (by decide) rfl rfl (by rw [ev31]; rfl) rfl ?_
    refine x_goto (t := 2) dX12_layWhite_67 (by decide) ?_
    rw [show v31 = nI (y + 1) by rw [ev31, nI_p1]]
    exact ih (y + 1) Y _ (by omega) hY
set_option maxRecDepth 100000 in
theorem c_lw {I : MI} {b yn wn hn sn st : Nat} (hb : b ≤ 28) (r : MR) (J : MJ) (h : RelL I b yn wn hn sn st) {N : Nat} (hN : N < 256) {much : Int32} (hm : 0 ≤ much.toInt ∧ much.toInt ≤ 99) : Cq yX12_layWhite MX12_layWhite [.ref 100, .int (nI N), .int much] I r J (Rp none (fun Y => Fw I Y ∧ whM yn N (Wb I b hn st much) Y) r J) := by
  refine cq_of [some (.ref 100), some (.int (nI N)), some (.int much), none, none] 2 (by decide +kernel) rfl rfl (Nat.le_of_ble_eq_true rfl) rfl ?_
  refine x_iconst (0) (q := 1) dX12_layWhite_0 rfl (by decide) ?_
  refine x_istore_n (L2 := [some (.ref 100), some (.int (nI N)), some (.int much), some (.int 0), none]) (q := 2) dX12_layWhite_1 rfl (by decide) rfl rfl ?_
  exact l_lw hb r J h hN hm yn 0 I _ (by omega) ⟨fun _ _ _ _ _ => rfl, fun y1 s1 q => absurd q (by omega), fun s1 q => absurd q (by omega)⟩
