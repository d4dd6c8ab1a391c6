/-- an answer, and nothing has changed -/
def Rt (x : Option Value) (I : MI) (r : MR) (J : MJ) : Option Value → MI → MR → MJ → Prop := fun v I' r' J' => v = x ∧ I' = I ∧ r' = r ∧ J' = J
/-- nothing is answered, the numbers change -/
def Rn (I : MI) (r : MR) (J : MJ) : Option Value → MI → MR → MJ → Prop := fun v I' r' J' => v = none ∧ I' = I ∧ r' = r ∧ J' = J
def minJ (x y : Int32) : Int32 := if y < x then y else x
def maxJ (x y : Int32) : Int32 := if x < y then y else x
def hourF (step hc : Int32) : Int32 := maxJ 0 (minJ (step / 6) (hc - 1))
set_option maxRecDepth 100000 in
theorem c_hourOf {b : Nat} (hb : SH b = (15, 18)) (step : Int32) (I : MI) (r : MR) (J : MJ) : Cq yX5_hourOf MX5_hourOf [.ref b, .int step] I r J (Rt (some (.int (hourF step (I b 9)))) I r J) := by
  refine cq_of [some (.ref b), some (.int step)] 0 (by decide +kernel) rfl rfl (Nat.le_of_ble_eq_true rfl) rfl ?_
  refine x_iconst (0) dX5_hourOf_0 rfl (by decide) ?_
  refine x_iload_n dX5_hourOf_1 rfl rfl ?_
  refine x_bipush (6) dX5_hourOf_2 rfl (by decide) ?_
  refine x_idiv dX5_hourOf_4 rfl (by decide) ?_
  refine x_aload_n dX5_hourOf_5 rfl rfl ?_
  refine q_gi (K := 9) dX5_hourOf_6 rfl cl_5 (by decide) tw_198 hb rfl ?_
  refine x_iconst (1) dX5_hourOf_9 rfl (by decide) ?_
  refine x_isub dX5_hourOf_10 rfl ?_
  refine x_min dX5_hourOf_11 rfl tw_777 mm_min_s mm_i mm_min_c (by decide) (Nat.le_of_ble_eq_true rfl) (by decide) (by decide) ?_
  refine x_max dX5_hourOf_14 rfl tw_778 mm_max_s mm_i mm_max_c (by decide) (Nat.le_of_ble_eq_true rfl) (by decide) (by decide) ?_
  refine q_iret dX5_hourOf_17 rfl ?_
  exact ⟨rfl, rfl, rfl, rfl⟩
def whiteF (snow : Int32) : Int32 := if 10 ≤ snow then 1 else 0
set_option maxRecDepth 100000 in
theorem c_isWhite {g : Nat} (hg : SH g = (14, 5)) (I : MI) (r : MR) (J : MJ) : Cq yX4_isWhite MX4_isWhite [.ref g] I r J (Rt (some (.int (whiteF (I g 2)))) I r J) := by
  refine cq_of [some (.ref g)] 0 (by decide +kernel) rfl rfl (Nat.le_of_ble_eq_true rfl) rfl ?_
  refine x_aload_n dX4_isWhite_0 rfl rfl ?_
  refine q_gi (K := 2) dX4_isWhite_1 rfl cl_4 (by decide) tw_401 hg rfl ?_
  refine x_bipush (10) dX4_isWhite_4 rfl (by decide) ?_
  refine x_icmp_lt (t := 13) (q := 9) dX4_isWhite_6 (by decide) rfl (fun c6 => ?_) (fun c6 => ?_)
  · refine x_iconst (0) dX4_isWhite_13 rfl (by decide) ?_
    refine q_zret dX4_isWhite_14 rfl (Or.inl rfl) ?_
    refine ⟨?_, rfl, rfl, rfl⟩
    simp [whiteF, *]
  · refine x_iconst (1) dX4_isWhite_9 rfl (by decide) ?_
    refine x_goto (t := 14) dX4_isWhite_10 (by decide) ?_
    refine q_zret dX4_isWhite_14 rfl (Or.inr rfl) ?_
    refine ⟨?_, rfl, rfl, rfl⟩
    simp [whiteF, *]
def blockedF (slope snow ice : Int32) : Int32 := if 1000 ≤ slope * (snow + 2 * ice) then 1 else 0
set_option maxRecDepth 100000 in
theorem c_isBlocked {g t : Nat} (hg : SH g = (14, 5)) (ht : SH t = (20, 6)) (I : MI) (r : MR) (J : MJ) : Cq yX4_isBlocked MX4_isBlocked [.ref g, .ref t] I r J (Rt (some (.int (blockedF (I t 2) (I g 2) (I g 3)))) I r J) := by
  refine cq_of [some (.ref g), some (.ref t)] 0 (by decide +kernel) rfl rfl (Nat.le_of_ble_eq_true rfl) rfl ?_
  refine x_aload_n dX4_isBlocked_0 rfl rfl ?_
  refine q_gi (K := 2) dX4_isBlocked_1 rfl cl_10 (by decide) tw_129 ht rfl ?_
  refine x_aload_n dX4_isBlocked_4 rfl rfl ?_
  refine q_gi (K := 2) dX4_isBlocked_5 rfl cl_4 (by decide) tw_401 hg rfl ?_
  refine x_iconst (2) dX4_isBlocked_8 rfl (by decide) ?_
  refine x_aload_n dX4_isBlocked_9 rfl rfl ?_
  refine q_gi (K := 3) dX4_isBlocked_10 rfl cl_4 (by decide) tw_404 hg rfl ?_
  refine x_imul dX4_isBlocked_13 rfl ?_
  refine x_iadd dX4_isBlocked_14 rfl ?_
  refine x_imul dX4_isBlocked_15 rfl ?_
  refine x_sipush (1000) dX4_isBlocked_16 rfl (by decide) ?_
  refine x_icmp_lt (t := 26) (q := 22) dX4_isBlocked_19 (by decide) rfl (fun c19 => ?_) (fun c19 => ?_)
  · refine x_iconst (0) dX4_isBlocked_26 rfl (by decide) ?_
    refine q_zret dX4_isBlocked_27 rfl (Or.inl rfl) ?_
    refine ⟨?_, rfl, rfl, rfl⟩
    simp [blockedF, *]
  · refine x_iconst (1) dX4_isBlocked_22 rfl (by decide) ?_
    refine x_goto (t := 27) dX4_isBlocked_23 (by decide) ?_
    refine q_zret dX4_isBlocked_27 rfl (Or.inr rfl) ?_
    refine ⟨?_, rfl, rfl, rfl⟩
    simp [blockedF, *]
abbrev GT : Type := Nat → Int32
def gGet (I : MI) (g : Nat) : GT := fun j => if j < 5 then I (g + 1) j else I g (j - 4)
def gPut (I : MI) (g : Nat) (G : GT) : MI := fun b j => if b = g + 1 ∧ j < 5 then G j else if b = g ∧ 1 ≤ j ∧ j < 5 then G (j + 4) else I b j
theorem sh_ne {a b : Nat} (h : (SH a).1 ≠ (SH b).1) : a ≠ b := fun e => h (by rw [e])
set_option maxRecDepth 100000 in
theorem c_begin {g t : Nat} (hg : SH g = (14, 5)) (ht : SH t = (20, 6)) (I : MI) (r : MR) (J : MJ) : Cq yX4_begin MX4_begin [.ref g, .ref t] I r J (Rn (gPut I g (fun j => if j < 5 then I (t + 1) j else 0)) r J) := by
  refine cq_of [some (.ref g), some (.ref t)] 0 (by decide +kernel) rfl rfl (Nat.le_of_ble_eq_true rfl) rfl ?_
  refine x_aload_n dX4_begin_0 rfl rfl ?_
  refine q_gr (K := 5) (b := (t + 1)) dX4_begin_1 rfl cl_10 (by decide) tw_137 ht rfl (tr_w ht _) ?_
  refine x_iconst (0) dX4_begin_4 rfl (by decide) ?_
  refine x_aload_n dX4_begin_5 rfl rfl ?_
  refine q_gr (K := 0) (b := (g + 1)) dX4_begin_6 rfl cl_4 (by decide) tw_396 hg rfl (gr_w hg _) ?_
  refine x_iconst (0) dX4_begin_9 rfl (by decide) ?_
  refine x_iconst (5) dX4_begin_10 rfl (by decide) ?_
  refine q_copy dX4_begin_11 rfl tw_746 tw_748 tw_747 tw_100 (by decide) (Nat.le_of_ble_eq_true rfl) (ts_w ht) (gs_w hg) (by decide) (by decide) (by decide) (by decide) (by decide) (fun I1 eI1 => ?_)
  refine x_aload_n dX4_begin_14 rfl rfl ?_
  refine x_iconst (0) dX4_begin_15 rfl (by decide) ?_
  refine q_pi (K := 1) dX4_begin_16 rfl cl_4 (by decide) tw_399 rfl rfl hg rfl (fun I2 eI2 => ?_)
  refine x_aload_n dX4_begin_19 rfl rfl ?_
  refine x_iconst (0) dX4_begin_20 rfl (by decide) ?_
  refine q_pi (K := 2) dX4_begin_21 rfl cl_4 (by decide) tw_401 rfl rfl hg rfl (fun I3 eI3 => ?_)
  refine x_aload_n dX4_begin_24 rfl rfl ?_
  refine x_iconst (0) dX4_begin_25 rfl (by decide) ?_
  refine q_pi (K := 3) dX4_begin_26 rfl cl_4 (by decide) tw_404 rfl rfl hg rfl (fun I4 eI4 => ?_)
  refine x_aload_n dX4_begin_29 rfl rfl ?_
  refine x_iconst (0) dX4_begin_30 rfl (by decide) ?_
  refine q_pi (K := 4) dX4_begin_31 rfl cl_4 (by decide) tw_406 rfl rfl hg rfl (fun I5 eI5 => ?_)
  refine q_vret dX4_begin_34 rfl ?_
  refine ⟨rfl, ?_, rfl, rfl⟩
  rw [eI5, eI4, eI3, eI2, eI1]
  funext b j
  have h1 : t + 1 ≠ g + 1 := fun e => by have := gs_w hg; omega
  sorry
set_option maxRecDepth 100000 in
theorem c_runOff {g : Nat} (hg : SH g = (14, 5)) (x : Int32) (I : MI) (r : MR) (J : MJ) : Cq yX4_runOff MX4_runOff [.ref g, .int x] I r J (Rn (gPut I g (gGet I g)) r J) := by
  refine cq_of [some (.ref g), some (.int x), none] 1 (by decide +kernel) rfl rfl (Nat.le_of_ble_eq_true rfl) rfl ?_
  refine x_aload_n dX4_runOff_0 rfl rfl ?_
  refine q_gi (K := 1) dX4_runOff_1 rfl cl_4 (by decide) tw_399 hg rfl ?_
  refine x_iload_n dX4_runOff_4 rfl rfl ?_
  refine x_isub dX4_runOff_5 rfl ?_
  refine x_nmi (fun v1 ev1 => ?_)
  refine x_istore_n (L2 := [some (.ref g), some (.int x), some (.int v1)]) dX4_runOff_6 rfl (by decide) rfl rfl ?_
  refine x_iload_n dX4_runOff_7 rfl rfl ?_
  refine x_if_le (t := 36) (q := 11) dX4_runOff_8 (by decide) rfl (fun c8 => ?_) (fun c8 => ?_)
  · refine q_vret dX4_runOff_36 rfl ?_
    sorry
  · refine x_aload_n dX4_runOff_11 rfl rfl ?_
    refine x_dup dX4_runOff_12 rfl rfl ?_
    refine q_gi (K := 4) dX4_runOff_13 rfl cl_4 (by decide) tw_406 hg rfl ?_
    refine x_aload_n dX4_runOff_16 rfl rfl ?_
    refine q_gi (K := 4) dX4_runOff_17 rfl cl_4 (by decide) tw_406 hg rfl ?_
    refine x_iload_n dX4_runOff_20 rfl rfl ?_
    refine x_imul dX4_runOff_21 rfl ?_
    refine x_aload_n dX4_runOff_22 rfl rfl ?_
    refine q_gi (K := 1) dX4_runOff_23 rfl cl_4 (by decide) tw_399 hg rfl ?_
    refine x_idiv dX4_runOff_26 rfl (by sorry) ?_
    refine x_isub dX4_runOff_27 rfl ?_
    refine q_pi (K := 4) dX4_runOff_28 rfl cl_4 (by decide) tw_406 rfl rfl hg rfl (fun I2 eI2 => ?_)
    refine x_aload_n dX4_runOff_31 rfl rfl ?_
    refine x_iload_n dX4_runOff_32 rfl rfl ?_
    refine q_pi (K := 1) dX4_runOff_33 rfl cl_4 (by decide) tw_399 rfl rfl hg rfl (fun I3 eI3 => ?_)
    refine q_vret dX4_runOff_36 rfl ?_
    sorry
