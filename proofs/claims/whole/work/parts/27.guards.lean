def KWl : List Int64 := [820804, 23609, 278194, 635184, 99724, 263757, 4375028, 20594245, 7931507, 605220, 86282469, 605670, 20332037, 22080067875, 755277, 21015731, 198028, 660912, 23732, 777297172]
def RelJ (J : MJ) : Prop := ∀ k, k < 20 → J 56 k = KWl.getD k 0
def Rel (I : MI) (r : MR) (J : MJ) : Prop := ∃ b yn wn hn sn st : Nat, RefOk r b ∧ RelL I b yn wn hn sn st ∧ RelR I ∧ RelJ J
def OpOk (yx : MethodName) (Mx : MX) (ym : MethodName) (Mm : MX) (args : List Value) : Prop := ∀ (I : MI) (r : MR) (J : MJ), Rel I r J → ∃ res : Int32, Cq yx Mx (.ref 0 :: args) I r J (fun v I1 r1 J1 => v = some (.int res) ∧ Cq ym Mm (.ref 100 :: args) I1 r1 J1 (fun v2 I2 r2 J2 => v2 = some (.int res) ∧ Rel I2 r2 J2))
/-- a contract of the class's and one of the model's, put together -/
theorem op_of {yx : MethodName} {Mx : MX} {ym : MethodName} {Mm : MX} {args : List Value} {I : MI} {r : MR} {J : MJ} {res : Int32} {px : Option Value → MI → MR → MJ → Prop} (hx : Cq yx Mx (.ref 0 :: args) I r J px) (hm : ∀ v I1 r1 J1, px v I1 r1 J1 → v = some (.int res) ∧ Cq ym Mm (.ref 100 :: args) I1 r1 J1 (fun v2 I2 r2 J2 => v2 = some (.int res) ∧ Rel I2 r2 J2)) : ∃ res : Int32, Cq yx Mx (.ref 0 :: args) I r J (fun v I1 r1 J1 => v = some (.int res) ∧ Cq ym Mm (.ref 100 :: args) I1 r1 J1 (fun v2 I2 r2 J2 => v2 = some (.int res) ∧ Rel I2 r2 J2)) := ⟨res, cq_mono hm hx⟩
theorem refs_L {r : MR} {b : Nat} (h : RefOk r b) : SH b = (15, 18) ∧ b ≤ 28 := by
  rcases h.2.2 with ⟨q, -⟩ | ⟨q, -⟩ <;> subst q <;> exact ⟨rfl, by decide⟩
theorem yd_no {x : Int32} {yn : Nat} (h8 : yn ≤ 8) (h : ¬ ∃ k, k < yn ∧ x = nI k) : x < 0 ∨ nI yn ≤ x := by
  rcases pk_ix x (n := yn) (by omega) with q | q | q
  · exact Or.inl q
  · exact Or.inr q
  · exact absurd q h
theorem nI_m1 {yn : Nat} (h : 1 ≤ yn) : nI yn - 1 = nI (yn - 1) := pk_sub (a := yn) (b := 1) h
theorem shOk_iff {x : Int32} : ShOk x ↔ (-50 ≤ x ∧ x ≤ 50) := by
  unfold ShOk
  rw [Int32.le_iff_toInt_le, Int32.le_iff_toInt_le]
  have c1 : (-50 : Int32).toInt = -50 := by decide
  have c2 : (50 : Int32).toInt = 50 := by decide
  rw [c1, c2]
set_option maxRecDepth 100000 in
theorem c_isYard_g {y yn : Nat} (I : MI) (r : MR) (J : MJ) (hb : SH (r 0) = (15, 18)) (e1 : I (r 0) 1 = nI yn) (h8 : yn ≤ 8) (hy : y < yn) : Cq yX11_isYard MX11_isYard [.ref 0, .int (nI y)] I r J (Rt (some (.int 1)) I r J) := by
  refine cq_of [some (.ref 0), some (.int (nI y))] 0 (by decide +kernel) rfl rfl (Nat.le_of_ble_eq_true rfl) rfl ?_
  refine x_iload_n (q := 1) dX11_isYard_0 rfl rfl ?_
  refine x_if_lt (t := 19) (q := 4) dX11_isYard_1 (by decide) rfl (fun c1 => absurd c1 (nI_pos (by omega))) (fun c1 => ?_)
  refine x_iload_n (q := 5) dX11_isYard_4 rfl rfl ?_
  refine x_aload_n (q := 6) dX11_isYard_5 rfl rfl ?_
  refine q_gr (K := 2) (b := (r 0)) (q := 9) dX11_isYard_6 rfl cl_11 (by decide) tw_569 rfl rfl rfl ?_
  refine q_gi (K := 1) (q := 12) dX11_isYard_9 rfl cl_5 (by decide) tw_169 hb rfl ?_
  refine x_icmp_ge (t := 19) (q := 15) dX11_isYard_12 (by decide) rfl (fun c12 => absurd c12 (by rw [e1]; exact nI_ge hy (by omega))) (fun c12 => ?_)
  refine x_iconst (1) (q := 16) dX11_isYard_15 rfl (by decide) ?_
  refine x_goto (t := 20) dX11_isYard_16 (by decide) ?_
  refine q_zret dX11_isYard_20 rfl (Or.inr rfl) ?_
  exact ⟨rfl, rfl, rfl, rfl⟩
set_option maxRecDepth 100000 in
theorem c_isYard_b {x : Int32} {yn : Nat} (I : MI) (r : MR) (J : MJ) (hb : SH (r 0) = (15, 18)) (e1 : I (r 0) 1 = nI yn) (h8 : yn ≤ 8) (hno : ¬ ∃ k, k < yn ∧ x = nI k) : Cq yX11_isYard MX11_isYard [.ref 0, .int x] I r J (Rt (some (.int 0)) I r J) := by
  refine cq_of [some (.ref 0), some (.int x)] 0 (by decide +kernel) rfl rfl (Nat.le_of_ble_eq_true rfl) rfl ?_
  refine x_iload_n (q := 1) dX11_isYard_0 rfl rfl ?_
  refine x_if_lt (t := 19) (q := 4) dX11_isYard_1 (by decide) rfl (fun c1 => ?_) (fun c1 => ?_)
  · refine x_iconst (0) (q := 20) dX11_isYard_19 rfl (by decide) ?_
    refine q_zret dX11_isYard_20 rfl (Or.inl rfl) ?_
    exact ⟨rfl, rfl, rfl, rfl⟩
  · refine x_iload_n (q := 5) dX11_isYard_4 rfl rfl ?_
    refine x_aload_n (q := 6) dX11_isYard_5 rfl rfl ?_
    refine q_gr (K := 2) (b := (r 0)) (q := 9) dX11_isYard_6 rfl cl_11 (by decide) tw_569 rfl rfl rfl ?_
    refine q_gi (K := 1) (q := 12) dX11_isYard_9 rfl cl_5 (by decide) tw_169 hb rfl ?_
    refine x_icmp_ge (t := 19) (q := 15) dX11_isYard_12 (by decide) rfl (fun c12 => ?_) (fun c12 => ?_)
    · refine x_iconst (0) (q := 20) dX11_isYard_19 rfl (by decide) ?_
      refine q_zret dX11_isYard_20 rfl (Or.inl rfl) ?_
      exact ⟨rfl, rfl, rfl, rfl⟩
    · refine x_iconst (1) (q := 16) dX11_isYard_15 rfl (by decide) ?_
      refine x_goto (t := 20) dX11_isYard_16 (by decide) ?_
      refine q_zret dX11_isYard_20 rfl (Or.inr rfl) ?_
      exfalso
      rcases yd_no h8 hno with q | q
      · exact c1 q
      · rw [e1] at c12
        exact c12 q
set_option maxRecDepth 100000 in
theorem c_isShift_g {x : Int32} (I : MI) (r : MR) (J : MJ) (h1 : (-50 : Int32) ≤ x) (h2 : x ≤ 50) : Cq yX11_isShift MX11_isShift [.int x] I r J (Rt (some (.int 1)) I r J) := by
  refine cq_of [some (.int x)] 0 (by decide +kernel) rfl rfl (Nat.le_of_ble_eq_true rfl) rfl ?_
  refine x_iload_n (q := 1) dX11_isShift_0 rfl rfl ?_
  refine x_bipush (-50) (q := 3) dX11_isShift_1 rfl (by decide) ?_
  refine x_icmp_lt (t := 16) (q := 6) dX11_isShift_3 (by decide) rfl (fun c3 => absurd c3 (Int32.not_lt.mpr h1)) (fun c3 => ?_)
  refine x_iload_n (q := 7) dX11_isShift_6 rfl rfl ?_
  refine x_bipush (50) (q := 9) dX11_isShift_7 rfl (by decide) ?_
  refine x_icmp_gt (t := 16) (q := 12) dX11_isShift_9 (by decide) rfl (fun c9 => absurd c9 (Int32.not_lt.mpr h2)) (fun c9 => ?_)
  refine x_iconst (1) (q := 13) dX11_isShift_12 rfl (by decide) ?_
  refine x_goto (t := 17) dX11_isShift_13 (by decide) ?_
  refine q_zret dX11_isShift_17 rfl (Or.inr rfl) ?_
  exact ⟨rfl, rfl, rfl, rfl⟩
set_option maxRecDepth 100000 in
theorem c_isShift_b {x : Int32} (I : MI) (r : MR) (J : MJ) (hno : ¬ ((-50 : Int32) ≤ x ∧ x ≤ 50)) : Cq yX11_isShift MX11_isShift [.int x] I r J (Rt (some (.int 0)) I r J) := by
  refine cq_of [some (.int x)] 0 (by decide +kernel) rfl rfl (Nat.le_of_ble_eq_true rfl) rfl ?_
  refine x_iload_n (q := 1) dX11_isShift_0 rfl rfl ?_
  refine x_bipush (-50) (q := 3) dX11_isShift_1 rfl (by decide) ?_
  refine x_icmp_lt (t := 16) (q := 6) dX11_isShift_3 (by decide) rfl (fun c3 => ?_) (fun c3 => ?_)
  · refine x_iconst (0) (q := 17) dX11_isShift_16 rfl (by decide) ?_
    refine q_zret dX11_isShift_17 rfl (Or.inl rfl) ?_
    exact ⟨rfl, rfl, rfl, rfl⟩
  · refine x_iload_n (q := 7) dX11_isShift_6 rfl rfl ?_
    refine x_bipush (50) (q := 9) dX11_isShift_7 rfl (by decide) ?_
    refine x_icmp_gt (t := 16) (q := 12) dX11_isShift_9 (by decide) rfl (fun c9 => ?_) (fun c9 => ?_)
    · refine x_iconst (0) (q := 17) dX11_isShift_16 rfl (by decide) ?_
      refine q_zret dX11_isShift_17 rfl (Or.inl rfl) ?_
      exact ⟨rfl, rfl, rfl, rfl⟩
    · refine x_iconst (1) (q := 13) dX11_isShift_12 rfl (by decide) ?_
      refine x_goto (t := 17) dX11_isShift_13 (by decide) ?_
      refine q_zret dX11_isShift_17 rfl (Or.inr rfl) ?_
      exact absurd ⟨Int32.not_lt.mp c3, Int32.not_lt.mp c9⟩ hno
set_option maxRecDepth 100000 in
theorem c_isSalt_g {x : Int32} (I : MI) (r : MR) (J : MJ) (h1 : (0 : Int32) ≤ x) (h2 : x ≤ 99) : Cq yX11_isSalt MX11_isSalt [.int x] I r J (Rt (some (.int 1)) I r J) := by
  refine cq_of [some (.int x)] 0 (by decide +kernel) rfl rfl (Nat.le_of_ble_eq_true rfl) rfl ?_
  refine x_iload_n (q := 1) dX11_isSalt_0 rfl rfl ?_
  refine x_if_lt (t := 14) (q := 4) dX11_isSalt_1 (by decide) rfl (fun c1 => absurd c1 (Int32.not_lt.mpr h1)) (fun c1 => ?_)
  refine x_iload_n (q := 5) dX11_isSalt_4 rfl rfl ?_
  refine x_bipush (99) (q := 7) dX11_isSalt_5 rfl (by decide) ?_
  refine x_icmp_gt (t := 14) (q := 10) dX11_isSalt_7 (by decide) rfl (fun c7 => absurd c7 (Int32.not_lt.mpr h2)) (fun c7 => ?_)
  refine x_iconst (1) (q := 11) dX11_isSalt_10 rfl (by decide) ?_
  refine x_goto (t := 15) dX11_isSalt_11 (by decide) ?_
  refine q_zret dX11_isSalt_15 rfl (Or.inr rfl) ?_
  exact ⟨rfl, rfl, rfl, rfl⟩
set_option maxRecDepth 100000 in
theorem c_isSalt_b {x : Int32} (I : MI) (r : MR) (J : MJ) (hno : ¬ ((0 : Int32) ≤ x ∧ x ≤ 99)) : Cq yX11_isSalt MX11_isSalt [.int x] I r J (Rt (some (.int 0)) I r J) := by
  refine cq_of [some (.int x)] 0 (by decide +kernel) rfl rfl (Nat.le_of_ble_eq_true rfl) rfl ?_
  refine x_iload_n (q := 1) dX11_isSalt_0 rfl rfl ?_
  refine x_if_lt (t := 14) (q := 4) dX11_isSalt_1 (by decide) rfl (fun c1 => ?_) (fun c1 => ?_)
  · refine x_iconst (0) (q := 15) dX11_isSalt_14 rfl (by decide) ?_
    refine q_zret dX11_isSalt_15 rfl (Or.inl rfl) ?_
    exact ⟨rfl, rfl, rfl, rfl⟩
  · refine x_iload_n (q := 5) dX11_isSalt_4 rfl rfl ?_
    refine x_bipush (99) (q := 7) dX11_isSalt_5 rfl (by decide) ?_
    refine x_icmp_gt (t := 14) (q := 10) dX11_isSalt_7 (by decide) rfl (fun c7 => ?_) (fun c7 => ?_)
    · refine x_iconst (0) (q := 15) dX11_isSalt_14 rfl (by decide) ?_
      refine q_zret dX11_isSalt_15 rfl (Or.inl rfl) ?_
      exact ⟨rfl, rfl, rfl, rfl⟩
    · refine x_iconst (1) (q := 11) dX11_isSalt_10 rfl (by decide) ?_
      refine x_goto (t := 15) dX11_isSalt_11 (by decide) ?_
      refine q_zret dX11_isSalt_15 rfl (Or.inr rfl) ?_
      exact absurd ⟨Int32.not_lt.mp c1, Int32.not_lt.mp c7⟩ hno
set_option maxRecDepth 100000 in
theorem c_isIn_g {x lo hi : Int32} (I : MI) (r : MR) (J : MJ) (h1 : lo ≤ x) (h2 : x ≤ hi) : Cq yX12_isIn MX12_isIn [.int x, .int lo, .int hi] I r J (Rt (some (.int 1)) I r J) := by
  refine cq_of [some (.int x), some (.int lo), some (.int hi)] 0 (by decide +kernel) rfl rfl (Nat.le_of_ble_eq_true rfl) rfl ?_
  refine x_iload_n (q := 1) dX12_isIn_0 rfl rfl ?_
  refine x_iload_n (q := 2) dX12_isIn_1 rfl rfl ?_
  refine x_icmp_lt (t := 14) (q := 5) dX12_isIn_2 (by decide) rfl (fun c2 => absurd c2 (Int32.not_lt.mpr h1)) (fun c2 => ?_)
  refine x_iload_n (q := 6) dX12_isIn_5 rfl rfl ?_
  refine x_iload_n (q := 7) dX12_isIn_6 rfl rfl ?_
  refine x_icmp_gt (t := 14) (q := 10) dX12_isIn_7 (by decide) rfl (fun c7 => absurd c7 (Int32.not_lt.mpr h2)) (fun c7 => ?_)
  refine x_iconst (1) (q := 11) dX12_isIn_10 rfl (by decide) ?_
  refine x_goto (t := 15) dX12_isIn_11 (by decide) ?_
  refine q_zret dX12_isIn_15 rfl (Or.inr rfl) ?_
  exact ⟨rfl, rfl, rfl, rfl⟩
set_option maxRecDepth 100000 in
theorem c_isIn_b {x lo hi : Int32} (I : MI) (r : MR) (J : MJ) (hno : ¬ (lo ≤ x ∧ x ≤ hi)) : Cq yX12_isIn MX12_isIn [.int x, .int lo, .int hi] I r J (Rt (some (.int 0)) I r J) := by
  refine cq_of [some (.int x), some (.int lo), some (.int hi)] 0 (by decide +kernel) rfl rfl (Nat.le_of_ble_eq_true rfl) rfl ?_
  refine x_iload_n (q := 1) dX12_isIn_0 rfl rfl ?_
  refine x_iload_n (q := 2) dX12_isIn_1 rfl rfl ?_
  refine x_icmp_lt (t := 14) (q := 5) dX12_isIn_2 (by decide) rfl (fun c2 => ?_) (fun c2 => ?_)
  · refine x_iconst (0) (q := 15) dX12_isIn_14 rfl (by decide) ?_
    refine q_zret dX12_isIn_15 rfl (Or.inl rfl) ?_
    exact ⟨rfl, rfl, rfl, rfl⟩
  · refine x_iload_n (q := 6) dX12_isIn_5 rfl rfl ?_
    refine x_iload_n (q := 7) dX12_isIn_6 rfl rfl ?_
    refine x_icmp_gt (t := 14) (q := 10) dX12_isIn_7 (by decide) rfl (fun c7 => ?_) (fun c7 => ?_)
    · refine x_iconst (0) (q := 15) dX12_isIn_14 rfl (by decide) ?_
      refine q_zret dX12_isIn_15 rfl (Or.inl rfl) ?_
      exact ⟨rfl, rfl, rfl, rfl⟩
    · refine x_iconst (1) (q := 11) dX12_isIn_10 rfl (by decide) ?_
      refine x_goto (t := 15) dX12_isIn_11 (by decide) ?_
      refine q_zret dX12_isIn_15 rfl (Or.inr rfl) ?_
      exact absurd ⟨Int32.not_lt.mp c2, Int32.not_lt.mp c7⟩ hno
set_option maxRecDepth 100000 in
theorem c_mYard_g {y yn : Nat} (I : MI) (r : MR) (J : MJ) (e1 : I 100 41 = nI yn) (h8 : yn ≤ 8) (hy : y < yn) : Cq yX12_isYard MX12_isYard [.ref 100, .int (nI y)] I r J (Rt (some (.int 1)) I r J) := by
  refine cq_of [some (.ref 100), some (.int (nI y))] 0 (by decide +kernel) rfl rfl (Nat.le_of_ble_eq_true rfl) rfl ?_
  refine x_iload_n (q := 1) dX12_isYard_0 rfl rfl ?_
  refine x_iconst (0) (q := 2) dX12_isYard_1 rfl (by decide) ?_
  refine x_aload_n (q := 3) dX12_isYard_2 rfl rfl ?_
  refine q_gi (K := 41) (q := 6) dX12_isYard_3 rfl cl_12 (by decide) tw_1123 rfl rfl ?_
  refine x_iconst (1) (q := 7) dX12_isYard_6 rfl (by decide) ?_
  refine x_isub (q := 8) dX12_isYard_7 rfl ?_
  refine q_callS (As := [.int (nI y), .int 0, .int ((I 100 41) - 1)]) (rest := []) (q := 11) dX12_isYard_8 rfl okX12_isIn tw_1450 (c_isIn_g _ _ _ (nI_pos' (by omega)) (by rw [e1, nI_m1 (by omega)]; exact nI_le (by omega) (by omega))) rfl rfl (Nat.le_of_ble_eq_true rfl) ⟨by decide, by decide⟩ ⟨rfl, rfl⟩ (fun rv_ I_ r_ J_ hv_ => ?_)
  obtain ⟨a1_, a2_, a3_, a4_⟩ := hv_
  rw [a1_, a2_, a3_, a4_]
  show Wq MX12_isYard 11 [some (.ref 100), some (.int (nI y))] [.int 1] I r J _
  refine q_zret dX12_isYard_11 rfl (Or.inr rfl) ?_
  exact ⟨rfl, rfl, rfl, rfl⟩
theorem in_no {x : Int32} {yn : Nat} (h8 : yn ≤ 1000000) (h : ¬ ∃ k, k < yn ∧ x = nI k) : ¬ (0 ≤ x ∧ x ≤ nI yn - 1) := by
  rintro ⟨h1, h2⟩
  by_cases h0 : yn = 0
  · subst h0
    have e : nI 0 - 1 = -1 := by decide
    rw [e] at h2
    have := Int32.le_trans h1 h2
    exact absurd this (by decide)
  · rw [nI_m1 (by omega)] at h2
    obtain ⟨j, hj, rfl⟩ := nI_of (Int32.not_lt.mpr h1)
    exact h ⟨j, by have := Int32.le_iff_toInt_le.mp h2; rw [nI_toInt hj, nI_toInt (by omega)] at this; omega, rfl⟩
set_option maxRecDepth 100000 in
theorem c_mYard_b {x : Int32} {yn : Nat} (I : MI) (r : MR) (J : MJ) (e1 : I 100 41 = nI yn) (h8 : yn ≤ 8) (hno : ¬ ∃ k, k < yn ∧ x = nI k) : Cq yX12_isYard MX12_isYard [.ref 100, .int x] I r J (Rt (some (.int 0)) I r J) := by
  refine cq_of [some (.ref 100), some (.int x)] 0 (by decide +kernel) rfl rfl (Nat.le_of_ble_eq_true rfl) rfl ?_
  refine x_iload_n (q := 1) dX12_isYard_0 rfl rfl ?_
  refine x_iconst (0) (q := 2) dX12_isYard_1 rfl (by decide) ?_
  refine x_aload_n (q := 3) dX12_isYard_2 rfl rfl ?_
  refine q_gi (K := 41) (q := 6) dX12_isYard_3 rfl cl_12 (by decide) tw_1123 rfl rfl ?_
  refine x_iconst (1) (q := 7) dX12_isYard_6 rfl (by decide) ?_
  refine x_isub (q := 8) dX12_isYard_7 rfl ?_
  refine q_callS (As := [.int x, .int 0, .int ((I 100 41) - 1)]) (rest := []) (q := 11) dX12_isYard_8 rfl okX12_isIn tw_1450 (c_isIn_b _ _ _ (by rw [e1]; exact in_no (by omega) hno)) rfl rfl (Nat.le_of_ble_eq_true rfl) ⟨by decide, by decide⟩ ⟨rfl, rfl⟩ (fun rv_ I_ r_ J_ hv_ => ?_)
  obtain ⟨a1_, a2_, a3_, a4_⟩ := hv_
  rw [a1_, a2_, a3_, a4_]
  show Wq MX12_isYard 11 [some (.ref 100), some (.int x)] [.int 0] I r J _
  refine q_zret dX12_isYard_11 rfl (Or.inl rfl) ?_
  exact ⟨rfl, rfl, rfl, rfl⟩
set_option maxRecDepth 100000 in
theorem c_mShift_g {x : Int32} (I : MI) (r : MR) (J : MJ) (h1 : (-50 : Int32) ≤ x) (h2 : x ≤ 50) : Cq yX12_isShift MX12_isShift [.int x] I r J (Rt (some (.int 1)) I r J) := by
  refine cq_of [some (.int x)] 0 (by decide +kernel) rfl rfl (Nat.le_of_ble_eq_true rfl) rfl ?_
  refine x_iload_n (q := 1) dX12_isShift_0 rfl rfl ?_
  refine x_bipush (-50) (q := 3) dX12_isShift_1 rfl (by decide) ?_
  refine x_bipush (50) (q := 5) dX12_isShift_3 rfl (by decide) ?_
  refine q_callS (As := [.int x, .int (-50), .int 50]) (rest := []) (q := 8) dX12_isShift_5 rfl okX12_isIn tw_1450 (c_isIn_g _ _ _ h1 h2) rfl rfl (Nat.le_of_ble_eq_true rfl) ⟨by decide, by decide⟩ ⟨rfl, rfl⟩ (fun rv_ I_ r_ J_ hv_ => ?_)
  obtain ⟨a1_, a2_, a3_, a4_⟩ := hv_
  rw [a1_, a2_, a3_, a4_]
  show Wq MX12_isShift 8 [some (.int x)] [.int 1] I r J _
  refine q_zret dX12_isShift_8 rfl (Or.inr rfl) ?_
  exact ⟨rfl, rfl, rfl, rfl⟩
set_option maxRecDepth 100000 in
theorem c_mShift_b {x : Int32} (I : MI) (r : MR) (J : MJ) (hno : ¬ ((-50 : Int32) ≤ x ∧ x ≤ 50)) : Cq yX12_isShift MX12_isShift [.int x] I r J (Rt (some (.int 0)) I r J) := by
  refine cq_of [some (.int x)] 0 (by decide +kernel) rfl rfl (Nat.le_of_ble_eq_true rfl) rfl ?_
  refine x_iload_n (q := 1) dX12_isShift_0 rfl rfl ?_
  refine x_bipush (-50) (q := 3) dX12_isShift_1 rfl (by decide) ?_
  refine x_bipush (50) (q := 5) dX12_isShift_3 rfl (by decide) ?_
  refine q_callS (As := [.int x, .int (-50), .int 50]) (rest := []) (q := 8) dX12_isShift_5 rfl okX12_isIn tw_1450 (c_isIn_b _ _ _ hno) rfl rfl (Nat.le_of_ble_eq_true rfl) ⟨by decide, by decide⟩ ⟨rfl, rfl⟩ (fun rv_ I_ r_ J_ hv_ => ?_)
  obtain ⟨a1_, a2_, a3_, a4_⟩ := hv_
  rw [a1_, a2_, a3_, a4_]
  show Wq MX12_isShift 8 [some (.int x)] [.int 0] I r J _
  refine q_zret dX12_isShift_8 rfl (Or.inl rfl) ?_
  exact ⟨rfl, rfl, rfl, rfl⟩
