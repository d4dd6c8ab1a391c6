/-- places that are scratch: no call finds again what another left there -/
def scr (c j : Nat) : Prop := (77 ≤ c ∧ c ≤ 79) ∨ (81 ≤ c ∧ c ≤ 83) ∨ (85 ≤ c ∧ c ≤ 87) ∨ (92 ≤ c ∧ c ≤ 94) ∨ c = 125 ∨ c = 128 ∨ c = 129 ∨ (131 ≤ c ∧ c ≤ 133) ∨ c = 141 ∨ (c = 80 ∧ ¬ j = 4) ∨ (c = 88 ∧ ¬ j = 3) ∨ (c = 100 ∧ 49 ≤ j ∧ j ≤ 52)
def Kp (I I' : MI) : Prop := ∀ c j, ¬ scr c j → I' c j = I c j
theorem Kp.rfl' {I : MI} : Kp I I := fun _ _ _ => rfl
theorem Kp.tr {I I' I'' : MI} (h1 : Kp I I') (h2 : Kp I' I'') : Kp I I'' := fun c j q => (h2 c j q).trans (h1 c j q)
theorem Kp.cell {I I' : MI} (h : Kp I I') {c : Nat} (hc : ∀ j, ¬ scr c j) : I' c = I c := funext fun j => h c j (hc j)
theorem Kp_77 {I : MI} (G : GT) : Kp I (gPut I 77 G) := fun c j q => gPut_o _ _ _ _ _ (fun e => q (by unfold scr; omega)) (fun e => q (by unfold scr; omega))
theorem Kp_92 {I : MI} (G : GT) : Kp I (gPut I 92 G) := fun c j q => gPut_o _ _ _ _ _ (fun e => q (by unfold scr; omega)) (fun e => q (by unfold scr; omega))
theorem Kp_m {I : MI} (G : GT) : Kp I (mPut I G) := fun c j q => by
  unfold mPut
  rw [if_neg (fun e => q (by unfold scr; omega)), if_neg (fun e => q (by unfold scr; omega))]
theorem Kp_up {I : MI} {a K : Nat} {x : Int32} (h : scr a K) : Kp I (upI I a K x) := fun c j q => by
  unfold upI
  rw [if_neg (fun e => q (by rw [e.1, e.2]; exact h))]
theorem RelL_k {I I' : MI} {b yn wn hn sn st : Nat} (hk : Kp I I') (hb : b ≤ 28) (h : RelL I b yn wn hn sn st) : RelL I' b yn wn hn sn st := by
  refine RelL_c (fun c q1 q2 q3 => hk.cell (fun j s => ?_)) (hk 88 3 (by unfold scr; omega)) (fun j hj => hk 100 j (by unfold scr; omega)) hb h
  unfold scr at s
  unfold regL regM at q3
  omega
theorem RelR_k {I I' : MI} (hk : Kp I I') (h : RelR I) : RelR I' := by
  refine RelR_c (hk 0 1 (by unfold scr; omega)) (hk 0 11 (by unfold scr; omega)) (hk.cell (fun j s => ?_)) (hk.cell (fun j s => ?_)) (hk 80 4 (by unfold scr; omega)) (hk.cell (fun j s => ?_)) (hk.cell (fun j s => ?_)) (hk.cell (fun j s => ?_)) (fun j hj => hk 100 j (by unfold scr; omega)) h <;> (unfold scr at s; omega)
/-- a call that answers and changes scratch alone -/
def Rk (x : Int32) (I : MI) (r : MR) (J : MJ) : Option Value → MI → MR → MJ → Prop := fun v I' r' J' => v = some (.int x) ∧ Kp I I' ∧ r' = r ∧ J' = J
def Rn (I : MI) (r : MR) (J : MJ) : Option Value → MI → MR → MJ → Prop := fun v I' r' J' => v = none ∧ Kp I I' ∧ r' = r ∧ J' = J
theorem Rk_same {x : Int32} {I : MI} {r : MR} {J : MJ} : Rk x I r J (some (.int x)) I r J := ⟨rfl, Kp.rfl', rfl, rfl⟩
theorem op_kp {yx : MethodName} {Mx : MX} {ym : MethodName} {Mm : MX} {args : List Value} {I : MI} {r : MR} {J : MJ} {res : Int32} {b yn wn hn sn st : Nat} (hr : RefOk r b) (hl : RelL I b yn wn hn sn st) (hR : RelR I) (hJ : RelJ J) (hx : Cq yx Mx (.ref 0 :: args) I r J (Rk res I r J)) (hm : ∀ I1, Kp I I1 → RelL I1 b yn wn hn sn st → RelR I1 → Cq ym Mm (.ref 100 :: args) I1 r J (Rk res I1 r J)) : ∃ res : Int32, Cq yx Mx (.ref 0 :: args) I r J (fun v I1 r1 J1 => v = some (.int res) ∧ Cq ym Mm (.ref 100 :: args) I1 r1 J1 (fun v2 I2 r2 J2 => v2 = some (.int res) ∧ Rel I2 r2 J2)) := by
  have hb := (refs_L hr).2
  refine op_of (res := res) hx (fun v I1 r1 J1 hp => ?_)
  obtain ⟨e1, e2, e3, e4⟩ := hp
  subst e3
  subst e4
  refine ⟨e1, cq_mono (fun v2 I2 r2 J2 hq => ?_) (hm I1 e2 (RelL_k e2 hb hl) (RelR_k e2 hR))⟩
  obtain ⟨f1, f2, f3, f4⟩ := hq
  subst f3
  subst f4
  exact ⟨f1, b, yn, wn, hn, sn, st, hr, RelL_k f2 hb (RelL_k e2 hb hl), RelR_k f2 (RelR_k e2 hR), hJ⟩
def sprOk (s x : Int32) : Prop := (1 : Int32) ≤ x ∧ x ≤ 99 ∧ x ≤ s
set_option maxRecDepth 100000 in
theorem c_strew {I : MI} {y : Nat} (hy8 : y < 8) (x : Int32) (r : MR) (J : MJ) : Cq yX1_strew MX1_strew [.ref 58, .int (nI y), .int x] I r J (Rt none (upI (upI I (60 + 2 * y) 4 (I (60 + 2 * y) 4 + x)) 58 4 (I 58 4 - x)) r J) := by
  refine cq_of [some (.ref 58), some (.int (nI y)), some (.int x)] 0 (by decide +kernel) rfl rfl (Nat.le_of_ble_eq_true rfl) rfl ?_
  refine x_aload_n (q := 1) dX1_strew_0 rfl rfl ?_
  refine q_gr (K := 1) (b := 59) (q := 4) dX1_strew_1 rfl cl_1 (by decide) tw_426 rfl rfl rfl ?_
  refine x_iload_n (q := 5) dX1_strew_4 rfl rfl ?_
  refine q_aald5 (b := (60 + 2 * y)) (q := 6) dX1_strew_5 rfl rfl (vp_in_nI hy8 (by decide)) (by rw [nI_clamp (by omega)]; exact (gy_w hy8 _).1) ?_
  refine x_dup (q := 7) dX1_strew_6 rfl rfl ?_
  refine q_gi (K := 4) (q := 10) dX1_strew_7 rfl cl_4 (by decide) tw_408 (gy_w hy8 r).2 rfl ?_
  refine x_iload_n (q := 11) dX1_strew_10 rfl rfl ?_
  refine x_iadd (q := 12) dX1_strew_11 rfl ?_
  refine q_pi (K := 4) (q := 15) dX1_strew_12 rfl cl_4 (by decide) tw_408 rfl rfl (gy_w hy8 r).2 rfl (fun I1 eI1 => ?_)
  refine x_aload_n (q := 16) dX1_strew_15 rfl rfl ?_
  refine x_dup (q := 17) dX1_strew_16 rfl rfl ?_
  refine q_gi (K := 4) (q := 20) dX1_strew_17 rfl cl_1 (by decide) tw_434 rfl rfl ?_
  refine x_iload_n (q := 21) dX1_strew_20 rfl rfl ?_
  refine x_isub (q := 22) dX1_strew_21 rfl ?_
  refine q_pi (K := 4) (q := 25) dX1_strew_22 rfl cl_1 (by decide) tw_434 rfl rfl rfl rfl (fun I2 eI2 => ?_)
  refine q_vret dX1_strew_25 rfl ?_
  refine ⟨rfl, ?_, rfl, rfl⟩
  subst_vars
  rw [upcj (by omega)]
set_option maxRecDepth 100000 in
theorem c_Xspread_g {I : MI} {b yn wn hn sn st : Nat} {r : MR} (J : MJ) (hr : RefOk r b) (h : RelL I b yn wn hn sn st) {y : Nat} (hy : y < yn) {x : Int32} (hx : sprOk (I 58 4) x) : Cq yX11_spread MX11_spread [.ref 0, .int (nI y), .int x] I r J (Rt (some (.int (I 58 4 - x))) (upI (upI I (60 + 2 * y) 4 (I (60 + 2 * y) 4 + x)) 58 4 (I 58 4 - x)) r J) := by
  have hb0 : SH (r 0) = (15, 18) := by rw [hr.1]; exact (refs_L hr).1
  have h8 : yn ≤ 8 := h.1.2.2.1
  have ey : I (r 0) 1 = nI yn := by rw [hr.1]; exact h.1.2.1
  have em : I 100 41 = nI yn := h.2.2.1.1
  have hb28 := (refs_L hr).2
  have hb := (refs_L hr).1
  refine cq_of [some (.ref 0), some (.int (nI y)), some (.int x)] 0 (by decide +kernel) rfl rfl (Nat.le_of_ble_eq_true rfl) rfl ?_
  refine x_aload_n (q := 1) dX11_spread_0 rfl rfl ?_
  refine x_iload_n (q := 2) dX11_spread_1 rfl rfl ?_
  refine q_callV (ci := 11) (N := 14) (T := TX11) (As := [.int (nI y)]) (rest := []) (q := 5) dX11_spread_2 rfl okX11_isYard tw_811 rfl rfl (c_isYard_g I r J hb0 ey h8 hy) rfl rfl (Nat.le_of_ble_eq_true rfl) ⟨by decide, by decide⟩ ⟨rfl, rfl⟩ (fun rv_ I_ r_ J_ hv_ => ?_)
  obtain ⟨a1_, a2_, a3_, a4_⟩ := hv_
  rw [a1_, a2_, a3_, a4_]
  show Wq MX11_spread 5 [some (.ref 0), some (.int (nI y)), some (.int x)] [.int 1] I r J _
  refine x_if_eq (t := 30) (q := 8) dX11_spread_5 (by decide) rfl (fun c5 => absurd c5 ((by decide))) (fun c5 => ?_)
  refine x_iload_n (q := 9) dX11_spread_8 rfl rfl ?_
  refine x_iconst (1) (q := 10) dX11_spread_9 rfl (by decide) ?_
  refine x_icmp_lt (t := 30) (q := 13) dX11_spread_10 (by decide) rfl (fun c10 => absurd c10 (Int32.not_lt.mpr hx.1)) (fun c10 => ?_)
  refine x_iload_n (q := 14) dX11_spread_13 rfl rfl ?_
  refine x_bipush (99) (q := 16) dX11_spread_14 rfl (by decide) ?_
  refine x_icmp_gt (t := 30) (q := 19) dX11_spread_16 (by decide) rfl (fun c16 => absurd c16 (Int32.not_lt.mpr hx.2.1)) (fun c16 => ?_)
  refine x_iload_n (q := 20) dX11_spread_19 rfl rfl ?_
  refine x_aload_n (q := 21) dX11_spread_20 rfl rfl ?_
  refine q_gr (K := 5) (b := 58) (q := 24) dX11_spread_21 rfl cl_11 (by decide) tw_572 rfl rfl rfl ?_
  refine q_gi (K := 4) (q := 27) dX11_spread_24 rfl cl_1 (by decide) tw_435 rfl rfl ?_
  refine x_icmp_le (t := 32) (q := 30) dX11_spread_27 (by decide) rfl (fun c27 => ?_) (fun c27 => absurd c27 (fun q => q hx.2.2))
  refine x_aload_n (q := 33) dX11_spread_32 rfl rfl ?_
  refine q_gr (K := 5) (b := 58) (q := 36) dX11_spread_33 rfl cl_11 (by decide) tw_572 rfl rfl rfl ?_
  refine x_iload_n (q := 37) dX11_spread_36 rfl rfl ?_
  refine x_iload_n (q := 38) dX11_spread_37 rfl rfl ?_
  refine q_callV (ci := 1) (N := 5) (T := TX1) (As := [.int (nI y), .int x]) (rest := []) (q := 41) dX11_spread_38 rfl okX1_strew tw_815 rfl rfl (c_strew (by omega) x r J) rfl rfl (Nat.le_of_ble_eq_true rfl) ⟨by decide, by decide⟩ ⟨rfl, rfl⟩ (fun rv_ I_ r_ J_ hv_ => ?_)
  obtain ⟨a1_, a2_, a3_, a4_⟩ := hv_
  rw [a1_, a2_, a3_, a4_]
  show Wq MX11_spread 41 [some (.ref 0), some (.int (nI y)), some (.int x)] [] (upI (upI I (60 + 2 * y) 4 (I (60 + 2 * y) 4 + x)) 58 4 (I 58 4 - x)) r J _
  refine x_aload_n (q := 42) dX11_spread_41 rfl rfl ?_
  refine q_gr (K := 5) (b := 58) (q := 45) dX11_spread_42 rfl cl_11 (by decide) tw_572 rfl rfl rfl ?_
  refine q_gi (K := 4) (q := 48) dX11_spread_45 rfl cl_1 (by decide) tw_435 rfl rfl ?_
  refine q_iret dX11_spread_48 rfl ?_
  rw [upq]
  exact ⟨rfl, rfl, rfl, rfl⟩
set_option maxRecDepth 100000 in
theorem c_Xspread_1 {I : MI} {b yn wn hn sn st : Nat} {r : MR} (J : MJ) (hr : RefOk r b) (h : RelL I b yn wn hn sn st) {x z : Int32} (hno : ¬ ∃ k, k < yn ∧ x = nI k) : Cq yX11_spread MX11_spread [.ref 0, .int x, .int z] I r J (Rt (some (.int (-1))) I r J) := by
  have hb0 : SH (r 0) = (15, 18) := by rw [hr.1]; exact (refs_L hr).1
  have h8 : yn ≤ 8 := h.1.2.2.1
  have ey : I (r 0) 1 = nI yn := by rw [hr.1]; exact h.1.2.1
  have em : I 100 41 = nI yn := h.2.2.1.1
  have hb28 := (refs_L hr).2
  have hb := (refs_L hr).1
  refine cq_of [some (.ref 0), some (.int x), some (.int z)] 0 (by decide +kernel) rfl rfl (Nat.le_of_ble_eq_true rfl) rfl ?_
  refine x_aload_n (q := 1) dX11_spread_0 rfl rfl ?_
  refine x_iload_n (q := 2) dX11_spread_1 rfl rfl ?_
  refine q_callV (ci := 11) (N := 14) (T := TX11) (As := [.int x]) (rest := []) (q := 5) dX11_spread_2 rfl okX11_isYard tw_811 rfl rfl (c_isYard_b I r J hb0 ey h8 hno) rfl rfl (Nat.le_of_ble_eq_true rfl) ⟨by decide, by decide⟩ ⟨rfl, rfl⟩ (fun rv_ I_ r_ J_ hv_ => ?_)
  obtain ⟨a1_, a2_, a3_, a4_⟩ := hv_
  rw [a1_, a2_, a3_, a4_]
  show Wq MX11_spread 5 [some (.ref 0), some (.int x), some (.int z)] [.int 0] I r J _
  refine x_if_eq (t := 30) (q := 8) dX11_spread_5 (by decide) rfl (fun c5 => ?_) (fun c5 => absurd c5 ((by decide)))
  refine x_iconst (-1) (q := 31) dX11_spread_30 rfl (by decide) ?_
  refine q_iret dX11_spread_31 rfl ?_
  exact ⟨rfl, rfl, rfl, rfl⟩
set_option maxRecDepth 100000 in
theorem c_Xspread_2 {I : MI} {b yn wn hn sn st : Nat} {r : MR} (J : MJ) (hr : RefOk r b) (h : RelL I b yn wn hn sn st) {y : Nat} (hy : y < yn) {x : Int32} (hx : ¬ sprOk (I 58 4) x) : Cq yX11_spread MX11_spread [.ref 0, .int (nI y), .int x] I r J (Rt (some (.int (-1))) I r J) := by
  have hb0 : SH (r 0) = (15, 18) := by rw [hr.1]; exact (refs_L hr).1
  have h8 : yn ≤ 8 := h.1.2.2.1
  have ey : I (r 0) 1 = nI yn := by rw [hr.1]; exact h.1.2.1
  have em : I 100 41 = nI yn := h.2.2.1.1
  have hb28 := (refs_L hr).2
  have hb := (refs_L hr).1
  refine cq_of [some (.ref 0), some (.int (nI y)), some (.int x)] 0 (by decide +kernel) rfl rfl (Nat.le_of_ble_eq_true rfl) rfl ?_
  refine x_aload_n (q := 1) dX11_spread_0 rfl rfl ?_
  refine x_iload_n (q := 2) dX11_spread_1 rfl rfl ?_
  refine q_callV (ci := 11) (N := 14) (T := TX11) (As := [.int (nI y)]) (rest := []) (q := 5) dX11_spread_2 rfl okX11_isYard tw_811 rfl rfl (c_isYard_g I r J hb0 ey h8 hy) rfl rfl (Nat.le_of_ble_eq_true rfl) ⟨by decide, by decide⟩ ⟨rfl, rfl⟩ (fun rv_ I_ r_ J_ hv_ => ?_)
  obtain ⟨a1_, a2_, a3_, a4_⟩ := hv_
  rw [a1_, a2_, a3_, a4_]
  show Wq MX11_spread 5 [some (.ref 0), some (.int (nI y)), some (.int x)] [.int 1] I r J _
  refine x_if_eq (t := 30) (q := 8) dX11_spread_5 (by decide) rfl (fun c5 => absurd c5 ((by decide))) (fun c5 => ?_)
  refine x_iload_n (q := 9) dX11_spread_8 rfl rfl ?_
  refine x_iconst (1) (q := 10) dX11_spread_9 rfl (by decide) ?_
  refine x_icmp_lt (t := 30) (q := 13) dX11_spread_10 (by decide) rfl (fun c10 => ?_) (fun c10 => ?_)
  · refine x_iconst (-1) (q := 31) dX11_spread_30 rfl (by decide) ?_
    refine q_iret dX11_spread_31 rfl ?_
    exact ⟨rfl, rfl, rfl, rfl⟩
  · refine x_iload_n (q := 14) dX11_spread_13 rfl rfl ?_
    refine x_bipush (99) (q := 16) dX11_spread_14 rfl (by decide) ?_
    refine x_icmp_gt (t := 30) (q := 19) dX11_spread_16 (by decide) rfl (fun c16 => ?_) (fun c16 => ?_)
    · refine x_iconst (-1) (q := 31) dX11_spread_30 rfl (by decide) ?_
      refine q_iret dX11_spread_31 rfl ?_
      exact ⟨rfl, rfl, rfl, rfl⟩
    · refine x_iload_n (q := 20) dX11_spread_19 rfl rfl ?_
      refine x_aload_n (q := 21) dX11_spread_20 rfl rfl ?_
      refine q_gr (K := 5) (b := 58) (q := 24) dX11_spread_21 rfl cl_11 (by decide) tw_572 rfl rfl rfl ?_
      refine q_gi (K := 4) (q := 27) dX11_spread_24 rfl cl_1 (by decide) tw_435 rfl rfl ?_
      refine x_icmp_le (t := 32) (q := 30) dX11_spread_27 (by decide) rfl (fun c27 => ?_) (fun c27 => ?_)
      · exact absurd ⟨Int32.not_lt.mp c10, Int32.not_lt.mp c16, c27⟩ hx
      · refine x_iconst (-1) (q := 31) dX11_spread_30 rfl (by decide) ?_
        refine q_iret dX11_spread_31 rfl ?_
        exact ⟨rfl, rfl, rfl, rfl⟩
set_option maxRecDepth 100000 in
theorem c_Mspread_g {I : MI} {b yn wn hn sn st : Nat} {r : MR} (J : MJ) (hr : RefOk r b) (h : RelL I b yn wn hn sn st) {y : Nat} (hy : y < yn) {x : Int32} (hx : sprOk (I 100 57) x) : Cq yX12_spread MX12_spread [.ref 100, .int (nI y), .int x] I r J (Rt (some (.int (I 100 57 - x))) (upI (upI I 127 (4 * y + 3) (I 127 (4 * y + 3) + x)) 100 57 (I 100 57 - x)) r J) := by
  have hb0 : SH (r 0) = (15, 18) := by rw [hr.1]; exact (refs_L hr).1
  have h8 : yn ≤ 8 := h.1.2.2.1
  have ey : I (r 0) 1 = nI yn := by rw [hr.1]; exact h.1.2.1
  have em : I 100 41 = nI yn := h.2.2.1.1
  have hb28 := (refs_L hr).2
  have hb := (refs_L hr).1
  refine cq_of [some (.ref 100), some (.int (nI y)), some (.int x)] 0 (by decide +kernel) rfl rfl (Nat.le_of_ble_eq_true rfl) rfl ?_
  refine x_aload_n (q := 1) dX12_spread_0 rfl rfl ?_
  refine x_iload_n (q := 2) dX12_spread_1 rfl rfl ?_
  refine q_callV (ci := 12) (N := 79) (T := TX12) (As := [.int (nI y)]) (rest := []) (q := 5) dX12_spread_2 rfl okX12_isYard tw_1485 rfl rfl (c_mYard_g I r J em h8 hy) rfl rfl (Nat.le_of_ble_eq_true rfl) ⟨by decide, by decide⟩ ⟨rfl, rfl⟩ (fun rv_ I_ r_ J_ hv_ => ?_)
  obtain ⟨a1_, a2_, a3_, a4_⟩ := hv_
  rw [a1_, a2_, a3_, a4_]
  show Wq MX12_spread 5 [some (.ref 100), some (.int (nI y)), some (.int x)] [.int 1] I r J _
  refine x_if_eq (t := 26) (q := 8) dX12_spread_5 (by decide) rfl (fun c5 => absurd c5 ((by decide))) (fun c5 => ?_)
  refine x_iload_n (q := 9) dX12_spread_8 rfl rfl ?_
  refine x_iconst (1) (q := 10) dX12_spread_9 rfl (by decide) ?_
  refine x_bipush (99) (q := 12) dX12_spread_10 rfl (by decide) ?_
  refine q_callS (As := [.int x, .int 1, .int 99]) (rest := []) (q := 15) dX12_spread_12 rfl okX12_isIn tw_1450 (c_isIn_g I r J hx.1 hx.2.1) rfl rfl (Nat.le_of_ble_eq_true rfl) ⟨by decide, by decide⟩ ⟨rfl, rfl⟩ (fun rv_ I_ r_ J_ hv_ => ?_)
  obtain ⟨a1_, a2_, a3_, a4_⟩ := hv_
  rw [a1_, a2_, a3_, a4_]
  show Wq MX12_spread 15 [some (.ref 100), some (.int (nI y)), some (.int x)] [.int 1] I r J _
  refine x_if_eq (t := 26) (q := 18) dX12_spread_15 (by decide) rfl (fun c15 => absurd c15 ((by decide))) (fun c15 => ?_)
  refine x_iload_n (q := 19) dX12_spread_18 rfl rfl ?_
  refine x_aload_n (q := 20) dX12_spread_19 rfl rfl ?_
  refine q_gi (K := 57) (q := 23) dX12_spread_20 rfl cl_12 (by decide) tw_1139 rfl rfl ?_
  refine x_icmp_le (t := 28) (q := 26) dX12_spread_23 (by decide) rfl (fun c23 => ?_) (fun c23 => absurd c23 (fun q => q hx.2.2))
  refine x_aload_n (q := 29) dX12_spread_28 rfl rfl ?_
  refine q_gr (K := 54) (b := 127) (q := 32) dX12_spread_29 rfl cl_12 (by decide) tw_1136 rfl rfl rfl ?_
  refine x_iconst (4) (q := 33) dX12_spread_32 rfl (by decide) ?_
  refine x_iload_n (q := 34) dX12_spread_33 rfl rfl ?_
  refine x_imul (q := 35) dX12_spread_34 rfl ?_
  refine x_iconst (3) (q := 36) dX12_spread_35 rfl (by decide) ?_
  refine x_iadd (q := 37) dX12_spread_36 rfl ?_
  refine x_dup2 (q := 38) dX12_spread_37 rfl rfl rfl ?_
  refine q_iald (q := 39) dX12_spread_38 rfl rfl (by rw [nI4, nI_p3]; exact vp_in_nI (by omega) (by decide)) ?_
  refine x_iload_n (q := 40) dX12_spread_39 rfl rfl ?_
  refine x_iadd (q := 41) dX12_spread_40 rfl ?_
  refine q_iast (q := 42) dX12_spread_41 rfl rfl (by rw [nI4, nI_p3]; exact vp_in_nI (by omega) (by decide)) (fun I1 eI1 => ?_)
  refine x_aload_n (q := 43) dX12_spread_42 rfl rfl ?_
  refine x_dup (q := 44) dX12_spread_43 rfl rfl ?_
  refine q_gi (K := 57) (q := 47) dX12_spread_44 rfl cl_12 (by decide) tw_1139 rfl rfl ?_
  refine x_iload_n (q := 48) dX12_spread_47 rfl rfl ?_
  refine x_isub (q := 49) dX12_spread_48 rfl ?_
  refine q_pi (K := 57) (q := 52) dX12_spread_49 rfl cl_12 (by decide) tw_1139 rfl rfl rfl rfl (fun I2 eI2 => ?_)
  refine x_aload_n (q := 53) dX12_spread_52 rfl rfl ?_
  refine q_gi (K := 57) (q := 56) dX12_spread_53 rfl cl_12 (by decide) tw_1139 rfl rfl ?_
  refine q_iret dX12_spread_56 rfl ?_
  subst_vars
  rw [nI4, nI_p3, nI_clamp (by omega)]
  refine ⟨?_, ?_, rfl, rfl⟩
  · rw [upq, upcj (by decide)]
  · rw [upcj (by decide)]
set_option maxRecDepth 100000 in
theorem c_Mspread_1 {I : MI} {b yn wn hn sn st : Nat} {r : MR} (J : MJ) (hr : RefOk r b) (h : RelL I b yn wn hn sn st) {x z : Int32} (hno : ¬ ∃ k, k < yn ∧ x = nI k) : Cq yX12_spread MX12_spread [.ref 100, .int x, .int z] I r J (Rt (some (.int (-1))) I r J) := by
  have hb0 : SH (r 0) = (15, 18) := by rw [hr.1]; exact (refs_L hr).1
  have h8 : yn ≤ 8 := h.1.2.2.1
  have ey : I (r 0) 1 = nI yn := by rw [hr.1]; exact h.1.2.1
  have em : I 100 41 = nI yn := h.2.2.1.1
  have hb28 := (refs_L hr).2
  have hb := (refs_L hr).1
  refine cq_of [some (.ref 100), some (.int x), some (.int z)] 0 (by decide +kernel) rfl rfl (Nat.le_of_ble_eq_true rfl) rfl ?_
  refine x_aload_n (q := 1) dX12_spread_0 rfl rfl ?_
  refine x_iload_n (q := 2) dX12_spread_1 rfl rfl ?_
  refine q_callV (ci := 12) (N := 79) (T := TX12) (As := [.int x]) (rest := []) (q := 5) dX12_spread_2 rfl okX12_isYard tw_1485 rfl rfl (c_mYard_b I r J em h8 hno) rfl rfl (Nat.le_of_ble_eq_true rfl) ⟨by decide, by decide⟩ ⟨rfl, rfl⟩ (fun rv_ I_ r_ J_ hv_ => ?_)
  obtain ⟨a1_, a2_, a3_, a4_⟩ := hv_
  rw [a1_, a2_, a3_, a4_]
  show Wq MX12_spread 5 [some (.ref 100), some (.int x), some (.int z)] [.int 0] I r J _
  refine x_if_eq (t := 26) (q := 8) dX12_spread_5 (by decide) rfl (fun c5 => ?_) (fun c5 => absurd c5 ((by decide)))
  refine x_iconst (-1) (q := 27) dX12_spread_26 rfl (by decide) ?_
  refine q_iret dX12_spread_27 rfl ?_
  exact ⟨rfl, rfl, rfl, rfl⟩
set_option maxRecDepth 100000 in
theorem c_Mspread_2 {I : MI} {b yn wn hn sn st : Nat} {r : MR} (J : MJ) (hr : RefOk r b) (h : RelL I b yn wn hn sn st) {y : Nat} (hy : y < yn) {x : Int32} (hx : ¬ ((1 : Int32) ≤ x ∧ x ≤ 99)) : Cq yX12_spread MX12_spread [.ref 100, .int (nI y), .int x] I r J (Rt (some (.int (-1))) I r J) := by
  have hb0 : SH (r 0) = (15, 18) := by rw [hr.1]; exact (refs_L hr).1
  have h8 : yn ≤ 8 := h.1.2.2.1
  have ey : I (r 0) 1 = nI yn := by rw [hr.1]; exact h.1.2.1
  have em : I 100 41 = nI yn := h.2.2.1.1
  have hb28 := (refs_L hr).2
  have hb := (refs_L hr).1
  refine cq_of [some (.ref 100), some (.int (nI y)), some (.int x)] 0 (by decide +kernel) rfl rfl (Nat.le_of_ble_eq_true rfl) rfl ?_
  refine x_aload_n (q := 1) dX12_spread_0 rfl rfl ?_
  refine x_iload_n (q := 2) dX12_spread_1 rfl rfl ?_
  refine q_callV (ci := 12) (N := 79) (T := TX12) (As := [.int (nI y)]) (rest := []) (q := 5) dX12_spread_2 rfl okX12_isYard tw_1485 rfl rfl (c_mYard_g I r J em h8 hy) rfl rfl (Nat.le_of_ble_eq_true rfl) ⟨by decide, by decide⟩ ⟨rfl, rfl⟩ (fun rv_ I_ r_ J_ hv_ => ?_)
  obtain ⟨a1_, a2_, a3_, a4_⟩ := hv_
  rw [a1_, a2_, a3_, a4_]
  show Wq MX12_spread 5 [some (.ref 100), some (.int (nI y)), some (.int x)] [.int 1] I r J _
  refine x_if_eq (t := 26) (q := 8) dX12_spread_5 (by decide) rfl (fun c5 => absurd c5 ((by decide))) (fun c5 => ?_)
  refine x_iload_n (q := 9) dX12_spread_8 rfl rfl ?_
  refine x_iconst (1) (q := 10) dX12_spread_9 rfl (by decide) ?_
  refine x_bipush (99) (q := 12) dX12_spread_10 rfl (by decide) ?_
  refine q_callS (As := [.int x, .int 1, .int 99]) (rest := []) (q := 15) dX12_spread_12 rfl okX12_isIn tw_1450 (c_isIn_b I r J hx) rfl rfl (Nat.le_of_ble_eq_true rfl) ⟨by decide, by decide⟩ ⟨rfl, rfl⟩ (fun rv_ I_ r_ J_ hv_ => ?_)
  obtain ⟨a1_, a2_, a3_, a4_⟩ := hv_
  rw [a1_, a2_, a3_, a4_]
  show Wq MX12_spread 15 [some (.ref 100), some (.int (nI y)), some (.int x)] [.int 0] I r J _
  refine x_if_eq (t := 26) (q := 18) dX12_spread_15 (by decide) rfl (fun c15 => ?_) (fun c15 => absurd c15 ((by decide)))
  refine x_iconst (-1) (q := 27) dX12_spread_26 rfl (by decide) ?_
  refine q_iret dX12_spread_27 rfl ?_
  exact ⟨rfl, rfl, rfl, rfl⟩
set_option maxRecDepth 100000 in
theorem c_Mspread_3 {I : MI} {b yn wn hn sn st : Nat} {r : MR} (J : MJ) (hr : RefOk r b) (h : RelL I b yn wn hn sn st) {y : Nat} (hy : y < yn) {x : Int32} (h1 : (1 : Int32) ≤ x ∧ x ≤ 99) (hx : ¬ x ≤ I 100 57) : Cq yX12_spread MX12_spread [.ref 100, .int (nI y), .int x] I r J (Rt (some (.int (-1))) I r J) := by
  have hb0 : SH (r 0) = (15, 18) := by rw [hr.1]; exact (refs_L hr).1
  have h8 : yn ≤ 8 := h.1.2.2.1
  have ey : I (r 0) 1 = nI yn := by rw [hr.1]; exact h.1.2.1
  have em : I 100 41 = nI yn := h.2.2.1.1
  have hb28 := (refs_L hr).2
  have hb := (refs_L hr).1
  refine cq_of [some (.ref 100), some (.int (nI y)), some (.int x)] 0 (by decide +kernel) rfl rfl (Nat.le_of_ble_eq_true rfl) rfl ?_
  refine x_aload_n (q := 1) dX12_spread_0 rfl rfl ?_
  refine x_iload_n (q := 2) dX12_spread_1 rfl rfl ?_
  refine q_callV (ci := 12) (N := 79) (T := TX12) (As := [.int (nI y)]) (rest := []) (q := 5) dX12_spread_2 rfl okX12_isYard tw_1485 rfl rfl (c_mYard_g I r J em h8 hy) rfl rfl (Nat.le_of_ble_eq_true rfl) ⟨by decide, by decide⟩ ⟨rfl, rfl⟩ (fun rv_ I_ r_ J_ hv_ => ?_)
  obtain ⟨a1_, a2_, a3_, a4_⟩ := hv_
  rw [a1_, a2_, a3_, a4_]
  show Wq MX12_spread 5 [some (.ref 100), some (.int (nI y)), some (.int x)] [.int 1] I r J _
  refine x_if_eq (t := 26) (q := 8) dX12_spread_5 (by decide) rfl (fun c5 => absurd c5 ((by decide))) (fun c5 => ?_)
  refine x_iload_n (q := 9) dX12_spread_8 rfl rfl ?_
  refine x_iconst (1) (q := 10) dX12_spread_9 rfl (by decide) ?_
  refine x_bipush (99) (q := 12) dX12_spread_10 rfl (by decide) ?_
  refine q_callS (As := [.int x, .int 1, .int 99]) (rest := []) (q := 15) dX12_spread_12 rfl okX12_isIn tw_1450 (c_isIn_g I r J h1.1 h1.2) rfl rfl (Nat.le_of_ble_eq_true rfl) ⟨by decide, by decide⟩ ⟨rfl, rfl⟩ (fun rv_ I_ r_ J_ hv_ => ?_)
  obtain ⟨a1_, a2_, a3_, a4_⟩ := hv_
  rw [a1_, a2_, a3_, a4_]
  show Wq MX12_spread 15 [some (.ref 100), some (.int (nI y)), some (.int x)] [.int 1] I r J _
  refine x_if_eq (t := 26) (q := 18) dX12_spread_15 (by decide) rfl (fun c15 => absurd c15 ((by decide))) (fun c15 => ?_)
  refine x_iload_n (q := 19) dX12_spread_18 rfl rfl ?_
  refine x_aload_n (q := 20) dX12_spread_19 rfl rfl ?_
  refine q_gi (K := 57) (q := 23) dX12_spread_20 rfl cl_12 (by decide) tw_1139 rfl rfl ?_
  refine x_icmp_le (t := 28) (q := 26) dX12_spread_23 (by decide) rfl (fun c23 => absurd c23 hx) (fun c23 => ?_)
  refine x_iconst (-1) (q := 27) dX12_spread_26 rfl (by decide) ?_
  refine q_iret dX12_spread_27 rfl ?_
  exact ⟨rfl, rfl, rfl, rfl⟩
set_option maxRecDepth 100000 in
theorem c_Mspread_g' {I : MI} {yn y : Nat} (r : MR) (J : MJ) (em : I 100 41 = nI yn) (h8 : yn ≤ 8) (hy : y < yn) {x : Int32} (hx : sprOk (I 100 57) x) : Cq yX12_spread MX12_spread [.ref 100, .int (nI y), .int x] I r J (Rt (some (.int (I 100 57 - x))) (upI (upI I 127 (4 * y + 3) (I 127 (4 * y + 3) + x)) 100 57 (I 100 57 - x)) r J) := by
  refine cq_of [some (.ref 100), some (.int (nI y)), some (.int x)] 0 (by decide +kernel) rfl rfl (Nat.le_of_ble_eq_true rfl) rfl ?_
  refine x_aload_n (q := 1) dX12_spread_0 rfl rfl ?_
  refine x_iload_n (q := 2) dX12_spread_1 rfl rfl ?_
  refine q_callV (ci := 12) (N := 79) (T := TX12) (As := [.int (nI y)]) (rest := []) (q := 5) dX12_spread_2 rfl okX12_isYard tw_1485 rfl rfl (c_mYard_g I r J em h8 hy) rfl rfl (Nat.le_of_ble_eq_true rfl) ⟨by decide, by decide⟩ ⟨rfl, rfl⟩ (fun rv_ I_ r_ J_ hv_ => ?_)
  obtain ⟨a1_, a2_, a3_, a4_⟩ := hv_
  rw [a1_, a2_, a3_, a4_]
  show Wq MX12_spread 5 [some (.ref 100), some (.int (nI y)), some (.int x)] [.int 1] I r J _
  refine x_if_eq (t := 26) (q := 8) dX12_spread_5 (by decide) rfl (fun c5 => absurd c5 ((by decide))) (fun c5 => ?_)
  refine x_iload_n (q := 9) dX12_spread_8 rfl rfl ?_
  refine x_iconst (1) (q := 10) dX12_spread_9 rfl (by decide) ?_
  refine x_bipush (99) (q := 12) dX12_spread_10 rfl (by decide) ?_
  refine q_callS (As := [.int x, .int 1, .int 99]) (rest := []) (q := 15) dX12_spread_12 rfl okX12_isIn tw_1450 (c_isIn_g I r J hx.1 hx.2.1) rfl rfl (Nat.le_of_ble_eq_true rfl) ⟨by decide, by decide⟩ ⟨rfl, rfl⟩ (fun rv_ I_ r_ J_ hv_ => ?_)
  obtain ⟨a1_, a2_, a3_, a4_⟩ := hv_
  rw [a1_, a2_, a3_, a4_]
  show Wq MX12_spread 15 [some (.ref 100), some (.int (nI y)), some (.int x)] [.int 1] I r J _
  refine x_if_eq (t := 26) (q := 18) dX12_spread_15 (by decide) rfl (fun c15 => absurd c15 ((by decide))) (fun c15 => ?_)
  refine x_iload_n (q := 19) dX12_spread_18 rfl rfl ?_
  refine x_aload_n (q := 20) dX12_spread_19 rfl rfl ?_
  refine q_gi (K := 57) (q := 23) dX12_spread_20 rfl cl_12 (by decide) tw_1139 rfl rfl ?_
  refine x_icmp_le (t := 28) (q := 26) dX12_spread_23 (by decide) rfl (fun c23 => ?_) (fun c23 => absurd c23 (fun q => q hx.2.2))
  refine x_aload_n (q := 29) dX12_spread_28 rfl rfl ?_
  refine q_gr (K := 54) (b := 127) (q := 32) dX12_spread_29 rfl cl_12 (by decide) tw_1136 rfl rfl rfl ?_
  refine x_iconst (4) (q := 33) dX12_spread_32 rfl (by decide) ?_
  refine x_iload_n (q := 34) dX12_spread_33 rfl rfl ?_
  refine x_imul (q := 35) dX12_spread_34 rfl ?_
  refine x_iconst (3) (q := 36) dX12_spread_35 rfl (by decide) ?_
  refine x_iadd (q := 37) dX12_spread_36 rfl ?_
  refine x_dup2 (q := 38) dX12_spread_37 rfl rfl rfl ?_
  refine q_iald (q := 39) dX12_spread_38 rfl rfl (by rw [nI4, nI_p3]; exact vp_in_nI (by omega) (by decide)) ?_
  refine x_iload_n (q := 40) dX12_spread_39 rfl rfl ?_
  refine x_iadd (q := 41) dX12_spread_40 rfl ?_
  refine q_iast (q := 42) dX12_spread_41 rfl rfl (by rw [nI4, nI_p3]; exact vp_in_nI (by omega) (by decide)) (fun I1 eI1 => ?_)
  refine x_aload_n (q := 43) dX12_spread_42 rfl rfl ?_
  refine x_dup (q := 44) dX12_spread_43 rfl rfl ?_
  refine q_gi (K := 57) (q := 47) dX12_spread_44 rfl cl_12 (by decide) tw_1139 rfl rfl ?_
  refine x_iload_n (q := 48) dX12_spread_47 rfl rfl ?_
  refine x_isub (q := 49) dX12_spread_48 rfl ?_
  refine q_pi (K := 57) (q := 52) dX12_spread_49 rfl cl_12 (by decide) tw_1139 rfl rfl rfl rfl (fun I2 eI2 => ?_)
  refine x_aload_n (q := 53) dX12_spread_52 rfl rfl ?_
  refine q_gi (K := 57) (q := 56) dX12_spread_53 rfl cl_12 (by decide) tw_1139 rfl rfl ?_
  refine q_iret dX12_spread_56 rfl ?_
  subst_vars
  rw [nI4, nI_p3, nI_clamp (by omega)]
  refine ⟨?_, ?_, rfl, rfl⟩
  · rw [upq, upcj (by decide)]
  · rw [upcj (by decide)]
theorem op_spread (x z : Int32) : OpOk yX11_spread MX11_spread yX12_spread MX12_spread [.int x, .int z] := by
  intro I r J hrel
  have hre2 := hrel
  obtain ⟨b, yn, wn, hn, sn, st, hr, hl, hR, hJ⟩ := hrel
  have hb := (refs_L hr).2
  have h8 : yn ≤ 8 := hl.1.2.2.1
  by_cases h1 : ∃ k, k < yn ∧ x = nI k
  · obtain ⟨y, hy, rfl⟩ := h1
    obtain ⟨d1, d2, d3, d4, d5, d6, d7, d8⟩ := hl.2.2.2.2.1
    by_cases hx : sprOk (I 58 4) z
    · refine op_put (I1 := upI (upI I (60 + 2 * y) 4 (I (60 + 2 * y) 4 + z)) 58 4 (I 58 4 - z)) (I2 := upI (upI (upI (upI I (60 + 2 * y) 4 (I (60 + 2 * y) 4 + z)) 58 4 (I 58 4 - z)) 127 (4 * y + 3) (I 127 (4 * y + 3) + z)) 100 57 (I 58 4 - z)) (res := I 58 4 - z) (c_Xspread_g J hr hl hy hx) ?_ ?_
      · have hk : I 100 57 = I 58 4 := d6
        -- the model's guards look at the model's cells alone
        have e1 : upI (upI I (60 + 2 * y) 4 (I (60 + 2 * y) 4 + z)) 58 4 (I 58 4 - z) 100 = I 100 := by rw [upc (by decide), upc (by omega)]
        have e2 : upI (upI I (60 + 2 * y) 4 (I (60 + 2 * y) 4 + z)) 58 4 (I 58 4 - z) 127 = I 127 := by rw [upc (by decide), upc (by omega)]
        have k := c_Mspread_g' (I := upI (upI I (60 + 2 * y) 4 (I (60 + 2 * y) 4 + z)) 58 4 (I 58 4 - z)) (yn := yn) r J (by rw [e1]; exact hl.2.2.1.1) h8 hy (x := z) (by rw [e1, hk]; exact hx)
        rw [e1, e2, hk] at k
        exact k
      · generalize hI2 : upI (upI (upI (upI I (60 + 2 * y) 4 (I (60 + 2 * y) 4 + z)) 58 4 (I 58 4 - z)) 127 (4 * y + 3) (I 127 (4 * y + 3) + z)) 100 57 (I 58 4 - z) = I2
        have fr : ∀ c j, ¬ (c = 60 + 2 * y ∧ j = 4) → ¬ (c = 58 ∧ j = 4) → ¬ (c = 127 ∧ j = 4 * y + 3) → ¬ (c = 100 ∧ j = 57) → I2 c j = I c j := fun c j q1 q2 q3 q4 => by
          rw [← hI2]
          unfold upI
          rw [if_neg q4, if_neg q3, if_neg q2, if_neg q1]
        have frc : ∀ c, ¬ c = 60 + 2 * y → ¬ c = 58 → ¬ c = 127 → ¬ c = 100 → I2 c = I c := fun c q1 q2 q3 q4 => funext fun j => fr c j (fun e => q1 e.1) (fun e => q2 e.1) (fun e => q3 e.1) (fun e => q4 e.1)
        have v1 : I2 (60 + 2 * y) 4 = I (60 + 2 * y) 4 + z := by
          rw [← hI2, upcj (by omega), upcj (by omega), upcj (by omega), upq]
        have v2 : I2 58 4 = I 58 4 - z := by rw [← hI2, upcj (by decide), upcj (by decide), upq]
        have v3 : I2 127 (4 * y + 3) = I 127 (4 * y + 3) + z := by rw [← hI2, upcj (by decide), upq]
        have v4 : I2 100 57 = I 58 4 - z := by rw [← hI2, upq]
        obtain ⟨x1, x2, x3⟩ := hx
        have x1' := Int32.le_iff_toInt_le.mp x1
        have x2' := Int32.le_iff_toInt_le.mp x2
        have x3' := Int32.le_iff_toInt_le.mp x3
        have k1 : (1 : Int32).toInt = 1 := by decide
        have k2 : (99 : Int32).toInt = 99 := by decide
        rw [k1] at x1'
        rw [k2] at x2'
        have es : (I 58 4 - z).toInt = (I 58 4).toInt - z.toInt := Kit.i32_sub (by have := d7.1; omega) (by have := d7.2; omega)
        have hx3 : (I 58 4).toInt ≤ 9999 := d7.2
        have hx4 : 0 ≤ (I 58 4).toInt := d7.1
        refine ⟨b, yn, wn, hn, sn, st, hr, ?_, ?_, hJ⟩
        · refine RelL_d (fun c q1 q2 => frc c (by unfold regL regM at q2; omega) (by unfold regL regM at q2; omega) (by unfold regL regM at q2; omega) q1) (fr 88 3 (by omega) (by omega) (by omega) (by omega)) (fun j hj => fr 100 j (by omega) (by omega) (by omega) (by omega)) hb ?_ hl
          refine ⟨?_, ?_, d3, ?_, ?_, ?_, ?_, fun w hw => ?_⟩
          · rw [fr 58 2 (by omega) (by omega) (by omega) (by omega)]
            exact d1
          · rw [fr 100 55 (by omega) (by omega) (by omega) (by omega)]
            exact d2
          · rw [fr 100 56 (by omega) (by omega) (by omega) (by omega), fr 58 3 (by omega) (by omega) (by omega) (by omega)]
            exact d4
          · rw [fr 58 3 (by omega) (by omega) (by omega) (by omega)]
            exact d5
          · rw [v4, v2]
          · rw [v2]
            exact ⟨by rw [es]; omega, by rw [es]; omega⟩
          · have el : laN I2 b w = laN I b w := laN_c (fun c q => frc c (by unfold regL at q; omega) (by unfold regL at q; omega) (by unfold regL at q; omega) (by unfold regL at q; omega)) (by omega)
            obtain ⟨g1, g2, g3⟩ := d8 w hw
            rw [el, v2]
            by_cases e : w = y
            · subst e
              have q1 : gGet I2 (60 + 2 * w) = upd (gGet I (60 + 2 * w)) 8 (gGet I (60 + 2 * w) 8 + z) := by
                funext j
                by_cases e : j = 8
                · subst e
                  rw [pk_us]
                  exact v1
                · rw [pk_un e]
                  unfold gGet
                  by_cases h : j < 5
                  · rw [if_pos h, if_pos h, fr _ _ (by omega) (by omega) (by omega) (by omega)]
                  · rw [if_neg h, if_neg h, fr _ _ (by omega) (by omega) (by omega) (by omega)]
              have q2 : yGet I2 w = upd (yGet I w) 8 (yGet I w 8 + z) := by
                funext j
                by_cases e : j = 8
                · subst e
                  rw [pk_us]
                  exact v3
                · rw [pk_un e]
                  unfold yGet
                  by_cases h : j < 5
                  · rw [if_pos h, if_pos h, fr _ _ (by omega) (by omega) (by omega) (by omega)]
                  · rw [if_neg h, if_neg h, fr _ _ (by omega) (by omega) (by omega) (by omega)]
              rw [q1, q2]
              obtain ⟨b1, b2, b3, b4, b5, b6, b7⟩ := g2
              have h5 := (la5 hl.1 hw).2
              have ea : (gGet I (60 + 2 * w) 8 + z).toInt = (gGet I (60 + 2 * w) 8).toInt + z.toInt := Kit.i32_add (by omega) (by omega)
              refine ⟨GE.put g1 8 (by rw [g1.2 8 (by decide) (by decide)]), ⟨fun j hj => ?_, ?_⟩, ?_⟩
              · rw [pk_un (by omega)]
                exact b1 j hj
              · rw [pk_un (by decide), pk_un (by decide), pk_un (by decide), pk_us]
                exact ⟨b2, b3, b4, b5, by omega, by omega⟩
              · rw [pk_us]
                omega
            · have q1 : gGet I2 (60 + 2 * w) = gGet I (60 + 2 * w) := by
                unfold gGet
                rw [frc (60 + 2 * w) (by omega) (by omega) (by omega) (by omega), frc (60 + 2 * w + 1) (by omega) (by omega) (by omega) (by omega)]
              have q2 : ∀ j, j < 9 → yGet I2 w j = yGet I w j := fun j h9 => by
                unfold yGet
                by_cases h : j < 5
                · rw [if_pos h, if_pos h, fr _ _ (by omega) (by omega) (by omega) (by omega)]
                · rw [if_neg h, if_neg h, fr _ _ (by omega) (by omega) (by omega) (by omega)]
              have h5 := (la5 hl.1 hw).2
              rw [q1]
              exact ⟨⟨fun j hj => by rw [q2 j (by omega)]; exact g1.1 j hj, fun j j1 j2 => by rw [q2 j j2]; exact g1.2 j j1 j2⟩, g2, by omega⟩
        · exact RelR_c (fr 0 1 (by omega) (by omega) (by omega) (by omega)) (fr 0 11 (by omega) (by omega) (by omega) (by omega)) (frc 1 (by omega) (by omega) (by omega) (by omega)) (frc 54 (by omega) (by omega) (by omega) (by omega)) (fr 80 4 (by omega) (by omega) (by omega) (by omega)) (frc 84 (by omega) (by omega) (by omega) (by omega)) (frc 101 (by omega) (by omega) (by omega) (by omega)) (frc 130 (by omega) (by omega) (by omega) (by omega)) (fun j hj => fr 100 j (by omega) (by omega) (by omega) (by omega)) hR
    · refine op_put (c_Xspread_2 J hr hl hy hx) ?_ hre2
      by_cases hz : (1 : Int32) ≤ z ∧ z ≤ 99
      · exact c_Mspread_3 J hr hl hy hz (fun q => hx ⟨hz.1, hz.2, by rw [← d6]; exact q⟩)
      · exact c_Mspread_2 J hr hl hy hz
  · exact op_put (c_Xspread_1 J hr hl h1) (c_Mspread_1 J hr hl h1) hre2
