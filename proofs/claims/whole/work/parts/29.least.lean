theorem fstW_cases (W : Nat → Bool) : ∀ (f k : Nat), fstW W k f = -1 ∨ ∃ j, k < j ∧ j ≤ k + f ∧ fstW W k f = nI j ∧ W j = true := by
  intro f
  induction f with
  | zero => intro k; exact Or.inl rfl
  | succ f ih =>
    intro k
    by_cases h : W (k + 1) = true
    · exact Or.inr ⟨k + 1, by omega, by omega, if_pos h, h⟩
    · have e : fstW W k (f + 1) = fstW W (k + 1) f := if_neg h
      rw [e]
      rcases ih (k + 1) with q | ⟨j, q1, q2, q3, q4⟩
      · exact Or.inl q
      · exact Or.inr ⟨j, by omega, by omega, q3, q4⟩
theorem fstW_hit {W : Nat → Bool} {j : Nat} (hj : W j = true) (hj9 : j ≤ 1000) : ∀ (f k : Nat), k < j → j ≤ k + f → ¬ fstW W k f = -1 := by
  intro f
  induction f with
  | zero => intro k h1 h2; omega
  | succ f ih =>
    intro k h1 h2
    by_cases h : W (k + 1) = true
    · have e : fstW W k (f + 1) = nI (k + 1) := if_pos h
      rw [e]
      intro q
      have := congrArg Int32.toInt q
      rw [nI_toInt (by omega)] at this
      have c : (-1 : Int32).toInt = -1 := by decide
      omega
    · have e : fstW W k (f + 1) = fstW W (k + 1) f := if_neg h
      rw [e]
      have hne : ¬ j = k + 1 := fun q => h (q ▸ hj)
      exact ih (k + 1) (by omega) (by omega)
theorem fwV_neg {I : MI} {b hn st y : Nat} {sh much : Int32} {at0 : Nat} : fwV I b hn st y sh much at0 < 0 ↔ fwV I b hn st y sh much at0 = -1 := by
  rcases fstW_cases (fun k => whB (fwG I b y hn sh st much at0 (yGet I y) k)) 72 0 with q | ⟨j, q1, q2, q3, q4⟩
  · unfold fwV
    rw [q]
    decide
  · unfold fwV
    rw [q3]
    constructor
    · intro q
      exact absurd q (nI_pos (by omega))
    · intro q
      have := congrArg Int32.toInt q
      rw [nI_toInt (by omega)] at this
      have c : (-1 : Int32).toInt = -1 := by decide
      omega
/-- the first of k .. k+f-1 -/
def lstF (p : Nat → Bool) : Nat → Nat → Int32
  | _, 0 => -1
  | k, f + 1 => if p k then nI k else lstF p (k + 1) f
/-- the last below n -/
def dnF (p : Nat → Bool) : Nat → Int32
  | 0 => -1
  | n + 1 => if p n then nI n else dnF p n
def noW (I : MI) (b hn st y : Nat) (sh much : Int32) (at0 : Nat) : Bool := decide (fwV I b hn st y sh much at0 = -1)
theorem gPut77c {I : MI} {G G' : GT} : gPut (gPut I 77 G) 77 G' = gPut I 77 G' := gPut_put I 77 G G'
theorem ti_of {k : Nat} (h : k ≤ 99) : 0 ≤ (nI k).toInt ∧ (nI k).toInt ≤ 99 := by
  rw [nI_toInt (by omega)]
  omega
set_option maxRecDepth 100000 in
theorem l_Xleast {I : MI} {b yn wn hn sn st : Nat} {r : MR} (J : MJ) (hr : RefOk r b) (h : RelL I b yn wn hn sn st) {y : Nat} (hy : y < yn) {sh : Int32} (hs : (-50 : Int32) ≤ sh ∧ sh ≤ 50) : ∀ (f k : Nat) (G : GT), k + f = 100 → Wq MX11_least 19 [some (.ref 0), some (.int (nI y)), some (.int sh), some (.int (nI k))] [] (gPut I 77 G) r J (Rs (lstF (fun k => noW I b hn st y sh (nI k) 0) k f) I 77 r J) := by
  have hb28 := (refs_L hr).2
  have h8 : yn ≤ 8 := h.1.2.2.1
  intro f
  induction f with
  | zero =>
    intro k G hk
    refine x_iload_n (q := 20) dX11_least_19 rfl rfl ?_
    refine x_bipush (99) (q := 22) dX11_least_20 rfl (by decide) ?_
    refine x_icmp_gt (t := 52) (q := 25) dX11_least_22 (by decide) rfl (fun c22 => ?_) (fun c22 => absurd c22 (fun q => q ((nI_ltI (a := 99) (by omega) (by omega)).mpr (by omega))))
    refine x_iconst (-1) (q := 53) dX11_least_52 rfl (by decide) ?_
    refine q_iret dX11_least_53 rfl ?_
    exact ⟨rfl, ⟨_, rfl⟩, rfl, rfl⟩
  | succ f ih =>
    intro k G hk
    refine x_iload_n (q := 20) dX11_least_19 rfl rfl ?_
    refine x_bipush (99) (q := 22) dX11_least_20 rfl (by decide) ?_
    refine x_icmp_gt (t := 52) (q := 25) dX11_least_22 (by decide) rfl (fun c22 => absurd c22 (fun q => absurd ((nI_ltI (a := 99) (by omega) (by omega)).mp q) (by omega))) (fun c22 => ?_)
    refine x_aload_n (q := 26) dX11_least_25 rfl rfl ?_
    refine q_gr (K := 6) (b := 76) (q := 29) dX11_least_26 rfl cl_11 (by decide) tw_573 rfl rfl rfl ?_
    refine x_aload_n (q := 30) dX11_least_29 rfl rfl ?_
    refine q_gr (K := 5) (b := 58) (q := 33) dX11_least_30 rfl cl_11 (by decide) tw_572 rfl rfl rfl ?_
    refine x_iload_n (q := 34) dX11_least_33 rfl rfl ?_
    refine x_iload_n (q := 35) dX11_least_34 rfl rfl ?_
    refine x_iload_n (q := 36) dX11_least_35 rfl rfl ?_
    refine x_iconst (0) (q := 37) dX11_least_36 rfl (by decide) ?_
    refine q_callV (ci := 7) (N := 1) (T := TX7) (As := [.ref 58, .int (nI y), .int sh, .int (nI k), .int 0]) (rest := []) (q := 40) dX11_least_37 rfl okX7_firstWhite tw_843 rfl rfl (k_fw J hr (RelL_77 G hb28 h) hy (shOk_iff.mpr hs) (much := nI k) (at0 := 0) (ti_of (by omega)) (by decide)) rfl rfl (Nat.le_of_ble_eq_true rfl) ⟨by decide, by decide⟩ ⟨rfl, rfl⟩ (fun rv_ I_ r_ J_ hv_ => ?_)
    obtain ⟨a1_, ⟨Gx, a2_⟩, a3_, a4_⟩ := hv_
    rw [fwV_77 hb28 (by omega)] at a1_
    rw [gPut77c] at a2_
    rw [a1_, a2_, a3_, a4_]
    show Wq MX11_least 40 [some (.ref 0), some (.int (nI y)), some (.int sh), some (.int (nI k))] [.int (fwV I b hn st y sh (nI k) 0)] (gPut I 77 Gx) r J _
    refine x_iconst (-1) (q := 41) dX11_least_40 rfl (by decide) ?_
    refine x_icmp_ne (t := 46) (q := 44) dX11_least_41 (by decide) rfl (fun c41 => ?_) (fun c41 => ?_)
    · obtain ⟨v1, ev1⟩ : ∃ y : Int32, y = (nI k) + 1 := ⟨_, rfl⟩
      refine x_iinc (v := v1) (L2 := [some (.ref 0), some (.int (nI y)), some (.int sh), some (.int v1)]) (q := 49) dX11_least_46 rfl (by decide) rfl rfl (by rw [ev1]; rfl) rfl ?_
      refine x_goto (t := 19) dX11_least_49 (by decide) ?_
      have e : lstF (fun k => noW I b hn st y sh (nI k) 0) k (f + 1) = lstF (fun k => noW I b hn st y sh (nI k) 0) (k + 1) f := if_neg (fun q => c41 (of_decide_eq_true q))
      rw [e, show v1 = nI (k + 1) by rw [ev1, nI_p1]]
      exact ih (k + 1) Gx (by omega)
    · refine x_iload_n (q := 45) dX11_least_44 rfl rfl ?_
      refine q_iret dX11_least_45 rfl ?_
      refine ⟨?_, ⟨_, rfl⟩, rfl, rfl⟩
      have e : lstF (fun k => noW I b hn st y sh (nI k) 0) k (f + 1) = nI k := if_pos (decide_eq_true c41)
      rw [e]
theorem mPmm {I : MI} {G G' : GT} : mPut (mPut I G) G' = mPut I G' := mPut_put I G G'
theorem fwV_m {I : MI} {G : GT} {b hn st y : Nat} {sh much : Int32} {at0 : Nat} (hb : b ≤ 28) (hy : y < 8) : fwV (mPut I G) b hn st y sh much at0 = fwV I b hn st y sh much at0 := by
  unfold fwV
  congr 1
  funext k
  have e : yGet (mPut I G) y = yGet I y := by
    unfold yGet
    rw [mPc (by decide) (by decide), mPc (by decide) (by decide)]
  rw [e, fwG_c (fun c q => mPc (by have := q.2; omega) (by have := q.2; omega)) hy]
set_option maxRecDepth 100000 in
theorem l_Mleast {I : MI} {b yn wn hn sn st : Nat} {r : MR} (J : MJ) (hr : RefOk r b) (h : RelL I b yn wn hn sn st) {y : Nat} (hy : y < yn) {sh : Int32} (hs : (-50 : Int32) ≤ sh ∧ sh ≤ 50) : ∀ (f k : Nat) (G : GT), k + f = 100 → Wq MX12_least 19 [some (.ref 100), some (.int (nI y)), some (.int sh), some (.int (nI k))] [] (mPut I G) r J (Rm (lstF (fun k => noW I b hn st y sh (nI k) 0) k f) I r J) := by
  have hb28 := (refs_L hr).2
  have h8 : yn ≤ 8 := h.1.2.2.1
  intro f
  induction f with
  | zero =>
    intro k G hk
    refine x_iload_n (q := 20) dX12_least_19 rfl rfl ?_
    refine x_bipush (99) (q := 22) dX12_least_20 rfl (by decide) ?_
    refine x_icmp_gt (t := 44) (q := 25) dX12_least_22 (by decide) rfl (fun c22 => ?_) (fun c22 => absurd c22 (fun q => q ((nI_ltI (a := 99) (by omega) (by omega)).mpr (by omega))))
    refine x_iconst (-1) (q := 45) dX12_least_44 rfl (by decide) ?_
    refine q_iret dX12_least_45 rfl ?_
    exact ⟨rfl, ⟨_, rfl⟩, rfl, rfl⟩
  | succ f ih =>
    intro k G hk
    refine x_iload_n (q := 20) dX12_least_19 rfl rfl ?_
    refine x_bipush (99) (q := 22) dX12_least_20 rfl (by decide) ?_
    refine x_icmp_gt (t := 44) (q := 25) dX12_least_22 (by decide) rfl (fun c22 => absurd c22 (fun q => absurd ((nI_ltI (a := 99) (by omega) (by omega)).mp q) (by omega))) (fun c22 => ?_)
    refine x_aload_n (q := 26) dX12_least_25 rfl rfl ?_
    refine x_iload_n (q := 27) dX12_least_26 rfl rfl ?_
    refine x_iload_n (q := 28) dX12_least_27 rfl rfl ?_
    refine x_iconst (0) (q := 29) dX12_least_28 rfl (by decide) ?_
    refine x_iload_n (q := 30) dX12_least_29 rfl rfl ?_
    refine q_callV (ci := 12) (N := 79) (T := TX12) (As := [.int (nI y), .int sh, .int 0, .int (nI k)]) (rest := []) (q := 33) dX12_least_30 rfl okX12_firstWhite tw_1512 rfl rfl (k_mfw r J (RelL_m G hb28 h) hy (shOk_iff.mpr hs) (much := nI k) (sat := 0) (at0 := 0) (ti_of (by omega)) (at_nI (by decide))) rfl rfl (Nat.le_of_ble_eq_true rfl) ⟨by decide, by decide⟩ ⟨rfl, rfl⟩ (fun rv_ I_ r_ J_ hv_ => ?_)
    obtain ⟨a1_, ⟨Gx, a2_⟩, a3_, a4_⟩ := hv_
    rw [fwV_m hb28 (by omega)] at a1_
    rw [mPmm] at a2_
    rw [a1_, a2_, a3_, a4_]
    show Wq MX12_least 33 [some (.ref 100), some (.int (nI y)), some (.int sh), some (.int (nI k))] [.int (fwV I b hn st y sh (nI k) 0)] (mPut I Gx) r J _
    refine x_if_ge (t := 38) (q := 36) dX12_least_33 (by decide) rfl (fun c33 => ?_) (fun c33 => ?_)
    · obtain ⟨v1, ev1⟩ : ∃ y : Int32, y = (nI k) + 1 := ⟨_, rfl⟩
      refine x_iinc (v := v1) (L2 := [some (.ref 100), some (.int (nI y)), some (.int sh), some (.int v1)]) (q := 41) dX12_least_38 rfl (by decide) rfl rfl (by rw [ev1]; rfl) rfl ?_
      refine x_goto (t := 19) dX12_least_41 (by decide) ?_
      have e : lstF (fun k => noW I b hn st y sh (nI k) 0) k (f + 1) = lstF (fun k => noW I b hn st y sh (nI k) 0) (k + 1) f := if_neg (fun q => absurd (fwV_neg.mpr (of_decide_eq_true q)) (Int32.not_lt.mpr c33))
      rw [e, show v1 = nI (k + 1) by rw [ev1, nI_p1]]
      exact ih (k + 1) Gx (by omega)
    · refine x_iload_n (q := 37) dX12_least_36 rfl rfl ?_
      refine q_iret dX12_least_37 rfl ?_
      refine ⟨?_, ⟨_, rfl⟩, rfl, rfl⟩
      have e : lstF (fun k => noW I b hn st y sh (nI k) 0) k (f + 1) = nI k := if_pos (decide_eq_true (fwV_neg.mp (Int32.not_le.mp c33)))
      rw [e]
set_option maxRecDepth 100000 in
theorem c_Xleast_g {I : MI} {b yn wn hn sn st : Nat} {r : MR} (J : MJ) (hr : RefOk r b) (h : RelL I b yn wn hn sn st) {y : Nat} (hy : y < yn) {sh : Int32} (hs : (-50 : Int32) ≤ sh ∧ sh ≤ 50) : Cq yX11_least MX11_least [.ref 0, .int (nI y), .int sh] I r J (Rs (lstF (fun k => noW I b hn st y sh (nI k) 0) 0 100) I 77 r J) := by
  have hb0 : SH (r 0) = (15, 18) := by rw [hr.1]; exact (refs_L hr).1
  have h8 : yn ≤ 8 := h.1.2.2.1
  have ey : I (r 0) 1 = nI yn := by rw [hr.1]; exact h.1.2.1
  have em : I 100 41 = nI yn := h.2.2.1.1
  refine cq_of [some (.ref 0), some (.int (nI y)), some (.int sh), none] 1 (by decide +kernel) rfl rfl (Nat.le_of_ble_eq_true rfl) rfl ?_
  refine x_aload_n (q := 1) dX11_least_0 rfl rfl ?_
  refine x_iload_n (q := 2) dX11_least_1 rfl rfl ?_
  refine q_callV (ci := 11) (N := 14) (T := TX11) (As := [.int (nI y)]) (rest := []) (q := 5) dX11_least_2 rfl okX11_isYard tw_811 rfl rfl (c_isYard_g I r J hb0 ey h8 hy) rfl rfl (Nat.le_of_ble_eq_true rfl) ⟨by decide, by decide⟩ ⟨rfl, rfl⟩ (fun rv_ I_ r_ J_ hv_ => ?_)
  obtain ⟨a1_, a2_, a3_, a4_⟩ := hv_
  rw [a1_, a2_, a3_, a4_]
  show Wq MX11_least 5 [some (.ref 0), some (.int (nI y)), some (.int sh), none] [.int 1] I r J _
  refine x_if_eq (t := 15) (q := 8) dX11_least_5 (by decide) rfl (fun c5 => absurd c5 ((by decide))) (fun c5 => ?_)
  refine x_iload_n (q := 9) dX11_least_8 rfl rfl ?_
  refine q_callS (As := [.int sh]) (rest := []) (q := 12) dX11_least_9 rfl okX11_isShift tw_803 (c_isShift_g I r J hs.1 hs.2) rfl rfl (Nat.le_of_ble_eq_true rfl) ⟨by decide, by decide⟩ ⟨rfl, rfl⟩ (fun rv_ I_ r_ J_ hv_ => ?_)
  obtain ⟨a1_, a2_, a3_, a4_⟩ := hv_
  rw [a1_, a2_, a3_, a4_]
  show Wq MX11_least 12 [some (.ref 0), some (.int (nI y)), some (.int sh), none] [.int 1] I r J _
  refine x_if_ne (t := 17) (q := 15) dX11_least_12 (by decide) rfl (fun c12 => ?_) (fun c12 => absurd c12 ((by decide)))
  refine x_iconst (0) (q := 18) dX11_least_17 rfl (by decide) ?_
  refine x_istore_n (L2 := [some (.ref 0), some (.int (nI y)), some (.int sh), some (.int 0)]) (q := 19) dX11_least_18 rfl (by decide) rfl rfl ?_
  have k9 := l_Xleast J hr h hy hs 100 0 (gGet I 77) rfl
  rw [gPut_get] at k9
  exact k9
set_option maxRecDepth 100000 in
theorem c_Xleast_1 {I : MI} {b yn wn hn sn st : Nat} {r : MR} (J : MJ) (hr : RefOk r b) (h : RelL I b yn wn hn sn st) {x sh : Int32} (hno : ¬ ∃ k, k < yn ∧ x = nI k) : Cq yX11_least MX11_least [.ref 0, .int x, .int sh] I r J (Rs (-1) I 77 r J) := by
  have hb0 : SH (r 0) = (15, 18) := by rw [hr.1]; exact (refs_L hr).1
  have h8 : yn ≤ 8 := h.1.2.2.1
  have ey : I (r 0) 1 = nI yn := by rw [hr.1]; exact h.1.2.1
  have em : I 100 41 = nI yn := h.2.2.1.1
  refine cq_of [some (.ref 0), some (.int x), some (.int sh), none] 1 (by decide +kernel) rfl rfl (Nat.le_of_ble_eq_true rfl) rfl ?_
  refine x_aload_n (q := 1) dX11_least_0 rfl rfl ?_
  refine x_iload_n (q := 2) dX11_least_1 rfl rfl ?_
  refine q_callV (ci := 11) (N := 14) (T := TX11) (As := [.int x]) (rest := []) (q := 5) dX11_least_2 rfl okX11_isYard tw_811 rfl rfl (c_isYard_b I r J hb0 ey h8 hno) rfl rfl (Nat.le_of_ble_eq_true rfl) ⟨by decide, by decide⟩ ⟨rfl, rfl⟩ (fun rv_ I_ r_ J_ hv_ => ?_)
  obtain ⟨a1_, a2_, a3_, a4_⟩ := hv_
  rw [a1_, a2_, a3_, a4_]
  show Wq MX11_least 5 [some (.ref 0), some (.int x), some (.int sh), none] [.int 0] I r J _
  refine x_if_eq (t := 15) (q := 8) dX11_least_5 (by decide) rfl (fun c5 => ?_) (fun c5 => absurd c5 ((by decide)))
  refine x_iconst (-1) (q := 16) dX11_least_15 rfl (by decide) ?_
  refine q_iret dX11_least_16 rfl ?_
  exact Rs_same
set_option maxRecDepth 100000 in
theorem c_Xleast_2 {I : MI} {b yn wn hn sn st : Nat} {r : MR} (J : MJ) (hr : RefOk r b) (h : RelL I b yn wn hn sn st) {y : Nat} (hy : y < yn) {sh : Int32} (hno : ¬ ((-50 : Int32) ≤ sh ∧ sh ≤ 50)) : Cq yX11_least MX11_least [.ref 0, .int (nI y), .int sh] I r J (Rs (-1) I 77 r J) := by
  have hb0 : SH (r 0) = (15, 18) := by rw [hr.1]; exact (refs_L hr).1
  have h8 : yn ≤ 8 := h.1.2.2.1
  have ey : I (r 0) 1 = nI yn := by rw [hr.1]; exact h.1.2.1
  have em : I 100 41 = nI yn := h.2.2.1.1
  refine cq_of [some (.ref 0), some (.int (nI y)), some (.int sh), none] 1 (by decide +kernel) rfl rfl (Nat.le_of_ble_eq_true rfl) rfl ?_
  refine x_aload_n (q := 1) dX11_least_0 rfl rfl ?_
  refine x_iload_n (q := 2) dX11_least_1 rfl rfl ?_
  refine q_callV (ci := 11) (N := 14) (T := TX11) (As := [.int (nI y)]) (rest := []) (q := 5) dX11_least_2 rfl okX11_isYard tw_811 rfl rfl (c_isYard_g I r J hb0 ey h8 hy) rfl rfl (Nat.le_of_ble_eq_true rfl) ⟨by decide, by decide⟩ ⟨rfl, rfl⟩ (fun rv_ I_ r_ J_ hv_ => ?_)
  obtain ⟨a1_, a2_, a3_, a4_⟩ := hv_
  rw [a1_, a2_, a3_, a4_]
  show Wq MX11_least 5 [some (.ref 0), some (.int (nI y)), some (.int sh), none] [.int 1] I r J _
  refine x_if_eq (t := 15) (q := 8) dX11_least_5 (by decide) rfl (fun c5 => absurd c5 ((by decide))) (fun c5 => ?_)
  refine x_iload_n (q := 9) dX11_least_8 rfl rfl ?_
  refine q_callS (As := [.int sh]) (rest := []) (q := 12) dX11_least_9 rfl okX11_isShift tw_803 (c_isShift_b I r J hno) rfl rfl (Nat.le_of_ble_eq_true rfl) ⟨by decide, by decide⟩ ⟨rfl, rfl⟩ (fun rv_ I_ r_ J_ hv_ => ?_)
  obtain ⟨a1_, a2_, a3_, a4_⟩ := hv_
  rw [a1_, a2_, a3_, a4_]
  show Wq MX11_least 12 [some (.ref 0), some (.int (nI y)), some (.int sh), none] [.int 0] I r J _
  refine x_if_ne (t := 17) (q := 15) dX11_least_12 (by decide) rfl (fun c12 => absurd c12 ((by decide))) (fun c12 => ?_)
  refine x_iconst (-1) (q := 16) dX11_least_15 rfl (by decide) ?_
  refine q_iret dX11_least_16 rfl ?_
  exact Rs_same
set_option maxRecDepth 100000 in
theorem c_Mleast_g {I : MI} {b yn wn hn sn st : Nat} {r : MR} (J : MJ) (hr : RefOk r b) (h : RelL I b yn wn hn sn st) {y : Nat} (hy : y < yn) {sh : Int32} (hs : (-50 : Int32) ≤ sh ∧ sh ≤ 50) : Cq yX12_least MX12_least [.ref 100, .int (nI y), .int sh] I r J (Rm (lstF (fun k => noW I b hn st y sh (nI k) 0) 0 100) I r J) := by
  have hb0 : SH (r 0) = (15, 18) := by rw [hr.1]; exact (refs_L hr).1
  have h8 : yn ≤ 8 := h.1.2.2.1
  have ey : I (r 0) 1 = nI yn := by rw [hr.1]; exact h.1.2.1
  have em : I 100 41 = nI yn := h.2.2.1.1
  refine cq_of [some (.ref 100), some (.int (nI y)), some (.int sh), none] 1 (by decide +kernel) rfl rfl (Nat.le_of_ble_eq_true rfl) rfl ?_
  refine x_aload_n (q := 1) dX12_least_0 rfl rfl ?_
  refine x_iload_n (q := 2) dX12_least_1 rfl rfl ?_
  refine q_callV (ci := 12) (N := 79) (T := TX12) (As := [.int (nI y)]) (rest := []) (q := 5) dX12_least_2 rfl okX12_isYard tw_1485 rfl rfl (c_mYard_g I r J em h8 hy) rfl rfl (Nat.le_of_ble_eq_true rfl) ⟨by decide, by decide⟩ ⟨rfl, rfl⟩ (fun rv_ I_ r_ J_ hv_ => ?_)
  obtain ⟨a1_, a2_, a3_, a4_⟩ := hv_
  rw [a1_, a2_, a3_, a4_]
  show Wq MX12_least 5 [some (.ref 100), some (.int (nI y)), some (.int sh), none] [.int 1] I r J _
  refine x_if_eq (t := 15) (q := 8) dX12_least_5 (by decide) rfl (fun c5 => absurd c5 ((by decide))) (fun c5 => ?_)
  refine x_iload_n (q := 9) dX12_least_8 rfl rfl ?_
  refine q_callS (As := [.int sh]) (rest := []) (q := 12) dX12_least_9 rfl okX12_isShift tw_1509 (c_mShift_g I r J hs.1 hs.2) rfl rfl (Nat.le_of_ble_eq_true rfl) ⟨by decide, by decide⟩ ⟨rfl, rfl⟩ (fun rv_ I_ r_ J_ hv_ => ?_)
  obtain ⟨a1_, a2_, a3_, a4_⟩ := hv_
  rw [a1_, a2_, a3_, a4_]
  show Wq MX12_least 12 [some (.ref 100), some (.int (nI y)), some (.int sh), none] [.int 1] I r J _
  refine x_if_ne (t := 17) (q := 15) dX12_least_12 (by decide) rfl (fun c12 => ?_) (fun c12 => absurd c12 ((by decide)))
  refine x_iconst (0) (q := 18) dX12_least_17 rfl (by decide) ?_
  refine x_istore_n (L2 := [some (.ref 100), some (.int (nI y)), some (.int sh), some (.int 0)]) (q := 19) dX12_least_18 rfl (by decide) rfl rfl ?_
  have k9 := l_Mleast J hr h hy hs 100 0 (mGet I) rfl
  rw [mPut_get] at k9
  exact k9
set_option maxRecDepth 100000 in
theorem c_Mleast_1 {I : MI} {b yn wn hn sn st : Nat} {r : MR} (J : MJ) (hr : RefOk r b) (h : RelL I b yn wn hn sn st) {x sh : Int32} (hno : ¬ ∃ k, k < yn ∧ x = nI k) : Cq yX12_least MX12_least [.ref 100, .int x, .int sh] I r J (Rm (-1) I r J) := by
  have hb0 : SH (r 0) = (15, 18) := by rw [hr.1]; exact (refs_L hr).1
  have h8 : yn ≤ 8 := h.1.2.2.1
  have ey : I (r 0) 1 = nI yn := by rw [hr.1]; exact h.1.2.1
  have em : I 100 41 = nI yn := h.2.2.1.1
  refine cq_of [some (.ref 100), some (.int x), some (.int sh), none] 1 (by decide +kernel) rfl rfl (Nat.le_of_ble_eq_true rfl) rfl ?_
  refine x_aload_n (q := 1) dX12_least_0 rfl rfl ?_
  refine x_iload_n (q := 2) dX12_least_1 rfl rfl ?_
  refine q_callV (ci := 12) (N := 79) (T := TX12) (As := [.int x]) (rest := []) (q := 5) dX12_least_2 rfl okX12_isYard tw_1485 rfl rfl (c_mYard_b I r J em h8 hno) rfl rfl (Nat.le_of_ble_eq_true rfl) ⟨by decide, by decide⟩ ⟨rfl, rfl⟩ (fun rv_ I_ r_ J_ hv_ => ?_)
  obtain ⟨a1_, a2_, a3_, a4_⟩ := hv_
  rw [a1_, a2_, a3_, a4_]
  show Wq MX12_least 5 [some (.ref 100), some (.int x), some (.int sh), none] [.int 0] I r J _
  refine x_if_eq (t := 15) (q := 8) dX12_least_5 (by decide) rfl (fun c5 => ?_) (fun c5 => absurd c5 ((by decide)))
  refine x_iconst (-1) (q := 16) dX12_least_15 rfl (by decide) ?_
  refine q_iret dX12_least_16 rfl ?_
  exact Rm_same
set_option maxRecDepth 100000 in
theorem c_Mleast_2 {I : MI} {b yn wn hn sn st : Nat} {r : MR} (J : MJ) (hr : RefOk r b) (h : RelL I b yn wn hn sn st) {y : Nat} (hy : y < yn) {sh : Int32} (hno : ¬ ((-50 : Int32) ≤ sh ∧ sh ≤ 50)) : Cq yX12_least MX12_least [.ref 100, .int (nI y), .int sh] I r J (Rm (-1) I r J) := by
  have hb0 : SH (r 0) = (15, 18) := by rw [hr.1]; exact (refs_L hr).1
  have h8 : yn ≤ 8 := h.1.2.2.1
  have ey : I (r 0) 1 = nI yn := by rw [hr.1]; exact h.1.2.1
  have em : I 100 41 = nI yn := h.2.2.1.1
  refine cq_of [some (.ref 100), some (.int (nI y)), some (.int sh), none] 1 (by decide +kernel) rfl rfl (Nat.le_of_ble_eq_true rfl) rfl ?_
  refine x_aload_n (q := 1) dX12_least_0 rfl rfl ?_
  refine x_iload_n (q := 2) dX12_least_1 rfl rfl ?_
  refine q_callV (ci := 12) (N := 79) (T := TX12) (As := [.int (nI y)]) (rest := []) (q := 5) dX12_least_2 rfl okX12_isYard tw_1485 rfl rfl (c_mYard_g I r J em h8 hy) rfl rfl (Nat.le_of_ble_eq_true rfl) ⟨by decide, by decide⟩ ⟨rfl, rfl⟩ (fun rv_ I_ r_ J_ hv_ => ?_)
  obtain ⟨a1_, a2_, a3_, a4_⟩ := hv_
  rw [a1_, a2_, a3_, a4_]
  show Wq MX12_least 5 [some (.ref 100), some (.int (nI y)), some (.int sh), none] [.int 1] I r J _
  refine x_if_eq (t := 15) (q := 8) dX12_least_5 (by decide) rfl (fun c5 => absurd c5 ((by decide))) (fun c5 => ?_)
  refine x_iload_n (q := 9) dX12_least_8 rfl rfl ?_
  refine q_callS (As := [.int sh]) (rest := []) (q := 12) dX12_least_9 rfl okX12_isShift tw_1509 (c_mShift_b I r J hno) rfl rfl (Nat.le_of_ble_eq_true rfl) ⟨by decide, by decide⟩ ⟨rfl, rfl⟩ (fun rv_ I_ r_ J_ hv_ => ?_)
  obtain ⟨a1_, a2_, a3_, a4_⟩ := hv_
  rw [a1_, a2_, a3_, a4_]
  show Wq MX12_least 12 [some (.ref 100), some (.int (nI y)), some (.int sh), none] [.int 0] I r J _
  refine x_if_ne (t := 17) (q := 15) dX12_least_12 (by decide) rfl (fun c12 => absurd c12 ((by decide))) (fun c12 => ?_)
  refine x_iconst (-1) (q := 16) dX12_least_15 rfl (by decide) ?_
  refine q_iret dX12_least_16 rfl ?_
  exact Rm_same
theorem op_least (x sh : Int32) : OpOk yX11_least MX11_least yX12_least MX12_least [.int x, .int sh] := by
  intro I r J hrel
  obtain ⟨b, yn, wn, hn, sn, st, hr, hl, hR, hJ⟩ := hrel
  have hb := (refs_L hr).2
  have h8 : yn ≤ 8 := hl.1.2.2.1
  by_cases h1 : ∃ k, k < yn ∧ x = nI k
  · obtain ⟨y, hy, rfl⟩ := h1
    by_cases h2 : (-50 : Int32) ≤ sh ∧ sh ≤ 50
    · exact op_ask hr hl hR hJ (c_Xleast_g J hr hl hy h2) (fun G g1 g2 => by
        have k := c_Mleast_g J hr g1 hy h2
        have e : (fun k => noW (gPut I 77 G) b hn st y sh (nI k) 0) = (fun k => noW I b hn st y sh (nI k) 0) := by
          funext k
          unfold noW
          rw [fwV_77 hb (by omega)]
        rw [e] at k
        exact k)
    · exact op_ask hr hl hR hJ (c_Xleast_2 J hr hl hy h2) (fun G g1 g2 => c_Mleast_2 J hr g1 hy h2)
  · exact op_ask hr hl hR hJ (c_Xleast_1 J hr hl h1) (fun G g1 g2 => c_Mleast_1 J hr g1 h1)
