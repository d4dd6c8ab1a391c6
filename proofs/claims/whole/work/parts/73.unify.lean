def tnaT (T : Nat → Nat) (n : Nat) (s : Nat × Nat × Nat) : Nat × Nat × Nat := if s.1 = 0 ∧ kd T n s.2.2 = 2 ∧ kw T n s.2.2 = 20 then adv T n s else rfT T n s
def tsoT (T : Nat → Nat) (n : Nat) (s : Nat × Nat × Nat) : Nat × Nat × Nat := if s.1 = 0 ∧ 8 ≤ kw T n s.2.2 ∧ kw T n s.2.2 ≤ 11 then adv T n s else rfT T n s
def tnuT (T : Nat → Nat) (n lo hi : Nat) (s : Nat × Nat × Nat) : Nat × Nat × Nat := if s.1 = 0 ∧ kd T n s.2.2 = 3 then tnuS T n lo hi s else rfT T n s
def tvaT (T : Nat → Nat) (n m : Nat) (s : Nat × Nat × Nat) : Nat × Nat × Nat := if (vS T n s).1 = 0 ∧ kd T n (vS T n s).2.2 = 3 then tvS T n m s else rfT T n (vS T n s)
theorem rf_n {k g : Nat} {s : Nat × Nat × Nat} (hk : 1 ≤ k) : ¬ (rf k g s).1 = 0 := by
  unfold rf
  by_cases e : s.1 = 0
  · rw [if_pos e]; show ¬ k = 0; omega
  · rw [if_neg e]; exact e
theorem rfT_n {T : Nat → Nat} {n : Nat} {s : Nat × Nat × Nat} : ¬ (rfT T n s).1 = 0 := rf_n (tF_b T n s.2.2).1
theorem adv_1 {T : Nat → Nat} {n : Nat} {s : Nat × Nat × Nat} : (adv T n s).1 = s.1 := rfl
theorem vS_1 {T : Nat → Nat} {n : Nat} {s : Nat × Nat × Nat} : (vS T n s).1 = s.1 := by
  unfold vS
  by_cases e : kd T n s.2.2 = 5
  · rw [if_pos e]; rfl
  · rw [if_neg e]
theorem tkw_0 {T : Nat → Nat} {n i : Nat} {s : Nat × Nat × Nat} (h : (tkw T n i s).1 = 0) : s.1 = 0 ∧ kw T n s.2.2 = i ∧ tkw T n i s = adv T n s := by
  unfold tkw at h ⊢
  by_cases e : s.1 = 0
  · rw [if_pos e] at h ⊢
    by_cases q : kw T n s.2.2 = i
    · rw [if_pos q]; exact ⟨e, q, rfl⟩
    · rw [if_neg q] at h; exact absurd h rfT_n
  · rw [if_neg e] at h; exact absurd h e
theorem tsc_0 {T : Nat → Nat} {n : Nat} {s : Nat × Nat × Nat} (h : (tsc T n s).1 = 0) : s.1 = 0 ∧ kd T n s.2.2 = 4 ∧ tsc T n s = adv T n s := by
  unfold tsc at h ⊢
  by_cases e : s.1 = 0
  · rw [if_pos e] at h ⊢
    by_cases q : kd T n s.2.2 = 4
    · rw [if_pos q]; exact ⟨e, q, rfl⟩
    · rw [if_neg q] at h; exact absurd h rfT_n
  · rw [if_neg e] at h; exact absurd h e
theorem tnaT_0 {T : Nat → Nat} {n : Nat} {s : Nat × Nat × Nat} (h : (tnaT T n s).1 = 0) : naC T n s ∧ tnaT T n s = adv T n s := by
  unfold tnaT at h ⊢
  by_cases e : s.1 = 0 ∧ kd T n s.2.2 = 2 ∧ kw T n s.2.2 = 20
  · rw [if_pos e]; exact ⟨e, rfl⟩
  · rw [if_neg e] at h; exact absurd h rfT_n
theorem tsoT_0 {T : Nat → Nat} {n : Nat} {s : Nat × Nat × Nat} (h : (tsoT T n s).1 = 0) : soC T n s ∧ tsoT T n s = adv T n s := by
  unfold tsoT at h ⊢
  by_cases e : s.1 = 0 ∧ 8 ≤ kw T n s.2.2 ∧ kw T n s.2.2 ≤ 11
  · rw [if_pos e]; exact ⟨e, rfl⟩
  · rw [if_neg e] at h; exact absurd h rfT_n
theorem tnuT_0 {T : Nat → Nat} {n lo hi : Nat} {s : Nat × Nat × Nat} (h : (tnuT T n lo hi s).1 = 0) : nuC T n s ∧ (lo ≤ vl T n s.2.2 ∧ vl T n s.2.2 ≤ hi) ∧ tnuT T n lo hi s = adv T n s := by
  unfold tnuT at h ⊢
  by_cases e : s.1 = 0 ∧ kd T n s.2.2 = 3
  · rw [if_pos e] at h ⊢
    unfold tnuS at h ⊢
    by_cases q : lo ≤ vl T n s.2.2 ∧ vl T n s.2.2 ≤ hi
    · rw [if_pos q]; exact ⟨e, q, rfl⟩
    · rw [if_neg q] at h; exact absurd h (rf_n (by decide))
  · rw [if_neg e] at h; exact absurd h rfT_n
theorem tvaT_0 {T : Nat → Nat} {n m : Nat} {s : Nat × Nat × Nat} (h : (tvaT T n m s).1 = 0) : s.1 = 0 ∧ nuC T n (vS T n s) ∧ vl T n (vS T n s).2.2 ≤ m ∧ tvaT T n m s = adv T n (vS T n s) := by
  unfold tvaT at h ⊢
  by_cases e : (vS T n s).1 = 0 ∧ kd T n (vS T n s).2.2 = 3
  · rw [if_pos e] at h ⊢
    unfold tvS at h ⊢
    by_cases q : vl T n (vS T n s).2.2 ≤ m
    · rw [if_pos q]; exact ⟨by rw [← vS_1 (T := T) (n := n)]; exact e.1, e, q, rfl⟩
    · rw [if_neg q] at h; exact absurd h (rf_n (by decide))
  · rw [if_neg e] at h; exact absurd h rfT_n
def RX (T : Nat → Nat) (n : Nat) (s : Nat × Nat × Nat) (val : Int32) (X : MI) (J : MJ) (r : MR) : Option Value → MI → MR → MJ → Prop := fun v Y r' K => ∃ x : Int32, v = some (.int x) ∧ (s.1 = 0 → x = val) ∧ PS T n s Y K ∧ FP X J Y K ∧ r' = r
def RXv (T : Nat → Nat) (n : Nat) (s : Nat × Nat × Nat) (val : Int32) (pp : Nat) (X : MI) (J : MJ) (r : MR) : Option Value → MI → MR → MJ → Prop := fun v Y r' K => ∃ x : Int32, v = some (.int x) ∧ (s.1 = 0 → x = val) ∧ PS T n s Y K ∧ FW X J Y K ∧ Y 54 4 = nI pp ∧ r' = r
theorem c_tnu {T : Nat → Nat} {n : Nat} {r : MR} (h4 : r 4 = 1) {X : MI} {J : MJ} {s : Nat × Nat × Nat} (h : PS T n s X J) {lo hi : Nat} (hlo : lo < 10000) (hhi : hi < 10000) : Cq yX8_takeNumber MX8_takeNumber [.ref 54, .int (nI lo), .int (nI hi)] X r J (RX T n (tnuT T n lo hi s) (nI (vl T n s.2.2)) X J r) := by
  by_cases e : s.1 = 0 ∧ kd T n s.2.2 = 3
  · rw [show tnuT T n lo hi s = tnuS T n lo hi s from if_pos e]
    exact cq_mono (fun v Y r' K hv => ⟨_, hv.1, fun _ => rfl, hv.2.1.1, hv.2.1.2, hv.2.2⟩) (c_tnu_g h4 h hlo hhi e)
  · rw [show tnuT T n lo hi s = rfT T n s from if_neg e]
    exact cq_mono (fun v Y r' K hv => ⟨_, hv.1, fun z => absurd z rfT_n, hv.2.1.1, hv.2.1.2, hv.2.2⟩) (c_tnu_b h4 h e)
theorem c_tso {T : Nat → Nat} {n : Nat} {r : MR} (h4 : r 4 = 1) {X : MI} {J : MJ} {s : Nat × Nat × Nat} (h : PS T n s X J) : Cq yX8_takeSort MX8_takeSort [.ref 54] X r J (RX T n (tsoT T n s) (nI (kw T n s.2.2 - 8)) X J r) := by
  by_cases e : s.1 = 0 ∧ 8 ≤ kw T n s.2.2 ∧ kw T n s.2.2 ≤ 11
  · rw [show tsoT T n s = adv T n s from if_pos e]
    exact cq_mono (fun v Y r' K hv => ⟨_, hv.1, fun _ => rfl, hv.2.1.1, hv.2.1.2, hv.2.2⟩) (c_tso_g h4 h e)
  · rw [show tsoT T n s = rfT T n s from if_neg e]
    exact cq_mono (fun v Y r' K hv => ⟨_, hv.1, fun z => absurd z rfT_n, hv.2.1.1, hv.2.1.2, hv.2.2⟩) (c_tso_b h4 h e)
theorem c_tna {T : Nat → Nat} {n : Nat} {r : MR} (h4 : r 4 = 1) {X : MI} {J : MJ} {s : Nat × Nat × Nat} (h : PS T n s X J) : Cq yX8_takeName MX8_takeName [.ref 54] X r J (fun v Y r' K => ∃ x : Int64, v = some (.long x) ∧ (naC T n s → x = lN (w5 T n s.2.2)) ∧ PS T n (tnaT T n s) Y K ∧ FP X J Y K ∧ r' = r) := by
  by_cases e : s.1 = 0 ∧ kd T n s.2.2 = 2 ∧ kw T n s.2.2 = 20
  · rw [show tnaT T n s = adv T n s from if_pos e]
    exact cq_mono (fun v Y r' K hv => ⟨_, hv.1, fun _ => rfl, hv.2.1.1, hv.2.1.2, hv.2.2⟩) (c_tna_g h4 h e)
  · rw [show tnaT T n s = rfT T n s from if_neg e]
    exact cq_mono (fun v Y r' K hv => ⟨_, hv.1, fun z => absurd z e, hv.2.1.1, hv.2.1.2, hv.2.2⟩) (c_tna_b h4 h e)
theorem c_tva {T : Nat → Nat} {n : Nat} {r : MR} (h4 : r 4 = 1) {X : MI} {J : MJ} {s : Nat × Nat × Nat} (h : PS T n s X J) {m : Nat} (hm : m < 10000) : Cq yX8_takeValue MX8_takeValue [.ref 54, .int (-(nI m)), .int (nI m)] X r J (RXv T n (tvaT T n m s) (tvV_ T n s) (sk T n s.2.2) X J r) := by
  by_cases e : (vS T n s).1 = 0 ∧ kd T n (vS T n s).2.2 = 3
  · rw [show tvaT T n m s = tvS T n m s from if_pos e]
    exact cq_mono (fun v Y r' K hv => ⟨_, hv.1, fun _ => rfl, hv.2.1.1, hv.2.1.2.1, hv.2.1.2.2, hv.2.2⟩) (c_tva_g h4 h hm e)
  · rw [show tvaT T n m s = rfT T n (vS T n s) from if_neg e]
    exact cq_mono (fun v Y r' K hv => ⟨_, hv.1, fun z => absurd z rfT_n, hv.2.1.1, hv.2.1.2.1, hv.2.1.2.2, hv.2.2⟩) (c_tva_b h4 h hm e)
/-- the draft: what it holds by a record A of its cells, and whose names -/
def NM (T : Nat → Nat) (n : Nat) (A : MI) (y : Nat) : Nat := w5 T n (A 26 y).toNatClampNeg
def nf (T : Nat → Nat) (n : Nat) (A : MI) (w : Nat) : Nat → Nat → Nat
  | 0, _ => 8
  | f + 1, i => if NM T n A i = w then i else nf T n A w f (i + 1)
def CN (T : Nat → Nat) (n : Nat) (A : MI) (b yn : Nat) (J : MJ) : Prop := ∀ y, y < yn → J (b + 10 + 2 * y) 0 = lN (NM T n A y) ∧ NM T n A y < 2 ^ 63
def CA (A : MI) (b : Nat) (X : MI) : Prop := ∀ c, c < 26 → X (b + c) = A c
theorem nf_le {T : Nat → Nat} {n : Nat} {A : MI} {w : Nat} : ∀ f i, i + f ≤ 8 → (nf T n A w f i < i + f ∧ NM T n A (nf T n A w f i) = w ∧ i ≤ nf T n A w f i) ∨ (nf T n A w f i = 8 ∧ ∀ y, i ≤ y → y < i + f → ¬ NM T n A y = w) := by
  intro f
  induction f with
  | zero => intro i _; exact Or.inr ⟨rfl, fun y h1 h2 => by omega⟩
  | succ f ih =>
    intro i h
    unfold nf
    by_cases e : NM T n A i = w
    · rw [if_pos e]; exact Or.inl ⟨by omega, e, Nat.le_refl _⟩
    · rw [if_neg e]
      rcases ih (i + 1) (by omega) with ⟨q1, q2, q3⟩ | ⟨q1, q2⟩
      · exact Or.inl ⟨by omega, q2, by omega⟩
      · refine Or.inr ⟨q1, fun y h1 h2 => ?_⟩
        by_cases z : y = i
        · rw [z]; exact e
        · exact q2 y (by omega) (by omega)
def ynV (T : Nat → Nat) (n : Nat) (A : MI) (x : Int64) (yn : Nat) : Nat → Nat → Int32
  | 0, _ => -1
  | f + 1, i => if lN (NM T n A i) = x then nI i else ynV T n A x yn f (i + 1)
theorem ynV_e {T : Nat → Nat} {n : Nat} {A : MI} {w yn : Nat} (hw : w < 2 ^ 63) (hN : ∀ y, y < yn → NM T n A y < 2 ^ 63) : ∀ f i, i + f = yn → yn ≤ 8 → (nf T n A w f i = 8 → ynV T n A (lN w) yn f i = -1) ∧ (nf T n A w f i < 8 → ynV T n A (lN w) yn f i = nI (nf T n A w f i)) := by
  intro f
  induction f with
  | zero => intro i _ _; exact ⟨fun _ => rfl, fun z => absurd z (by unfold nf; omega)⟩
  | succ f ih =>
    intro i h h8
    unfold nf ynV
    by_cases e : NM T n A i = w
    · rw [if_pos e, if_pos (by rw [e])]
      exact ⟨fun z => by omega, fun _ => rfl⟩
    · rw [if_neg e, if_neg (fun z => e ((lN_inj63 (hN i (by omega)) hw).mp z))]
      exact ih (i + 1) (by omega) h8
set_option maxRecDepth 100000 in
theorem l_ynm {T : Nat → Nat} {n : Nat} {A : MI} {b yn : Nat} (hb : SH b = (15, 18)) (X : MI) (r : MR) {J : MJ} (hN : CN T n A b yn J) (ey : X b 1 = nI yn) (h8 : yn ≤ 8) (x : Int64) : ∀ (f : Nat) (i : Nat) (_ : i + f = yn) (_ : ynV T n A x yn f i = ynV T n A x yn yn 0), Wq MX5_yardNamed 2 [some (.ref b), some (.long x), none, some (.int (nI i))] [] X r J (Rt (some (.int (ynV T n A x yn yn 0))) X r J) := by
  intro f
  induction f with
  | zero =>
    intro i hik hv
    refine x_iload_n (q := 3) dX5_yardNamed_2 rfl rfl ?_
    refine x_aload_n (q := 4) dX5_yardNamed_3 rfl rfl ?_
    refine q_gi (K := 1) (q := 7) dX5_yardNamed_4 rfl cl_5 (by decide) tw_164 hb rfl ?_
    refine x_icmp_ge (t := 32) (q := 10) dX5_yardNamed_7 (by decide) rfl (fun c7 => ?_) (fun c7 => absurd c7 (fun q => q (by rw [ey]; exact nI_le (by omega) (by omega))))
    refine x_iconst (-1) (q := 33) dX5_yardNamed_32 rfl (by decide) ?_
    refine q_iret dX5_yardNamed_33 rfl ?_
    rw [← hv]
    exact ⟨rfl, rfl, rfl, rfl⟩
  | succ f ih =>
    intro i hik hv
    refine x_iload_n (q := 3) dX5_yardNamed_2 rfl rfl ?_
    refine x_aload_n (q := 4) dX5_yardNamed_3 rfl rfl ?_
    refine q_gi (K := 1) (q := 7) dX5_yardNamed_4 rfl cl_5 (by decide) tw_164 hb rfl ?_
    refine x_icmp_ge (t := 32) (q := 10) dX5_yardNamed_7 (by decide) rfl (fun c7 => absurd c7 (by rw [ey]; exact nI_ge (by omega) (by omega))) (fun c7 => ?_)
    refine x_aload_n (q := 11) dX5_yardNamed_10 rfl rfl ?_
    refine q_gr (K := 0) (b := (b + 1)) (q := 14) dX5_yardNamed_11 rfl cl_5 (by decide) tw_158 hb rfl (lr_w hb _).1 ?_
    refine x_iload_n (q := 15) dX5_yardNamed_14 rfl rfl ?_
    refine q_aald4 (b := (b + 10 + 2 * i)) (q := 16) dX5_yardNamed_15 rfl (ls_w hb).1 (vp_in_nI (by omega) (by decide)) (by rw [nI_clamp (by omega)]; exact (ly_w hb (by omega) _).1) ?_
    refine q_gl (K := 0) (q := 19) dX5_yardNamed_16 rfl cl_10 (by decide) tw_124 (ly_w hb (show i < 8 by omega) r).2 rfl ?_
    refine x_lload_n (q := 20) dX5_yardNamed_19 rfl rfl ?_
    refine x_lcmp (q := 21) dX5_yardNamed_20 rfl ?_
    refine x_if_ne (t := 26) (q := 24) dX5_yardNamed_21 (by decide) rfl (fun c21 => ?_) (fun c21 => ?_)
    · obtain ⟨v1, ev1⟩ : ∃ y_ : Int32, y_ = (nI i) + 1 := ⟨_, rfl⟩
      refine x_iinc (v := v1) (L2 := [some (.ref b), some (.long x), none, some (.int v1)]) (q := 29) dX5_yardNamed_26 rfl (by decide) rfl rfl (by rw [ev1]; rfl) rfl ?_
      refine x_goto (t := 2) dX5_yardNamed_29 (by decide) ?_
      rw [(hN i (by omega)).1, lcmp_z] at c21
      rw [show v1 = nI (i + 1) by rw [ev1, nI_p1]]
      refine ih (i + 1) (by omega) ?_
      rw [← hv]
      conv => rhs; unfold ynV
      rw [if_neg c21]
    · refine x_iload_n (q := 25) dX5_yardNamed_24 rfl rfl ?_
      refine q_iret dX5_yardNamed_25 rfl ?_
      rw [(hN i (by omega)).1, lcmp_z] at c21
      have e : ynV T n A x yn (f + 1) i = nI i := if_pos c21
      rw [← hv, e]
      exact ⟨rfl, rfl, rfl, rfl⟩
set_option maxRecDepth 100000 in
theorem c_ynm {T : Nat → Nat} {n : Nat} {A : MI} {b yn : Nat} (hb : SH b = (15, 18)) (X : MI) (r : MR) {J : MJ} (hN : CN T n A b yn J) (ey : X b 1 = nI yn) (h8 : yn ≤ 8) (x : Int64) : Cq yX5_yardNamed MX5_yardNamed [.ref b, .long x] X r J (Rt (some (.int (ynV T n A x yn yn 0))) X r J) := by
  refine cq_of [some (.ref b), some (.long x), none, none] 1 (by decide +kernel) rfl rfl (Nat.le_of_ble_eq_true rfl) rfl ?_
  refine x_iconst (0) (q := 1) dX5_yardNamed_0 rfl (by decide) ?_
  refine x_istore_n (L2 := [some (.ref b), some (.long x), none, some (.int 0)]) (q := 2) dX5_yardNamed_1 rfl (by decide) rfl rfl ?_
  exact l_ynm hb X r hN ey h8 x yn 0 (by omega) rfl
def tyC (T : Nat → Nat) (n : Nat) (A : MI) (yn : Nat) (s : Nat × Nat × Nat) : Prop := naC T n s ∧ nf T n A (w5 T n s.2.2) yn 0 < 8
def tyaT (T : Nat → Nat) (n : Nat) (A : MI) (yn : Nat) (s : Nat × Nat × Nat) : Nat × Nat × Nat := if (tnaT T n s).1 = 0 ∧ nf T n A (w5 T n s.2.2) yn 0 < 8 then tnaT T n s else rf 5 (sk T n s.2.2) (tnaT T n s)
theorem tyaT_0 {T : Nat → Nat} {n : Nat} {A : MI} {yn : Nat} {s : Nat × Nat × Nat} (h : (tyaT T n A yn s).1 = 0) : naC T n s ∧ nf T n A (w5 T n s.2.2) yn 0 < 8 ∧ tyaT T n A yn s = adv T n s := by
  unfold tyaT at h ⊢
  by_cases e : (tnaT T n s).1 = 0 ∧ nf T n A (w5 T n s.2.2) yn 0 < 8
  · rw [if_pos e]
    have q := tnaT_0 e.1
    exact ⟨q.1, e.2, q.2⟩
  · rw [if_neg e] at h; exact absurd h (rf_n (by decide))
theorem rf_s {k g : Nat} {s : Nat × Nat × Nat} (h : ¬ s.1 = 0) : rf k g s = s := if_neg h
theorem w5_lt {T : Nat → Nat} {n p : Nat} (h : kd T n p = 2) : w5 T n p < 2 ^ 63 := w5_63 (kd2 h).2.2
set_option maxRecDepth 100000 in
theorem c_tya {T : Nat → Nat} {n : Nat} {r : MR} (h4 : r 4 = 1) {X : MI} {J : MJ} {s : Nat × Nat × Nat} (h : PS T n s X J) {A : MI} {b yn : Nat} (h2 : r 2 = b) (hb : SH b = (15, 18)) (hN : CN T n A b yn J) (ey : X b 1 = nI yn) (h8 : yn ≤ 8) (hb5 : b + 26 ≤ 54) : Cq yX8_takeYard MX8_takeYard [.ref 54] X r J (RX T n (tyaT T n A yn s) (nI (nf T n A (w5 T n s.2.2) yn 0)) X J r) := by
  have q1 := h.2.2.1
  have q2 := h.2.2.2.1
  have q3 := h.2.2.2.2.1
  have q4 := h.2.2.2.2.2.1
  have hL := h.2.2.2.2.2.2
  refine cq_of [some (.ref 54), none, none, none, none] 4 (by decide +kernel) rfl rfl (Nat.le_of_ble_eq_true rfl) rfl ?_
  refine x_aload_n (q := 1) dX8_takeYard_0 rfl rfl ?_
  refine q_gr (K := 0) (b := 55) (q := 4) dX8_takeYard_1 rfl cl_8 (by decide) tw_365 rfl rfl rfl ?_
  refine q_gi (K := 5) (q := 7) dX8_takeYard_4 rfl cl_6 (by decide) tw_338 rfl rfl ?_
  refine x_nmi (fun v1 ev1 => ?_)
  refine x_istore_n (L2 := [some (.ref 54), some (.int v1), none, none, none]) (q := 8) dX8_takeYard_7 rfl (by decide) rfl rfl ?_
  have ev11 : v1 = nI (sk T n s.2.2) := by rw [ev1]; exact hL.2.2.2.1
  refine x_aload_n (q := 9) dX8_takeYard_8 rfl rfl ?_
  refine q_callV (ci := 8) (N := 5) (T := TX8) (As := []) (rest := []) (q := 12) dX8_takeYard_9 rfl okX8_takeName tw_674 rfl rfl (c_tna h4 h) rfl rfl (Nat.le_of_ble_eq_true rfl) ⟨by decide, by decide⟩ ⟨rfl, rfl⟩ (fun rv_ Va r_ Ka hv_ => ?_)
  obtain ⟨xa, a1_, hxa, hps, hfp, a3_⟩ := hv_
  rw [a1_, a3_]
  have hNa : CN T n A b yn Ka := fun y hy => by rw [hfp.2.1 _ _ (by omega)]; exact hN y hy
  show Wq MX8_takeYard 12 [some (.ref 54), some (.int v1), none, none, none] [.long xa] Va r Ka _
  refine x_lstore_n (L2 := [some (.ref 54), some (.int v1), some (.long xa), none, none]) (q := 13) dX8_takeYard_12 rfl (by decide) rfl rfl ?_
  refine x_aload_n (q := 14) dX8_takeYard_13 rfl rfl ?_
  refine q_gr (K := 1) (b := b) (q := 17) dX8_takeYard_14 rfl cl_8 (by decide) tw_366 rfl rfl (congrArg some h2) ?_
  refine x_lload_n (q := 18) dX8_takeYard_17 rfl rfl ?_
  refine q_callV (ci := 5) (N := 18) (T := TX5) (As := [.long xa]) (rest := []) (q := 21) dX8_takeYard_18 rfl okX5_yardNamed tw_678 hb rfl (c_ynm hb Va r hNa (by rw [hfp.1 b (by omega) (by omega)]; exact ey) h8 xa) rfl rfl (Nat.le_of_ble_eq_true rfl) ⟨by decide, by decide⟩ ⟨rfl, rfl⟩ (fun rv_ I_ r_ J_ hv_ => ?_)
  obtain ⟨a1_, a2_, a3_, a4_⟩ := hv_
  rw [a1_, a2_, a3_, a4_]
  show Wq MX8_takeYard 21 [some (.ref 54), some (.int v1), some (.long xa), none, none] [.int (ynV T n A xa yn yn 0)] Va r Ka _
  refine x_nmi (fun v31 ev31 => ?_)
  refine x_istore (L2 := [some (.ref 54), some (.int v1), some (.long xa), none, some (.int v31)]) (q := 23) dX8_takeYard_21 rfl (by decide) rfl rfl ?_
  refine x_iload (q := 25) dX8_takeYard_23 rfl rfl ?_
  refine x_iconst (-1) (q := 26) dX8_takeYard_25 rfl (by decide) ?_
  refine x_icmp_ne (t := 35) (q := 29) dX8_takeYard_26 (by decide) rfl (fun c26 => ?_) (fun c26 => ?_)
  · refine x_iload (q := 37) dX8_takeYard_35 rfl rfl ?_
    refine q_iret dX8_takeYard_37 rfl ?_
    have ha0 : (tnaT T n s).1 = 0 → naC T n s ∧ xa = lN (w5 T n s.2.2) := fun z => ⟨(tnaT_0 z).1, hxa (tnaT_0 z).1⟩
    have key : (tnaT T n s).1 = 0 → (nf T n A (w5 T n s.2.2) yn 0 = 8 → v31 = -1) ∧ (nf T n A (w5 T n s.2.2) yn 0 < 8 → v31 = nI (nf T n A (w5 T n s.2.2) yn 0)) := fun z => by
      rw [ev31, (ha0 z).2]
      exact ynV_e (w5_lt (ha0 z).1.2.1) (fun y hy => (hN y hy).2) yn 0 (by omega) h8
    have nfl := nf_le (T := T) (n := n) (A := A) (w := w5 T n s.2.2) yn 0 (by omega)
    by_cases z : (tnaT T n s).1 = 0
    · have hlt : nf T n A (w5 T n s.2.2) yn 0 < 8 := by
        by_cases q : nf T n A (w5 T n s.2.2) yn 0 = 8
        · exact absurd ((key z).1 q) c26
        · omega
      rw [show tyaT T n A yn s = tnaT T n s from if_pos ⟨z, hlt⟩]
      exact ⟨_, rfl, fun _ => (key z).2 hlt, hps, hfp, rfl⟩
    · rw [show tyaT T n A yn s = tnaT T n s by unfold tyaT; rw [if_neg (fun q => z q.1), rf_s z]]
      exact ⟨_, rfl, fun q => absurd q z, hps, hfp, rfl⟩
  · refine x_aload_n (q := 30) dX8_takeYard_29 rfl rfl ?_
    refine x_iconst (5) (q := 31) dX8_takeYard_30 rfl (by decide) ?_
    refine x_iload_n (q := 32) dX8_takeYard_31 rfl rfl ?_
    refine q_callV (ci := 8) (N := 5) (T := TX8) (As := [.int 5, .int v1]) (rest := []) (q := 35) dX8_takeYard_32 rfl okX8_refuse tw_669 rfl rfl (by rw [ev11]; exact c_ref h4 hps (k := 5) (g := sk T n s.2.2) (by decide)) rfl rfl (Nat.le_of_ble_eq_true rfl) ⟨by decide, by decide⟩ ⟨rfl, rfl⟩ (fun rv_ Vb r_ Kb hv_ => ?_)
    obtain ⟨a1_, hb_, a3_⟩ := hv_
    rw [a1_, a3_]
    show Wq MX8_takeYard 35 [some (.ref 54), some (.int v1), some (.long xa), none, some (.int v31)] [] Vb r Kb _
    refine x_iload (q := 37) dX8_takeYard_35 rfl rfl ?_
    refine q_iret dX8_takeYard_37 rfl ?_
    have ha0 : (tnaT T n s).1 = 0 → naC T n s ∧ xa = lN (w5 T n s.2.2) := fun z => ⟨(tnaT_0 z).1, hxa (tnaT_0 z).1⟩
    have key : (tnaT T n s).1 = 0 → (nf T n A (w5 T n s.2.2) yn 0 = 8 → v31 = -1) ∧ (nf T n A (w5 T n s.2.2) yn 0 < 8 → v31 = nI (nf T n A (w5 T n s.2.2) yn 0)) := fun z => by
      rw [ev31, (ha0 z).2]
      exact ynV_e (w5_lt (ha0 z).1.2.1) (fun y hy => (hN y hy).2) yn 0 (by omega) h8
    have nfl := nf_le (T := T) (n := n) (A := A) (w := w5 T n s.2.2) yn 0 (by omega)
    have hno : ¬ ((tnaT T n s).1 = 0 ∧ nf T n A (w5 T n s.2.2) yn 0 < 8) := fun z => by
      rw [(key z.1).2 z.2] at c26
      exact absurd c26 (nI_nm1 (by omega))
    rw [show tyaT T n A yn s = rf 5 (sk T n s.2.2) (tnaT T n s) from if_neg hno]
    exact ⟨_, rfl, fun q => absurd q (rf_n (by decide)), hb_.1, hfp.tr hb_.2, rfl⟩
