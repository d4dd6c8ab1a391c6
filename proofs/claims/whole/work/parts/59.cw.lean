def mtN (D : Nat → Nat) (d : Nat) (o : Nat → Nat) (i : Nat) : Nat := D (8 * (if i = 0 then d else o (i - 1)) + o i)
def msN (D : Nat → Nat) (d : Nat) (o : Nat → Nat) : Nat → Nat
  | 0 => 0
  | i + 1 => msN D d o i + mtN D d o i
def wsN (D : Nat → Nat) (d : Nat) (o : Nat → Nat) (W : Nat → Nat → Bool) : Nat → Nat
  | 0 => 0
  | i + 1 => wsN D d o W i + (if W (o i) (min 71 ((msN D d o i + mtN D d o i) / 10)) then 1 else 0)
theorem wsN_le (D : Nat → Nat) (d : Nat) (o : Nat → Nat) (W : Nat → Nat → Bool) : ∀ i, wsN D d o W i ≤ i := by
  intro i
  induction i with
  | zero => exact Nat.le_refl _
  | succ i ih =>
    unfold wsN
    by_cases q : W (o i) (min 71 ((msN D d o i + mtN D d o i) / 10)) = true
    · rw [if_pos q]; omega
    · rw [if_neg q]; omega
theorem mtN_le {D : Nat → Nat} {d n i : Nat} {o : Nat → Nat} (hD : dl D) (hd : d < 8) (ho : ∀ k, k < n → o k < 8) (hi : i < n) : mtN D d o i ≤ 1000000 := by
  unfold mtN
  apply hD
  have h1 := ho i hi
  by_cases q : i = 0
  · rw [if_pos q]; omega
  · rw [if_neg q]
    have h2 := ho (i - 1) (by omega)
    omega
theorem msN_le {D : Nat → Nat} {d n : Nat} {o : Nat → Nat} (hD : dl D) (hd : d < 8) (ho : ∀ k, k < n → o k < 8) : ∀ i, i ≤ n → msN D d o i ≤ 1000000 * i := by
  intro i
  induction i with
  | zero => intro _; exact Nat.le_refl _
  | succ i ih =>
    intro hi
    have h1 := ih (by omega)
    have h2 := mtN_le hD hd ho (show i < n by omega)
    unfold msN
    omega
def Kr (I X : MI) : Prop := ∀ c j, ¬ scr c j → ¬ c = 84 → ¬ c = 130 → ¬ c = 80 → ¬ (c = 100 ∧ j = 61) → X c j = I c j
theorem Kr.tr {I X Y : MI} (h1 : Kr I X) (h2 : Kr X Y) : Kr I Y := fun c j q1 q2 q3 q4 q5 => (h2 c j q1 q2 q3 q4 q5).trans (h1 c j q1 q2 q3 q4 q5)
theorem Kp.kr {I X : MI} (h : Kp I X) : Kr I X := fun c j q _ _ _ _ => h c j q
theorem Kr_1 {I X : MI} {q : Nat} (h : F1 q I X) (hq : (81 ≤ q ∧ q ≤ 84) ∨ (128 ≤ q ∧ q ≤ 131)) : Kr I X := fun c j q1 q2 q3 _ _ => by
  rw [h c (fun e => ?_)]
  have : ¬ scr q j := fun z => q1 (by rw [e]; exact z)
  unfold scr at this
  omega
theorem Kr.cell {I X : MI} (h : Kr I X) {c : Nat} (hc : ∀ j, ¬ scr c j) (h1 : ¬ c = 84) (h2 : ¬ c = 130) (h3 : ¬ c = 80) (h4 : ¬ c = 100) : X c = I c := funext fun j => h c j (hc j) h1 h2 h3 (fun z => h4 z.1)
theorem Kr.L {I X : MI} {b : Nat} (hk : Kr I X) (hb : b ≤ 28) : ∀ c, regL b c → X c = I c := fun c q => hk.cell (fun j s => by unfold regL at q; unfold scr at s; omega) (by have := q.2; omega) (by have := q.2; omega) (by have := q.2; omega) (by have := q.2; omega)
theorem RelL_r {I I' : MI} {b yn wn hn sn st : Nat} (hk : Kr I I') (hb : b ≤ 28) (h : RelL I b yn wn hn sn st) : RelL I' b yn wn hn sn st := by
  refine RelL_c (fun c q1 q2 q3 => hk.cell (fun j s => ?_) (fun e => ?_) (fun e => ?_) (fun e => ?_) (fun e => ?_)) (hk 88 3 (by unfold scr; omega) (by decide) (by decide) (by decide) (by omega)) (fun j hj => hk 100 j (by unfold scr; omega) (by decide) (by decide) (by decide) (by omega)) hb h
  · unfold scr at s
    unfold regL regM at q3
    omega
  · unfold regL regM at q3; omega
  · unfold regL regM at q3; omega
  · unfold regL regM at q3; omega
  · exact q2 e
theorem fwV_r {I X : MI} {b hn st y : Nat} {sh much : Int32} {at0 : Nat} (hk : Kr I X) (hb : b ≤ 28) (hy : y < 8) : fwV X b hn st y sh much at0 = fwV I b hn st y sh much at0 := by
  unfold fwV
  congr 1
  funext k
  have e : yGet X y = yGet I y := by
    unfold yGet
    rw [hk.cell (c := 126) (fun j s => by unfold scr at s; omega) (by decide) (by decide) (by decide) (by decide), hk.cell (c := 127) (fun j s => by unfold scr at s; omega) (by decide) (by decide) (by decide) (by decide)]
  rw [e, fwG_c (hk.L hb) hy]
def fnd (yn : Nat) (W : Nat → Nat → Bool) (X : MI) : Prop := ∀ y s, y < yn → s < 72 → X 82 (72 * y + s) = 0 ∨ X 82 (72 * y + s) = if W y s then 2 else 1
def K3 (Z X : MI) : Prop := ∀ c, c ≠ 77 → c ≠ 78 → c ≠ 82 → X c = Z c
def Wb (I : MI) (b hn st : Nat) (much : Int32) (y s : Nat) : Bool := !decide (fwV I b hn st y 0 much s = -1)
theorem Wb_r {I X : MI} {b hn st y s : Nat} {much : Int32} (hk : Kr I X) (hb : b ≤ 28) (hy : y < 8) : Wb X b hn st much y s = Wb I b hn st much y s := by
  unfold Wb
  rw [fwV_r hk hb hy]
set_option maxRecDepth 100000 in
theorem c_mto0 {n d : Nat} {D o : Nat → Nat} {X : MI} (hD : dc 81 D X) (ho : oc 83 n o X) (hn : n ≤ 7) (hd : d < 8) (r : MR) (J : MJ) (h0 : 0 < n) : Cq yX3_minutesTo MX3_minutesTo [.ref 80, .int 0, .int (nI d)] X r J (Rt (some (.int (nI (mtN D d o 0)))) X r J) := by
  have hb0 := (ho 0 h0).1
  have e0 : X 83 (0 : Int32).toNatClampNeg = nI (o 0) := (ho 0 h0).2
  refine cq_of [some (.ref 80), some (.int 0), some (.int (nI d)), none] 1 (by decide +kernel) rfl rfl (Nat.le_of_ble_eq_true rfl) rfl ?_
  refine x_iload_n (q := 1) dX3_minutesTo_0 rfl rfl ?_
  refine x_if_ne (t := 8) (q := 4) dX3_minutesTo_1 (by decide) rfl (fun c1 => absurd c1 ((by decide))) (fun c1 => ?_)
  refine x_iload_n (q := 5) dX3_minutesTo_4 rfl rfl ?_
  refine x_goto (t := 16) dX3_minutesTo_5 (by decide) ?_
  refine x_istore_n (L2 := [some (.ref 80), some (.int 0), some (.int (nI d)), some (.int (nI d))]) (q := 17) dX3_minutesTo_16 rfl (by decide) rfl rfl ?_
  refine x_aload_n (q := 18) dX3_minutesTo_17 rfl rfl ?_
  refine q_gr (K := 0) (b := 81) (q := 21) dX3_minutesTo_18 rfl cl_3 (by decide) tw_486 rfl rfl rfl ?_
  refine x_iload_n (q := 22) dX3_minutesTo_21 rfl rfl ?_
  refine x_bipush (8) (q := 24) dX3_minutesTo_22 rfl (by decide) ?_
  refine x_imul (q := 25) dX3_minutesTo_24 rfl ?_
  refine x_aload_n (q := 26) dX3_minutesTo_25 rfl rfl ?_
  refine q_gr (K := 2) (b := 83) (q := 29) dX3_minutesTo_26 rfl cl_3 (by decide) tw_488 rfl rfl rfl ?_
  refine x_iload_n (q := 30) dX3_minutesTo_29 rfl rfl ?_
  refine q_iald (q := 31) dX3_minutesTo_30 rfl rfl (vin (by decide)) ?_
  refine x_iadd (q := 32) dX3_minutesTo_31 rfl ?_
  refine q_iald (q := 33) dX3_minutesTo_32 rfl rfl (by rw [e0, ix1]; exact vp_in_nI (by omega) (by decide)) ?_
  refine q_iret dX3_minutesTo_33 rfl ?_
  refine ⟨?_, rfl, rfl, rfl⟩
  rw [e0, ix1, nI_clamp (by omega), hD _ (by omega)]
  rfl
set_option maxRecDepth 100000 in
theorem c_mto1 {n d : Nat} {D o : Nat → Nat} {X : MI} (hD : dc 81 D X) (ho : oc 83 n o X) (hn : n ≤ 7) (hd : d < 8) (r : MR) (J : MJ) {i : Nat} (hi : i + 1 < n) : Cq yX3_minutesTo MX3_minutesTo [.ref 80, .int (nI (i + 1)), .int (nI d)] X r J (Rt (some (.int (nI (mtN D d o (i + 1))))) X r J) := by
  have hb0 := (ho i (by omega)).1
  have hb1 := (ho (i + 1) hi).1
  have e0 : X 83 (nI (i + 1) - 1).toNatClampNeg = nI (o i) := by rw [nI_n1, nI_clamp (by omega)]; exact (ho i (by omega)).2
  have e1 : X 83 (nI (i + 1)).toNatClampNeg = nI (o (i + 1)) := by rw [nI_clamp (by omega)]; exact (ho (i + 1) hi).2
  refine cq_of [some (.ref 80), some (.int (nI (i + 1))), some (.int (nI d)), none] 1 (by decide +kernel) rfl rfl (Nat.le_of_ble_eq_true rfl) rfl ?_
  refine x_iload_n (q := 1) dX3_minutesTo_0 rfl rfl ?_
  refine x_if_ne (t := 8) (q := 4) dX3_minutesTo_1 (by decide) rfl (fun c1 => ?_) (fun c1 => absurd c1 (nI_ne0 (by omega) (by omega)))
  refine x_aload_n (q := 9) dX3_minutesTo_8 rfl rfl ?_
  refine q_gr (K := 2) (b := 83) (q := 12) dX3_minutesTo_9 rfl cl_3 (by decide) tw_488 rfl rfl rfl ?_
  refine x_iload_n (q := 13) dX3_minutesTo_12 rfl rfl ?_
  refine x_iconst (1) (q := 14) dX3_minutesTo_13 rfl (by decide) ?_
  refine x_isub (q := 15) dX3_minutesTo_14 rfl ?_
  refine q_iald (q := 16) dX3_minutesTo_15 rfl rfl (by rw [nI_n1]; exact vp_in_nI (by omega) (by decide)) ?_
  refine x_nmi (fun v1 ev1 => ?_)
  refine x_istore_n (L2 := [some (.ref 80), some (.int (nI (i + 1))), some (.int (nI d)), some (.int v1)]) (q := 17) dX3_minutesTo_16 rfl (by decide) rfl rfl ?_
  refine x_aload_n (q := 18) dX3_minutesTo_17 rfl rfl ?_
  refine q_gr (K := 0) (b := 81) (q := 21) dX3_minutesTo_18 rfl cl_3 (by decide) tw_486 rfl rfl rfl ?_
  refine x_iload_n (q := 22) dX3_minutesTo_21 rfl rfl ?_
  refine x_bipush (8) (q := 24) dX3_minutesTo_22 rfl (by decide) ?_
  refine x_imul (q := 25) dX3_minutesTo_24 rfl ?_
  refine x_aload_n (q := 26) dX3_minutesTo_25 rfl rfl ?_
  refine q_gr (K := 2) (b := 83) (q := 29) dX3_minutesTo_26 rfl cl_3 (by decide) tw_488 rfl rfl rfl ?_
  refine x_iload_n (q := 30) dX3_minutesTo_29 rfl rfl ?_
  refine q_iald (q := 31) dX3_minutesTo_30 rfl rfl (vp_in_nI (by omega) (by decide)) ?_
  refine x_iadd (q := 32) dX3_minutesTo_31 rfl ?_
  refine q_iald (q := 33) dX3_minutesTo_32 rfl rfl (by rw [ev1, e0, e1, ix1]; exact vp_in_nI (by omega) (by decide)) ?_
  refine q_iret dX3_minutesTo_33 rfl ?_
  refine ⟨?_, rfl, rfl, rfl⟩
  rw [ev1, e0, e1, ix1, nI_clamp (by omega), hD _ (by omega)]
  unfold mtN
  rw [if_neg (by omega), show i + 1 - 1 = i by omega]
theorem c_mto {n d : Nat} {D o : Nat → Nat} {X : MI} (hD : dc 81 D X) (ho : oc 83 n o X) (hn : n ≤ 7) (hd : d < 8) (r : MR) (J : MJ) {i : Nat} (hi : i < n) : Cq yX3_minutesTo MX3_minutesTo [.ref 80, .int (nI i), .int (nI d)] X r J (Rt (some (.int (nI (mtN D d o i)))) X r J) := by
  cases i with
  | zero => exact c_mto0 hD ho hn hd r J hi
  | succ i => exact c_mto1 hD ho hn hd r J hi
theorem i72 (a : Nat) : nI a * 72 = nI (72 * a) := by
  rw [show (72 : Int32) = nI 72 from rfl, pk_mul, Nat.mul_comm]
theorem st71 {m : Nat} (h : m < 2 ^ 31) : (if nI m / 10 < 71 then nI m / 10 else 71) = nI (min 71 (m / 10)) := by
  rw [show nI m / 10 = nI (m / 10) from pk_div (a := m) (d := 10) h (by decide) (by decide)]
  by_cases q : m / 10 < 71
  · rw [if_pos (show nI (m / 10) < 71 from (nI_ltI (b := 71) (by omega) (by omega)).mpr q), show min 71 (m / 10) = m / 10 by omega]
  · rw [if_neg (show ¬ nI (m / 10) < 71 from fun z => q ((nI_ltI (b := 71) (by omega) (by omega)).mp z)), show min 71 (m / 10) = 71 by omega]
    rfl
set_option maxRecDepth 100000 in
theorem l_cw {Z : MI} {b yn wn hn sn st : Nat} {r : MR} (J : MJ) (hr : RefOk r b) (h : RelL Z b yn wn hn sn st) {n d : Nat} {D o : Nat → Nat} (hD : dc 81 D Z) (hDl : dl D) (ho : oc 83 n o Z) (hoy : ∀ k, k < n → o k < yn) (hn7 : n ≤ 7) (hd : d < yn) (hdp : Z b 15 = nI d) {much : Int32} (hm : 0 ≤ much.toInt ∧ much.toInt ≤ 99) {W : Nat → Nat → Bool} (hW : ∀ y s, y < yn → s < 72 → W y s = Wb Z b hn st much y s) : ∀ (f : Nat) (i : Nat) (X : MI) (x8 x9 : Option Value) (_ : i + f = n) (_ : K3 Z X ∧ fnd yn W X), Wq MX3_countWhite 9 [some (.ref 80), some (.ref 58), some (.ref 76), some (.int (nI n)), some (.int much), some (.int (nI (msN D d o i))), some (.int (nI (wsN D d o W i))), some (.int (nI i)), x8, x9] [] X r J (Rp (some (.int (nI (wsN D d o W n)))) (fun Y => K3 Z Y ∧ fnd yn W Y) r J) := by
  have hb28 := (refs_L hr).2
  have h8 : yn ≤ 8 := h.1.2.2.1
  intro f
  induction f with
  | zero =>
    intro i X x8 x9 hik hX
    have hD1 : dc 81 D X := fun j hj => by rw [hX.1 81 (by decide) (by decide) (by decide)]; exact hD j hj
    have ho1 : oc 83 n o X := fun j hj => by rw [hX.1 83 (by decide) (by decide) (by decide)]; exact ho j hj
    have hdp1 : X b 15 = nI d := by rw [hX.1 b (by omega) (by omega) (by omega)]; exact hdp
    refine x_iload (q := 11) dX3_countWhite_9 rfl rfl ?_
    refine x_iload_n (q := 12) dX3_countWhite_11 rfl rfl ?_
    refine x_icmp_ge (t := 124) (q := 15) dX3_countWhite_12 (by decide) rfl (fun c12 => ?_) (fun c12 => absurd c12 (fun q => q (nI_le (by omega) (by omega))))
    refine x_iload (q := 126) dX3_countWhite_124 rfl rfl ?_
    refine q_iret dX3_countWhite_126 rfl ?_
    rw [show i = n by omega]
    exact ⟨rfl, hX, rfl, rfl⟩
  | succ f ih =>
    intro i X x8 x9 hik hX
    have hD1 : dc 81 D X := fun j hj => by rw [hX.1 81 (by decide) (by decide) (by decide)]; exact hD j hj
    have ho1 : oc 83 n o X := fun j hj => by rw [hX.1 83 (by decide) (by decide) (by decide)]; exact ho j hj
    have hdp1 : X b 15 = nI d := by rw [hX.1 b (by omega) (by omega) (by omega)]; exact hdp
    refine x_iload (q := 11) dX3_countWhite_9 rfl rfl ?_
    refine x_iload_n (q := 12) dX3_countWhite_11 rfl rfl ?_
    refine x_icmp_ge (t := 124) (q := 15) dX3_countWhite_12 (by decide) rfl (fun c12 => absurd c12 (nI_ge (by omega) (by omega))) (fun c12 => ?_)
    refine x_iload (q := 17) dX3_countWhite_15 rfl rfl ?_
    refine x_aload_n (q := 18) dX3_countWhite_17 rfl rfl ?_
    refine x_iload (q := 20) dX3_countWhite_18 rfl rfl ?_
    refine x_aload_n (q := 21) dX3_countWhite_20 rfl rfl ?_
    refine q_gr (K := 0) (b := b) (q := 24) dX3_countWhite_21 rfl cl_1 (by decide) tw_425 rfl rfl (by rw [← hr.2.1]; rfl) ?_
    refine q_gi (K := 15) (q := 27) dX3_countWhite_24 rfl cl_5 (by decide) tw_222 h.1.1 rfl ?_
    refine q_callV (ci := 3) (N := 7) (T := TX3) (As := [.int (nI i), .int (X b 15)]) (rest := [.int (nI (msN D d o i))]) (q := 30) dX3_countWhite_27 rfl okX3_minutesTo tw_950 rfl rfl (by rw [hdp1]; exact c_mto hD1 ho1 hn7 (by omega) r J (by omega)) rfl rfl (Nat.le_of_ble_eq_true rfl) ⟨by decide, by decide⟩ ⟨rfl, rfl⟩ (fun rv_ I_ r_ J_ hv_ => ?_)
    obtain ⟨a1_, a2_, a3_, a4_⟩ := hv_
    rw [a1_, a2_, a3_, a4_]
    show Wq MX3_countWhite 30 [some (.ref 80), some (.ref 58), some (.ref 76), some (.int (nI n)), some (.int much), some (.int (nI (msN D d o i))), some (.int (nI (wsN D d o W i))), some (.int (nI i)), x8, x9] [.int (nI (mtN D d o i)), .int (nI (msN D d o i))] X r J _
    refine x_iadd (q := 31) dX3_countWhite_30 rfl ?_
    refine x_nmi (fun v1 ev1 => ?_)
    refine x_istore (L2 := [some (.ref 80), some (.ref 58), some (.ref 76), some (.int (nI n)), some (.int much), some (.int v1), some (.int (nI (wsN D d o W i))), some (.int (nI i)), x8, x9]) (q := 33) dX3_countWhite_31 rfl (by decide) rfl rfl ?_
    have h1 := msN_le hDl (show d < 8 by omega) (fun k hk => (ho k hk).1) i (by omega)
    have h2 := mtN_le hDl (show d < 8 by omega) (fun k hk => (ho k hk).1) (show i < n by omega)
    have hoi := hoy i (by omega)
    have eo : X 83 (nI i).toNatClampNeg = nI (o i) := by rw [nI_clamp (by omega)]; exact (ho1 i (by omega)).2
    rw [nI_add] at ev1
    subst ev1
    refine x_bipush (71) (q := 35) dX3_countWhite_33 rfl (by decide) ?_
    refine x_iload (q := 37) dX3_countWhite_35 rfl rfl ?_
    refine x_bipush (10) (q := 39) dX3_countWhite_37 rfl (by decide) ?_
    refine x_idiv (q := 40) dX3_countWhite_39 rfl (by decide) ?_
    refine x_min (q := 43) dX3_countWhite_40 rfl tw_938 mm_min_s mm_i mm_min_c (by decide) (Nat.le_of_ble_eq_true rfl) (by decide) (by decide) ?_
    refine x_nmi (fun v21 ev21 => ?_)
    refine x_istore (L2 := [some (.ref 80), some (.ref 58), some (.ref 76), some (.int (nI n)), some (.int much), some (.int (nI (msN D d o i + mtN D d o i))), some (.int (nI (wsN D d o W i))), some (.int (nI i)), some (.int v21), x9]) (q := 45) dX3_countWhite_43 rfl (by decide) rfl rfl ?_
    rw [st71 (by omega)] at ev21
    subst ev21
    refine x_aload_n (q := 46) dX3_countWhite_45 rfl rfl ?_
    refine q_gr (K := 2) (b := 83) (q := 49) dX3_countWhite_46 rfl cl_3 (by decide) tw_488 rfl rfl rfl ?_
    refine x_iload (q := 51) dX3_countWhite_49 rfl rfl ?_
    refine q_iald (q := 52) dX3_countWhite_51 rfl rfl (vp_in_nI (by omega) (by decide)) ?_
    refine x_bipush (72) (q := 54) dX3_countWhite_52 rfl (by decide) ?_
    refine x_imul (q := 55) dX3_countWhite_54 rfl ?_
    refine x_iload (q := 57) dX3_countWhite_55 rfl rfl ?_
    refine x_iadd (q := 58) dX3_countWhite_57 rfl ?_
    refine x_nmi (fun v31 ev31 => ?_)
    refine x_istore (L2 := [some (.ref 80), some (.ref 58), some (.ref 76), some (.int (nI n)), some (.int much), some (.int (nI (msN D d o i + mtN D d o i))), some (.int (nI (wsN D d o W i))), some (.int (nI i)), some (.int (nI (min 71 ((msN D d o i + mtN D d o i) / 10)))), some (.int v31)]) (q := 60) dX3_countWhite_58 rfl (by decide) rfl rfl ?_
    rw [eo, i72] at ev31
    rw [nI_add] at ev31
    subst ev31
    have hKrX : Kr Z X := fun c j q1 q2 q3 q4 q5 => by rw [hX.1 c (fun e => q1 (by unfold scr; omega)) (fun e => q1 (by unfold scr; omega)) (fun e => q1 (by unfold scr; omega))]
    have hRX := RelL_r hKrX hb28 h
    refine x_aload_n (q := 61) dX3_countWhite_60 rfl rfl ?_
    refine q_gr (K := 1) (b := 82) (q := 64) dX3_countWhite_61 rfl cl_3 (by decide) tw_487 rfl rfl rfl ?_
    refine x_iload (q := 66) dX3_countWhite_64 rfl rfl ?_
    refine q_bald (q := 67) dX3_countWhite_66 rfl rfl (vp_in_nI (by omega) (by decide)) ?_
    refine x_if_ne (t := 104) (q := 70) dX3_countWhite_67 (by decide) rfl (fun c67 => ?_) (fun c67 => ?_)
    · have hf : X 82 (72 * o i + min 71 ((msN D d o i + mtN D d o i) / 10)) = if W (o i) (min 71 ((msN D d o i + mtN D d o i) / 10)) then 2 else 1 := by
        rcases hX.2 (o i) (min 71 ((msN D d o i + mtN D d o i) / 10)) hoi (by omega) with q | q
        · rw [nI_clamp (by omega)] at c67; exact absurd q c67
        · exact q
      have hY : K3 Z X ∧ fnd yn W X := hX
      have hfz : X 82 (nI (72 * o i + min 71 ((msN D d o i + mtN D d o i) / 10))).toNatClampNeg - 1 = nI (if W (o i) (min 71 ((msN D d o i + mtN D d o i) / 10)) then 1 else 0) := by
        rw [nI_clamp (by omega), hf]
        cases W (o i) (min 71 ((msN D d o i + mtN D d o i) / 10)) <;> rfl
      refine x_iload (q := 106) dX3_countWhite_104 rfl rfl ?_
      refine x_aload_n (q := 107) dX3_countWhite_106 rfl rfl ?_
      refine q_gr (K := 1) (b := 82) (q := 110) dX3_countWhite_107 rfl cl_3 (by decide) tw_487 rfl rfl rfl ?_
      refine x_iload (q := 112) dX3_countWhite_110 rfl rfl ?_
      refine q_bald (q := 113) dX3_countWhite_112 rfl rfl (vp_in_nI (by omega) (by decide)) ?_
      refine x_iconst (1) (q := 114) dX3_countWhite_113 rfl (by decide) ?_
      refine x_isub (q := 115) dX3_countWhite_114 rfl ?_
      refine x_iadd (q := 116) dX3_countWhite_115 rfl ?_
      refine x_nmi (fun v61 ev61 => ?_)
      refine x_istore (L2 := [some (.ref 80), some (.ref 58), some (.ref 76), some (.int (nI n)), some (.int much), some (.int (nI (msN D d o i + mtN D d o i))), some (.int v61), some (.int (nI i)), some (.int (nI (min 71 ((msN D d o i + mtN D d o i) / 10)))), some (.int (nI (72 * o i + min 71 ((msN D d o i + mtN D d o i) / 10))))]) (q := 118) dX3_countWhite_116 rfl (by decide) rfl rfl ?_
      obtain ⟨v62, ev62⟩ : ∃ y_ : Int32, y_ = (nI i) + 1 := ⟨_, rfl⟩
      refine x_iinc (v := v62) (L2 := [some (.ref 80), some (.ref 58), some (.ref 76), some (.int (nI n)), some (.int much), some (.int (nI (msN D d o i + mtN D d o i))), some (.int v61), some (.int v62), some (.int (nI (min 71 ((msN D d o i + mtN D d o i) / 10)))), some (.int (nI (72 * o i + min 71 ((msN D d o i + mtN D d o i) / 10))))]) (q := 121) dX3_countWhite_118 rfl (by decide) rfl rfl (by rw [ev62]; rfl) rfl ?_
      refine x_goto (t := 9) dX3_countWhite_121 (by decide) ?_
      rw [hfz, nI_add] at ev61
      rw [ev61, show v62 = nI (i + 1) by rw [ev62, nI_p1]]
      exact ih (i + 1) _ _ _ (by omega) hY
    · refine x_aload_n (q := 71) dX3_countWhite_70 rfl rfl ?_
      refine q_gr (K := 1) (b := 82) (q := 74) dX3_countWhite_71 rfl cl_3 (by decide) tw_487 rfl rfl rfl ?_
      refine x_iload (q := 76) dX3_countWhite_74 rfl rfl ?_
      refine x_aload_n (q := 77) dX3_countWhite_76 rfl rfl ?_
      refine x_aload_n (q := 78) dX3_countWhite_77 rfl rfl ?_
      refine x_aload_n (q := 79) dX3_countWhite_78 rfl rfl ?_
      refine q_gr (K := 2) (b := 83) (q := 82) dX3_countWhite_79 rfl cl_3 (by decide) tw_488 rfl rfl rfl ?_
      refine x_iload (q := 84) dX3_countWhite_82 rfl rfl ?_
      refine q_iald (q := 85) dX3_countWhite_84 rfl rfl (vp_in_nI (by omega) (by decide)) ?_
      refine x_iconst (0) (q := 86) dX3_countWhite_85 rfl (by decide) ?_
      refine x_iload (q := 88) dX3_countWhite_86 rfl rfl ?_
      refine x_iload (q := 90) dX3_countWhite_88 rfl rfl ?_
      refine q_callV (ci := 7) (N := 1) (T := TX7) (As := [.ref 58, .int (X 83 (nI i).toNatClampNeg), .int 0, .int much, .int (nI (min 71 ((msN D d o i + mtN D d o i) / 10)))]) (rest := [.int (nI (72 * o i + min 71 ((msN D d o i + mtN D d o i) / 10))), .ref 82]) (q := 93) dX3_countWhite_90 rfl okX7_firstWhite tw_958 rfl rfl (by rw [eo]; exact k_fw J hr hRX (y := o i) hoi sh0k hm (show (min 71 ((msN D d o i + mtN D d o i) / 10)) < 1000 by omega)) rfl rfl (Nat.le_of_ble_eq_true rfl) ⟨by decide, by decide⟩ ⟨rfl, rfl⟩ (fun rv_ I_ r_ J_ hv_ => ?_)
      obtain ⟨a1_, ⟨Gx, a2_⟩, a3_, a4_⟩ := hv_
      rw [a1_, a2_, a3_, a4_]
      show Wq MX3_countWhite 93 [some (.ref 80), some (.ref 58), some (.ref 76), some (.int (nI n)), some (.int much), some (.int (nI (msN D d o i + mtN D d o i))), some (.int (nI (wsN D d o W i))), some (.int (nI i)), some (.int (nI (min 71 ((msN D d o i + mtN D d o i) / 10)))), some (.int (nI (72 * o i + min 71 ((msN D d o i + mtN D d o i) / 10))))] [.int (fwV X b hn st (o i) 0 much (min 71 ((msN D d o i + mtN D d o i) / 10))), .int (nI (72 * o i + min 71 ((msN D d o i + mtN D d o i) / 10))), .ref 82] (gPut X 77 Gx) r J _
      refine x_iconst (-1) (q := 94) dX3_countWhite_93 rfl (by decide) ?_
      have fwe : fwV X b hn st (o i) 0 much (min 71 ((msN D d o i + mtN D d o i) / 10)) = fwV Z b hn st (o i) 0 much (min 71 ((msN D d o i + mtN D d o i) / 10)) := fwV_r hKrX hb28 (by omega)
      refine x_icmp_ne (t := 101) (q := 97) dX3_countWhite_94 (by decide) rfl (fun c94 => ?_) (fun c94 => ?_)
      · refine x_iconst (2) (q := 102) dX3_countWhite_101 rfl (by decide) ?_
        refine x_i2b (q := 103) dX3_countWhite_102 rfl ?_
        refine q_bast (q := 104) dX3_countWhite_103 rfl rfl (vp_in_nI (by omega) (by decide)) (fun I51 eI51 => ?_)
        have hYv : I51 = upI (gPut X 77 Gx) 82 (72 * o i + min 71 ((msN D d o i + mtN D d o i) / 10)) (if W (o i) (min 71 ((msN D d o i + mtN D d o i) / 10)) then 2 else 1) := by
          rw [hW (o i) (min 71 ((msN D d o i + mtN D d o i) / 10)) hoi (by omega), eI51, nI_clamp (by omega)]
          unfold Wb
          rw [← fwe]
          rw [decide_eq_false c94]; rfl
        have hK3 : K3 Z I51 := fun c q1 q2 q3 => by rw [hYv, upc q3, g77c q1 q2]; exact hX.1 c q1 q2 q3
        have hf : I51 82 (72 * o i + min 71 ((msN D d o i + mtN D d o i) / 10)) = if W (o i) (min 71 ((msN D d o i + mtN D d o i) / 10)) then 2 else 1 := by rw [hYv, upq]
        have hY : K3 Z I51 ∧ fnd yn W I51 := ⟨hK3, fun y s hy hs => by
          by_cases e : 72 * y + s = (72 * o i + min 71 ((msN D d o i + mtN D d o i) / 10))
          · right
            have e1 : y = o i := by omega
            have e2 : s = (min 71 ((msN D d o i + mtN D d o i) / 10)) := by omega
            rw [e, hf, e1, ← e2]
          · rw [hYv, ups e, g77c (by decide) (by decide)]
            exact hX.2 y s hy hs⟩
        have hfz : I51 82 (nI (72 * o i + min 71 ((msN D d o i + mtN D d o i) / 10))).toNatClampNeg - 1 = nI (if W (o i) (min 71 ((msN D d o i + mtN D d o i) / 10)) then 1 else 0) := by
          rw [nI_clamp (by omega), hf]
          cases W (o i) (min 71 ((msN D d o i + mtN D d o i) / 10)) <;> rfl
        refine x_iload (q := 106) dX3_countWhite_104 rfl rfl ?_
        refine x_aload_n (q := 107) dX3_countWhite_106 rfl rfl ?_
        refine q_gr (K := 1) (b := 82) (q := 110) dX3_countWhite_107 rfl cl_3 (by decide) tw_487 rfl rfl rfl ?_
        refine x_iload (q := 112) dX3_countWhite_110 rfl rfl ?_
        refine q_bald (q := 113) dX3_countWhite_112 rfl rfl (vp_in_nI (by omega) (by decide)) ?_
        refine x_iconst (1) (q := 114) dX3_countWhite_113 rfl (by decide) ?_
        refine x_isub (q := 115) dX3_countWhite_114 rfl ?_
        refine x_iadd (q := 116) dX3_countWhite_115 rfl ?_
        refine x_nmi (fun v61 ev61 => ?_)
        refine x_istore (L2 := [some (.ref 80), some (.ref 58), some (.ref 76), some (.int (nI n)), some (.int much), some (.int (nI (msN D d o i + mtN D d o i))), some (.int v61), some (.int (nI i)), some (.int (nI (min 71 ((msN D d o i + mtN D d o i) / 10)))), some (.int (nI (72 * o i + min 71 ((msN D d o i + mtN D d o i) / 10))))]) (q := 118) dX3_countWhite_116 rfl (by decide) rfl rfl ?_
        obtain ⟨v62, ev62⟩ : ∃ y_ : Int32, y_ = (nI i) + 1 := ⟨_, rfl⟩
        refine x_iinc (v := v62) (L2 := [some (.ref 80), some (.ref 58), some (.ref 76), some (.int (nI n)), some (.int much), some (.int (nI (msN D d o i + mtN D d o i))), some (.int v61), some (.int v62), some (.int (nI (min 71 ((msN D d o i + mtN D d o i) / 10)))), some (.int (nI (72 * o i + min 71 ((msN D d o i + mtN D d o i) / 10))))]) (q := 121) dX3_countWhite_118 rfl (by decide) rfl rfl (by rw [ev62]; rfl) rfl ?_
        refine x_goto (t := 9) dX3_countWhite_121 (by decide) ?_
        rw [hfz, nI_add] at ev61
        rw [ev61, show v62 = nI (i + 1) by rw [ev62, nI_p1]]
        exact ih (i + 1) _ _ _ (by omega) hY
      · refine x_iconst (1) (q := 98) dX3_countWhite_97 rfl (by decide) ?_
        refine x_goto (t := 102) dX3_countWhite_98 (by decide) ?_
        refine x_i2b (q := 103) dX3_countWhite_102 rfl ?_
        refine q_bast (q := 104) dX3_countWhite_103 rfl rfl (vp_in_nI (by omega) (by decide)) (fun I51 eI51 => ?_)
        have hYv : I51 = upI (gPut X 77 Gx) 82 (72 * o i + min 71 ((msN D d o i + mtN D d o i) / 10)) (if W (o i) (min 71 ((msN D d o i + mtN D d o i) / 10)) then 2 else 1) := by
          rw [hW (o i) (min 71 ((msN D d o i + mtN D d o i) / 10)) hoi (by omega), eI51, nI_clamp (by omega)]
          unfold Wb
          rw [← fwe]
          rw [c94]; rfl
        have hK3 : K3 Z I51 := fun c q1 q2 q3 => by rw [hYv, upc q3, g77c q1 q2]; exact hX.1 c q1 q2 q3
        have hf : I51 82 (72 * o i + min 71 ((msN D d o i + mtN D d o i) / 10)) = if W (o i) (min 71 ((msN D d o i + mtN D d o i) / 10)) then 2 else 1 := by rw [hYv, upq]
        have hY : K3 Z I51 ∧ fnd yn W I51 := ⟨hK3, fun y s hy hs => by
          by_cases e : 72 * y + s = (72 * o i + min 71 ((msN D d o i + mtN D d o i) / 10))
          · right
            have e1 : y = o i := by omega
            have e2 : s = (min 71 ((msN D d o i + mtN D d o i) / 10)) := by omega
            rw [e, hf, e1, ← e2]
          · rw [hYv, ups e, g77c (by decide) (by decide)]
            exact hX.2 y s hy hs⟩
        have hfz : I51 82 (nI (72 * o i + min 71 ((msN D d o i + mtN D d o i) / 10))).toNatClampNeg - 1 = nI (if W (o i) (min 71 ((msN D d o i + mtN D d o i) / 10)) then 1 else 0) := by
          rw [nI_clamp (by omega), hf]
          cases W (o i) (min 71 ((msN D d o i + mtN D d o i) / 10)) <;> rfl
        refine x_iload (q := 106) dX3_countWhite_104 rfl rfl ?_
        refine x_aload_n (q := 107) dX3_countWhite_106 rfl rfl ?_
        refine q_gr (K := 1) (b := 82) (q := 110) dX3_countWhite_107 rfl cl_3 (by decide) tw_487 rfl rfl rfl ?_
        refine x_iload (q := 112) dX3_countWhite_110 rfl rfl ?_
        refine q_bald (q := 113) dX3_countWhite_112 rfl rfl (vp_in_nI (by omega) (by decide)) ?_
        refine x_iconst (1) (q := 114) dX3_countWhite_113 rfl (by decide) ?_
        refine x_isub (q := 115) dX3_countWhite_114 rfl ?_
        refine x_iadd (q := 116) dX3_countWhite_115 rfl ?_
        refine x_nmi (fun v61 ev61 => ?_)
        refine x_istore (L2 := [some (.ref 80), some (.ref 58), some (.ref 76), some (.int (nI n)), some (.int much), some (.int (nI (msN D d o i + mtN D d o i))), some (.int v61), some (.int (nI i)), some (.int (nI (min 71 ((msN D d o i + mtN D d o i) / 10)))), some (.int (nI (72 * o i + min 71 ((msN D d o i + mtN D d o i) / 10))))]) (q := 118) dX3_countWhite_116 rfl (by decide) rfl rfl ?_
        obtain ⟨v62, ev62⟩ : ∃ y_ : Int32, y_ = (nI i) + 1 := ⟨_, rfl⟩
        refine x_iinc (v := v62) (L2 := [some (.ref 80), some (.ref 58), some (.ref 76), some (.int (nI n)), some (.int much), some (.int (nI (msN D d o i + mtN D d o i))), some (.int v61), some (.int v62), some (.int (nI (min 71 ((msN D d o i + mtN D d o i) / 10)))), some (.int (nI (72 * o i + min 71 ((msN D d o i + mtN D d o i) / 10))))]) (q := 121) dX3_countWhite_118 rfl (by decide) rfl rfl (by rw [ev62]; rfl) rfl ?_
        refine x_goto (t := 9) dX3_countWhite_121 (by decide) ?_
        rw [hfz, nI_add] at ev61
        rw [ev61, show v62 = nI (i + 1) by rw [ev62, nI_p1]]
        exact ih (i + 1) _ _ _ (by omega) hY
set_option maxRecDepth 100000 in
theorem c_cw {Z : MI} {b yn wn hn sn st : Nat} {r : MR} (J : MJ) (hr : RefOk r b) (h : RelL Z b yn wn hn sn st) {n d : Nat} {D o : Nat → Nat} (hD : dc 81 D Z) (hDl : dl D) (ho : oc 83 n o Z) (hoy : ∀ k, k < n → o k < yn) (hn7 : n ≤ 7) (hd : d < yn) (hdp : Z b 15 = nI d) {much : Int32} (hm : 0 ≤ much.toInt ∧ much.toInt ≤ 99) {W : Nat → Nat → Bool} (hW : ∀ y s, y < yn → s < 72 → W y s = Wb Z b hn st much y s) (hf : fnd yn W Z) : Cq yX3_countWhite MX3_countWhite [.ref 80, .ref 58, .ref 76, .int (nI n), .int much] Z r J (Rp (some (.int (nI (wsN D d o W n)))) (fun Y => K3 Z Y ∧ fnd yn W Y) r J) := by
  refine cq_of [some (.ref 80), some (.ref 58), some (.ref 76), some (.int (nI n)), some (.int much), none, none, none, none, none] 5 (by decide +kernel) rfl rfl (Nat.le_of_ble_eq_true rfl) rfl ?_
  refine x_iconst (0) (q := 1) dX3_countWhite_0 rfl (by decide) ?_
  refine x_istore (L2 := [some (.ref 80), some (.ref 58), some (.ref 76), some (.int (nI n)), some (.int much), some (.int 0), none, none, none, none]) (q := 3) dX3_countWhite_1 rfl (by decide) rfl rfl ?_
  refine x_iconst (0) (q := 4) dX3_countWhite_3 rfl (by decide) ?_
  refine x_istore (L2 := [some (.ref 80), some (.ref 58), some (.ref 76), some (.int (nI n)), some (.int much), some (.int 0), some (.int 0), none, none, none]) (q := 6) dX3_countWhite_4 rfl (by decide) rfl rfl ?_
  refine x_iconst (0) (q := 7) dX3_countWhite_6 rfl (by decide) ?_
  refine x_istore (L2 := [some (.ref 80), some (.ref 58), some (.ref 76), some (.int (nI n)), some (.int much), some (.int 0), some (.int 0), some (.int 0), none, none]) (q := 9) dX3_countWhite_7 rfl (by decide) rfl rfl ?_
  exact l_cw J hr h hD hDl ho hoy hn7 hd hdp hm hW n 0 Z _ _ (by omega) ⟨fun _ _ _ _ => rfl, hf⟩
