/-- all but the outlook's ground stays -/
def K7 (I X : MI) : Prop := ∀ c, c ≠ 77 → c ≠ 78 → X c = I c
theorem K7.kp {I X : MI} (h : K7 I X) : Kp I X := fun c j s => by rw [h c (fun e => s (by unfold scr; omega)) (fun e => s (by unfold scr; omega))]
theorem K7.tr {I X Y : MI} (h : K7 I X) (h2 : K7 X Y) : K7 I Y := fun c c1 c2 => by rw [h2 c c1 c2, h c c1 c2]
theorem K7_77 {I : MI} (G : GT) : K7 I (gPut I 77 G) := fun c c1 c2 => g77c c1 c2
theorem kk_fw7 {I X : MI} {b yn wn hn sn st y : Nat} {r : MR} (J : MJ) (hr : RefOk r b) (h : RelL I b yn wn hn sn st) (hX : K7 I X) (hy : y < yn) {sh : Int32} (hsh : ShOk sh) {much : Int32} {at0 : Nat} (hm : 0 ≤ much.toInt ∧ much.toInt ≤ 99) (hat : at0 < 1000) : Cq yX7_firstWhite MX7_firstWhite [.ref 76, .ref 58, .int (nI y), .int sh, .int much, .int (nI at0)] X r J (Rp (some (.int (fwV I b hn st y sh much at0))) (K7 I) r J) := by
  have hb := (refs_L hr).2
  refine cq_mono (fun v I' r' J' hv => ?_) (k_fw J hr (RelL_k hX.kp hb h) hy hsh hm hat)
  obtain ⟨a1, ⟨G, a2⟩, a3, a4⟩ := hv
  rw [fwV_k hX.kp hb (by have := h.1.2.2.1; omega)] at a1
  exact ⟨a1, hX.tr (by rw [a2]; exact K7_77 G), a3, a4⟩
def cY (p : Nat → Bool) : Nat → Nat
  | 0 => 0
  | n + 1 => cY p n + (if p n then 1 else 0)
theorem cY_s (p : Nat → Bool) (n : Nat) : cY p (n + 1) = cY p n + (if p n then 1 else 0) := rfl
theorem cY_le (p : Nat → Bool) : ∀ n, cY p n ≤ n := by
  intro n
  induction n with
  | zero => exact Nat.le_refl _
  | succ n ih =>
    rw [cY_s]
    by_cases q : p n = true
    · rw [if_pos q]; omega
    · rw [if_neg q]; omega
theorem cY_mono (p : Nat → Bool) (y : Nat) : ∀ m, cY p y ≤ cY p (y + m) := by
  intro m
  induction m with
  | zero => exact Nat.le_refl _
  | succ m ih =>
    rw [← Nat.add_assoc, cY_s]
    omega
/-- harm by the slips before the i-th -/
def pS (hm : Nat) (w : Nat → Nat) (L : Nat) (P : Nat → Nat → Bool) (yn : Nat) : Nat → Nat
  | 0 => 0
  | i + 1 => pS hm w L P yn i + (if L.testBit i then hm * w i * cY (P i) yn else 0)
def pI (hm : Nat) (w : Nat → Nat) (L : Nat) (P : Nat → Nat → Bool) (i y : Nat) : Nat := if L.testBit i then hm * w i * cY (P i) y else 0
theorem pS_s (hm : Nat) (w : Nat → Nat) (L : Nat) (P : Nat → Nat → Bool) (yn i : Nat) : pS hm w L P yn (i + 1) = pS hm w L P yn i + pI hm w L P i yn := rfl
theorem pI_mono {hm : Nat} {w : Nat → Nat} {L : Nat} {P : Nat → Nat → Bool} {i y n : Nat} (h : y ≤ n) : pI hm w L P i y ≤ pI hm w L P i n := by
  unfold pI
  by_cases q : L.testBit i = true
  · rw [if_pos q, if_pos q]
    have := cY_mono (P i) y (n - y)
    rw [show y + (n - y) = n by omega] at this
    exact Nat.mul_le_mul_left _ this
  · rw [if_neg q, if_neg q]
    exact Nat.le_refl _
theorem pI_le {hm : Nat} {w : Nat → Nat} {L : Nat} {P : Nat → Nat → Bool} {i y : Nat} (h1 : hm ≤ 9999) (h2 : w i ≤ 99) (h3 : y ≤ 8) : pI hm w L P i y ≤ 7919208 := by
  unfold pI
  by_cases q : L.testBit i = true
  · rw [if_pos q]
    have a : hm * w i ≤ 9999 * 99 := Nat.mul_le_mul h1 h2
    have c : cY (P i) y ≤ 8 := Nat.le_trans (cY_le _ _) h3
    have := Nat.mul_le_mul a c
    omega
  · rw [if_neg q]
    omega
theorem pS_le {hm : Nat} {w : Nat → Nat} {L : Nat} {P : Nat → Nat → Bool} {yn : Nat} (h1 : hm ≤ 9999) (h3 : yn ≤ 8) : ∀ i, (∀ k, k < i → w k ≤ 99) → pS hm w L P yn i ≤ 7919208 * i := by
  intro i
  induction i with
  | zero => intro _; exact Nat.le_refl _
  | succ i ih =>
    intro h2
    rw [pS_s]
    have := ih (fun k hk => h2 k (by omega))
    have := pI_le (L := L) (P := P) (i := i) h1 (h2 i (by omega)) h3
    omega
def Qp (most : Int32) (cur ex : Nat) : Prop := cur ≤ ex ∧ (cur = ex ∨ most.toInt < cur)
def plB (I : MI) (b hn st N : Nat) (much : Int32) (at0 i y : Nat) : Bool := N.testBit y && !decide (fwV I b hn st y (I (b + 8) i) much at0 = -1)
def hmN (I : MI) (b : Nat) : Nat := (I b 14).toNatClampNeg
def clN (I : MI) (b : Nat) : Nat := (I b 13).toNatClampNeg
theorem cost_ok {I : MI} {b yn wn sn : Nat} (h : LOk2 I b yn wn sn) : I b 14 = nI (hmN I b) ∧ hmN I b ≤ 9999 ∧ I b 13 = nI (clN I b) ∧ clN I b ≤ 9999 := by
  obtain ⟨e1, e2⟩ := ib_n h.2.2.2.2.2.2.1 (by decide)
  obtain ⟨e3, e4⟩ := ib_n h.2.2.2.2.2.2.2.1 (by decide)
  have := h.2.2.2.2.2.2.1.2
  have := h.2.2.2.2.2.2.2.1.2
  exact ⟨e3, by unfold hmN; omega, e1, by unfold clN; omega⟩
def ShF (X : MI) (b yn sn hn st N L : Nat) (much : Int32) (at0 : Nat) (most : Int32) (r : MR) (J : MJ) : Option Value → MI → MR → MJ → Prop := fun v I' r' J' => ∃ R, v = some (.int (nI R)) ∧ Qp most R ((pS (hmN X b) (wgN X b) L (plB X b hn st N much at0) yn sn)) ∧ K7 X I' ∧ r' = r ∧ J' = J
set_option maxRecDepth 100000 in
theorem l_sh1 {I : MI} {b yn wn hn sn st : Nat} {r : MR} (J : MJ) (hr : RefOk r b) (h : RelL I b yn wn hn sn st) {N L : Nat} (e0 : I 79 0 = nI N) (e1 : I 79 1 = nI L) (hN : N < 1000) (hL : L < 1000) {much : Int32} {at0 : Nat} (hm : 0 ≤ much.toInt ∧ much.toInt ≤ 99) (hat : at0 < 1000) (most : Int32) {i : Nat} (hi : i < sn) (post : Option Value → MI → MR → MJ → Prop) (kx : ∀ (X : MI) (cur : Nat) (x9 x10 : Option Value), K7 I X → Qp most cur ((pS (hmN I b) (wgN I b) L (plB I b hn st N much at0) yn (i + 1))) → Wq MX9_sumHarm 125 [some (.ref 79), some (.ref 58), some (.ref 76), some (.int much), some (.int (nI at0)), some (.int most), some (.ref b), some (.int (nI cur)), some (.int (nI i)), x9, x10] [] X r J post) : ∀ (f : Nat) (y : Nat) (X : MI) (cur : Nat) (x10 : Option Value) (_ : y + f = yn) (_ : K7 I X) (_ : Qp most cur ((pS (hmN I b) (wgN I b) L (plB I b hn st N much at0) yn i) + (pI (hmN I b) (wgN I b) L (plB I b hn st N much at0) i y))), Wq MX9_sumHarm 25 [some (.ref 79), some (.ref 58), some (.ref 76), some (.int much), some (.int (nI at0)), some (.int most), some (.ref b), some (.int (nI cur)), some (.int (nI i)), some (.int (nI y)), x10] [] X r J (post) := by
  have hb28 := (refs_L hr).2
  have h8 : yn ≤ 8 := h.1.2.2.1
  have hs7 : sn ≤ 7 := h.2.1.2.2.2.1
  obtain ⟨eh, hh9, ec, hc9⟩ := cost_ok h.2.1
  have hw9 : ∀ k, k < sn → wgN I b k ≤ 99 := fun k hk => (wg_ok h.2.1 hk).2.2
  intro f
  induction f with
  | zero =>
    intro y X cur x10 hyk hX hQ
    have hpl := pS_le (L := L) (P := plB I b hn st N much at0) hh9 h8 i (fun k hk => hw9 k (by omega))
    have hpi : ∀ y, y ≤ 8 → (pI (hmN I b) (wgN I b) L (plB I b hn st N much at0) i y) ≤ 7919208 := fun y hy => pI_le hh9 (hw9 i hi) hy
    have ey : X b 1 = nI yn := by rw [hX b (by omega) (by omega)]; exact h.1.2.1
    refine x_iload (q := 27) dX9_sumHarm_25 rfl rfl ?_
    refine x_aload (q := 29) dX9_sumHarm_27 rfl rfl ?_
    refine q_gi (K := 1) (q := 32) dX9_sumHarm_29 rfl cl_5 (by decide) tw_168 h.1.1 rfl ?_
    refine x_icmp_ge (t := 125) (q := 35) dX9_sumHarm_32 (by decide) rfl (fun c32 => ?_) (fun c32 => absurd c32 (fun q => q (by rw [ey]; exact nI_le (by omega) (by omega))))
    refine kx X cur _ _ hX ?_
    rw [pS_s]
    obtain ⟨q1, q2⟩ := hQ
    have hmo := pI_mono (hm := hmN I b) (w := wgN I b) (L := L) (P := plB I b hn st N much at0) (i := i) (show y ≤ yn by omega)
    rcases q2 with q2 | q2
    · first | (rw [show y = yn by omega] at q2 q1; exact ⟨q1, Or.inl q2⟩) | (exact ⟨by omega, Or.inr (by have z := Int32.lt_iff_toInt_lt.mp c39; rw [nI_toInt (by omega)] at z; exact z)⟩)
    · exact ⟨by omega, Or.inr q2⟩
  | succ f ih =>
    intro y X cur x10 hyk hX hQ
    have hpl := pS_le (L := L) (P := plB I b hn st N much at0) hh9 h8 i (fun k hk => hw9 k (by omega))
    have hpi : ∀ y, y ≤ 8 → (pI (hmN I b) (wgN I b) L (plB I b hn st N much at0) i y) ≤ 7919208 := fun y hy => pI_le hh9 (hw9 i hi) hy
    have ey : X b 1 = nI yn := by rw [hX b (by omega) (by omega)]; exact h.1.2.1
    have hcy := hpi y (by omega)
    have hcur : cur < 100000000 := by have := hQ.1; omega
    have hshI : ShOk (I (b + 8) i) := ((h.2.1.2.2.2.2.1 i hi).1)
    have hci : (nI i).toNatClampNeg = i := nI_clamp (by omega)
    have x0 : X 79 0 = nI N := by rw [hX 79 (by decide) (by decide)]; exact e0
    have x1 : X 79 1 = nI L := by rw [hX 79 (by decide) (by decide)]; exact e1
    refine x_iload (q := 27) dX9_sumHarm_25 rfl rfl ?_
    refine x_aload (q := 29) dX9_sumHarm_27 rfl rfl ?_
    refine q_gi (K := 1) (q := 32) dX9_sumHarm_29 rfl cl_5 (by decide) tw_168 h.1.1 rfl ?_
    refine x_icmp_ge (t := 125) (q := 35) dX9_sumHarm_32 (by decide) rfl (fun c32 => absurd c32 (by rw [ey]; exact nI_ge (by omega) (by omega))) (fun c32 => ?_)
    refine x_iload (q := 37) dX9_sumHarm_35 rfl rfl ?_
    refine x_iload (q := 39) dX9_sumHarm_37 rfl rfl ?_
    refine x_icmp_gt (t := 125) (q := 42) dX9_sumHarm_39 (by decide) rfl (fun c39 => ?_) (fun c39 => ?_)
    · refine kx X cur _ _ hX ?_
      rw [pS_s]
      obtain ⟨q1, q2⟩ := hQ
      have hmo := pI_mono (hm := hmN I b) (w := wgN I b) (L := L) (P := plB I b hn st N much at0) (i := i) (show y ≤ yn by omega)
      rcases q2 with q2 | q2
      · first | (rw [show y = yn by omega] at q2 q1; exact ⟨q1, Or.inl q2⟩) | (exact ⟨by omega, Or.inr (by have z := Int32.lt_iff_toInt_lt.mp c39; rw [nI_toInt (by omega)] at z; exact z)⟩)
      · exact ⟨by omega, Or.inr q2⟩
    · refine x_aload_n (q := 43) dX9_sumHarm_42 rfl rfl ?_
      refine q_gi (K := 1) (q := 46) dX9_sumHarm_43 rfl cl_9 (by decide) tw_466 rfl rfl ?_
      refine x_iload (q := 48) dX9_sumHarm_46 rfl rfl ?_
      refine x_ishr (q := 49) dX9_sumHarm_48 rfl ?_
      refine x_iconst (1) (q := 50) dX9_sumHarm_49 rfl (by decide) ?_
      refine x_iand (q := 51) dX9_sumHarm_50 rfl ?_
      refine x_if_eq (t := 70) (q := 54) dX9_sumHarm_51 (by decide) rfl (fun c51 => ?_) (fun c51 => ?_)
      · refine x_iconst (0) (q := 71) dX9_sumHarm_70 rfl (by decide) ?_
        refine x_istore (L2 := [some (.ref 79), some (.ref 58), some (.ref 76), some (.int much), some (.int (nI at0)), some (.int most), some (.ref b), some (.int (nI cur)), some (.int (nI i)), some (.int (nI y)), some (.int 0)]) (q := 73) dX9_sumHarm_71 rfl (by decide) rfl rfl ?_
        refine x_iload (q := 75) dX9_sumHarm_73 rfl rfl ?_
        refine x_if_eq (t := 119) (q := 78) dX9_sumHarm_75 (by decide) rfl (fun c75 => ?_) (fun c75 => absurd c75 ((by decide)))
        obtain ⟨v1, ev1⟩ : ∃ y_ : Int32, y_ = (nI y) + 1 := ⟨_, rfl⟩
        refine x_iinc (v := v1) (L2 := [some (.ref 79), some (.ref 58), some (.ref 76), some (.int much), some (.int (nI at0)), some (.int most), some (.ref b), some (.int (nI cur)), some (.int (nI i)), some (.int v1), some (.int 0)]) (q := 122) dX9_sumHarm_119 rfl (by decide) rfl rfl (by rw [ev1]; rfl) rfl ?_
        refine x_goto (t := 25) dX9_sumHarm_122 (by decide) ?_
        rw [show v1 = nI (y + 1) by rw [ev1, nI_p1]]
        obtain ⟨q1, q2⟩ := hQ
        have hle : ¬ most.toInt < cur := by have z := Int32.le_iff_toInt_le.mp (Int32.not_lt.mp c39); rw [nI_toInt (by omega)] at z; omega
        have q3 : cur = ((pS (hmN I b) (wgN I b) L (plB I b hn st N much at0) yn i) + (pI (hmN I b) (wgN I b) L (plB I b hn st N much at0) i y)) := by rcases q2 with z | z; exact z; exact absurd z hle
        try rw [x1] at c51
        try rw [x0] at c63
        have e9 : (pI (hmN I b) (wgN I b) L (plB I b hn st N much at0) i (y + 1)) = (pI (hmN I b) (wgN I b) L (plB I b hn st N much at0) i y) := by
          unfold pI
          first | rw [(bit_0 (by omega) (by omega)).mp c51] | rw [cY_s, show plB I b hn st N much at0 i y = false from by (unfold plB; rw [(bit_0 (by omega) (by omega)).mp c63, Bool.false_and])]
          rfl
        exact ih (y + 1) X cur _ (by omega) hX (by rw [e9]; exact ⟨q1, Or.inl q3⟩)
      · refine x_aload_n (q := 55) dX9_sumHarm_54 rfl rfl ?_
        refine q_gi (K := 0) (q := 58) dX9_sumHarm_55 rfl cl_9 (by decide) tw_465 rfl rfl ?_
        refine x_iload (q := 60) dX9_sumHarm_58 rfl rfl ?_
        refine x_ishr (q := 61) dX9_sumHarm_60 rfl ?_
        refine x_iconst (1) (q := 62) dX9_sumHarm_61 rfl (by decide) ?_
        refine x_iand (q := 63) dX9_sumHarm_62 rfl ?_
        refine x_if_eq (t := 70) (q := 66) dX9_sumHarm_63 (by decide) rfl (fun c63 => ?_) (fun c63 => ?_)
        · refine x_iconst (0) (q := 71) dX9_sumHarm_70 rfl (by decide) ?_
          refine x_istore (L2 := [some (.ref 79), some (.ref 58), some (.ref 76), some (.int much), some (.int (nI at0)), some (.int most), some (.ref b), some (.int (nI cur)), some (.int (nI i)), some (.int (nI y)), some (.int 0)]) (q := 73) dX9_sumHarm_71 rfl (by decide) rfl rfl ?_
          refine x_iload (q := 75) dX9_sumHarm_73 rfl rfl ?_
          refine x_if_eq (t := 119) (q := 78) dX9_sumHarm_75 (by decide) rfl (fun c75 => ?_) (fun c75 => absurd c75 ((by decide)))
          obtain ⟨v2, ev2⟩ : ∃ y_ : Int32, y_ = (nI y) + 1 := ⟨_, rfl⟩
          refine x_iinc (v := v2) (L2 := [some (.ref 79), some (.ref 58), some (.ref 76), some (.int much), some (.int (nI at0)), some (.int most), some (.ref b), some (.int (nI cur)), some (.int (nI i)), some (.int v2), some (.int 0)]) (q := 122) dX9_sumHarm_119 rfl (by decide) rfl rfl (by rw [ev2]; rfl) rfl ?_
          refine x_goto (t := 25) dX9_sumHarm_122 (by decide) ?_
          rw [show v2 = nI (y + 1) by rw [ev2, nI_p1]]
          obtain ⟨q1, q2⟩ := hQ
          have hle : ¬ most.toInt < cur := by have z := Int32.le_iff_toInt_le.mp (Int32.not_lt.mp c39); rw [nI_toInt (by omega)] at z; omega
          have q3 : cur = ((pS (hmN I b) (wgN I b) L (plB I b hn st N much at0) yn i) + (pI (hmN I b) (wgN I b) L (plB I b hn st N much at0) i y)) := by rcases q2 with z | z; exact z; exact absurd z hle
          try rw [x1] at c51
          try rw [x0] at c63
          have e9 : (pI (hmN I b) (wgN I b) L (plB I b hn st N much at0) i (y + 1)) = (pI (hmN I b) (wgN I b) L (plB I b hn st N much at0) i y) := by
            unfold pI
            first | rw [(bit_0 (by omega) (by omega)).mp c51] | rw [cY_s, show plB I b hn st N much at0 i y = false from by (unfold plB; rw [(bit_0 (by omega) (by omega)).mp c63, Bool.false_and])]
            rfl
          exact ih (y + 1) X cur _ (by omega) hX (by rw [e9]; exact ⟨q1, Or.inl q3⟩)
        · refine x_iconst (1) (q := 67) dX9_sumHarm_66 rfl (by decide) ?_
          refine x_goto (t := 71) dX9_sumHarm_67 (by decide) ?_
          refine x_istore (L2 := [some (.ref 79), some (.ref 58), some (.ref 76), some (.int much), some (.int (nI at0)), some (.int most), some (.ref b), some (.int (nI cur)), some (.int (nI i)), some (.int (nI y)), some (.int 1)]) (q := 73) dX9_sumHarm_71 rfl (by decide) rfl rfl ?_
          refine x_iload (q := 75) dX9_sumHarm_73 rfl rfl ?_
          refine x_if_eq (t := 119) (q := 78) dX9_sumHarm_75 (by decide) rfl (fun c75 => absurd c75 ((by decide))) (fun c75 => ?_)
          refine x_aload_n (q := 79) dX9_sumHarm_78 rfl rfl ?_
          refine x_aload_n (q := 80) dX9_sumHarm_79 rfl rfl ?_
          refine x_iload (q := 82) dX9_sumHarm_80 rfl rfl ?_
          refine x_aload (q := 84) dX9_sumHarm_82 rfl rfl ?_
          refine q_gr (K := 10) (b := (b + 8)) (q := 87) dX9_sumHarm_84 rfl cl_5 (by decide) tw_202 h.1.1 rfl (lr_w h.1.1 _).2.2.2.2.2.2.2.1 ?_
          refine x_iload (q := 89) dX9_sumHarm_87 rfl rfl ?_
          refine q_iald (q := 90) dX9_sumHarm_89 rfl (ls_w h.1.1).2.2.2.2.2.2.2.1 (vp_in_nI (by omega) (by decide)) ?_
          refine x_iload_n (q := 91) dX9_sumHarm_90 rfl rfl ?_
          refine x_iload (q := 93) dX9_sumHarm_91 rfl rfl ?_
          refine q_callV (ci := 7) (N := 1) (T := TX7) (As := [.ref 58, .int (nI y), .int (X (b + 8) (nI i).toNatClampNeg), .int much, .int (nI at0)]) (rest := []) (q := 96) dX9_sumHarm_93 rfl okX7_firstWhite tw_915 rfl rfl (by rw [hci, hX (b + 8) (by omega) (by omega)]; exact kk_fw7 J hr h hX (by omega) hshI hm hat) rfl rfl (Nat.le_of_ble_eq_true rfl) ⟨by decide, by decide⟩ ⟨rfl, rfl⟩ (fun rv_ Y r_ J_ hv_ => ?_)
          obtain ⟨a1_, hY, a3_, a4_⟩ := hv_
          rw [a1_, a3_, a4_]
          show Wq MX9_sumHarm 96 [some (.ref 79), some (.ref 58), some (.ref 76), some (.int much), some (.int (nI at0)), some (.int most), some (.ref b), some (.int (nI cur)), some (.int (nI i)), some (.int (nI y)), some (.int 1)] [.int (fwV I b hn st y (I (b + 8) i) much at0)] Y r J _
          refine x_iconst (-1) (q := 97) dX9_sumHarm_96 rfl (by decide) ?_
          refine x_icmp_eq (t := 119) (q := 100) dX9_sumHarm_97 (by decide) rfl (fun c97 => ?_) (fun c97 => ?_)
          · obtain ⟨v3, ev3⟩ : ∃ y_ : Int32, y_ = (nI y) + 1 := ⟨_, rfl⟩
            refine x_iinc (v := v3) (L2 := [some (.ref 79), some (.ref 58), some (.ref 76), some (.int much), some (.int (nI at0)), some (.int most), some (.ref b), some (.int (nI cur)), some (.int (nI i)), some (.int v3), some (.int 1)]) (q := 122) dX9_sumHarm_119 rfl (by decide) rfl rfl (by rw [ev3]; rfl) rfl ?_
            refine x_goto (t := 25) dX9_sumHarm_122 (by decide) ?_
            rw [show v3 = nI (y + 1) by rw [ev3, nI_p1]]
            obtain ⟨q1, q2⟩ := hQ
            have hle : ¬ most.toInt < cur := by have z := Int32.le_iff_toInt_le.mp (Int32.not_lt.mp c39); rw [nI_toInt (by omega)] at z; omega
            have q3 : cur = ((pS (hmN I b) (wgN I b) L (plB I b hn st N much at0) yn i) + (pI (hmN I b) (wgN I b) L (plB I b hn st N much at0) i y)) := by rcases q2 with z | z; exact z; exact absurd z hle
            rw [x1] at c51
            rw [x0] at c63
            have ep : plB I b hn st N much at0 i y = false := by unfold plB; rw [decide_eq_true c97]; simp
            have e9 : (pI (hmN I b) (wgN I b) L (plB I b hn st N much at0) i (y + 1)) = (pI (hmN I b) (wgN I b) L (plB I b hn st N much at0) i y) := by
              unfold pI
              rw [cY_s, ep]
              rfl
            exact ih (y + 1) Y cur _ (by omega) hY (by rw [e9]; exact ⟨q1, Or.inl q3⟩)
          · refine x_iload (q := 102) dX9_sumHarm_100 rfl rfl ?_
            refine x_aload (q := 104) dX9_sumHarm_102 rfl rfl ?_
            refine q_gi (K := 14) (q := 107) dX9_sumHarm_104 rfl cl_5 (by decide) tw_219 h.1.1 rfl ?_
            refine x_aload (q := 109) dX9_sumHarm_107 rfl rfl ?_
            refine q_gr (K := 11) (b := (b + 9)) (q := 112) dX9_sumHarm_109 rfl cl_5 (by decide) tw_207 h.1.1 rfl (lr_w h.1.1 _).2.2.2.2.2.2.2.2 ?_
            refine x_iload (q := 114) dX9_sumHarm_112 rfl rfl ?_
            refine q_iald (q := 115) dX9_sumHarm_114 rfl (ls_w h.1.1).2.2.2.2.2.2.2.2 (vp_in_nI (by omega) (by decide)) ?_
            refine x_imul (q := 116) dX9_sumHarm_115 rfl ?_
            refine x_iadd (q := 117) dX9_sumHarm_116 rfl ?_
            refine x_nmi (fun v4 ev4 => ?_)
            refine x_istore (L2 := [some (.ref 79), some (.ref 58), some (.ref 76), some (.int much), some (.int (nI at0)), some (.int most), some (.ref b), some (.int v4), some (.int (nI i)), some (.int (nI y)), some (.int 1)]) (q := 119) dX9_sumHarm_117 rfl (by decide) rfl rfl ?_
            obtain ⟨v5, ev5⟩ : ∃ y_ : Int32, y_ = (nI y) + 1 := ⟨_, rfl⟩
            refine x_iinc (v := v5) (L2 := [some (.ref 79), some (.ref 58), some (.ref 76), some (.int much), some (.int (nI at0)), some (.int most), some (.ref b), some (.int v4), some (.int (nI i)), some (.int v5), some (.int 1)]) (q := 122) dX9_sumHarm_119 rfl (by decide) rfl rfl (by rw [ev5]; rfl) rfl ?_
            refine x_goto (t := 25) dX9_sumHarm_122 (by decide) ?_
            rw [show v5 = nI (y + 1) by rw [ev5, nI_p1]]
            obtain ⟨q1, q2⟩ := hQ
            have hle : ¬ most.toInt < cur := by have z := Int32.le_iff_toInt_le.mp (Int32.not_lt.mp c39); rw [nI_toInt (by omega)] at z; omega
            have q3 : cur = ((pS (hmN I b) (wgN I b) L (plB I b hn st N much at0) yn i) + (pI (hmN I b) (wgN I b) L (plB I b hn st N much at0) i y)) := by rcases q2 with z | z; exact z; exact absurd z hle
            rw [x1] at c51
            rw [x0] at c63
            have bl : L.testBit i = true := by
              cases q : L.testBit i
              · exact absurd ((bit_0 (by omega) (by omega)).mpr q) c51
              · rfl
            have bn : N.testBit y = true := by
              cases q : N.testBit y
              · exact absurd ((bit_0 (by omega) (by omega)).mpr q) c63
              · rfl
            have ep : plB I b hn st N much at0 i y = true := by unfold plB; rw [bn, decide_eq_false c97]; rfl
            have e9 : v4 = nI ((pS (hmN I b) (wgN I b) L (plB I b hn st N much at0) yn i) + (pI (hmN I b) (wgN I b) L (plB I b hn st N much at0) i (y + 1))) := by
              rw [ev4, hci, hY b (by omega) (by omega), hY (b + 9) (by omega) (by omega), eh, (wg_ok h.2.1 hi).1, pk_mul, nI_add, q3]
              congr 1
              show _ = (pS (hmN I b) (wgN I b) L (plB I b hn st N much at0) yn i) + pI _ _ _ _ _ _
              unfold pI
              rw [if_pos bl, if_pos bl, cY_s, if_pos ep, Nat.mul_succ]
              omega
            rw [e9]
            exact ih (y + 1) Y _ _ (by omega) hY ⟨Nat.le_refl _, Or.inl rfl⟩
set_option maxRecDepth 100000 in
theorem l_sh {I : MI} {b yn wn hn sn st : Nat} {r : MR} (J : MJ) (hr : RefOk r b) (h : RelL I b yn wn hn sn st) {N L : Nat} (e0 : I 79 0 = nI N) (e1 : I 79 1 = nI L) (hN : N < 1000) (hL : L < 1000) {much : Int32} {at0 : Nat} (hm : 0 ≤ much.toInt ∧ much.toInt ≤ 99) (hat : at0 < 1000) (most : Int32) : ∀ (f : Nat) (i : Nat) (X : MI) (cur : Nat) (x9 x10 : Option Value) (_ : i + f = sn) (_ : K7 I X) (_ : Qp most cur ((pS (hmN I b) (wgN I b) L (plB I b hn st N much at0) yn i))), Wq MX9_sumHarm 12 [some (.ref 79), some (.ref 58), some (.ref 76), some (.int much), some (.int (nI at0)), some (.int most), some (.ref b), some (.int (nI cur)), some (.int (nI i)), x9, x10] [] X r J (ShF I b yn sn hn st N L much at0 most r J) := by
  have hb28 := (refs_L hr).2
  have h8 : yn ≤ 8 := h.1.2.2.1
  have hs7 : sn ≤ 7 := h.2.1.2.2.2.1
  obtain ⟨eh, hh9, ec, hc9⟩ := cost_ok h.2.1
  have hw9 : ∀ k, k < sn → wgN I b k ≤ 99 := fun k hk => (wg_ok h.2.1 hk).2.2
  intro f
  induction f with
  | zero =>
    intro i X cur x9 x10 hik hX hQ
    have es : X b 12 = nI sn := by rw [hX b (by omega) (by omega)]; exact h.2.1.2.2.1
    refine x_iload (q := 14) dX9_sumHarm_12 rfl rfl ?_
    refine x_aload (q := 16) dX9_sumHarm_14 rfl rfl ?_
    refine q_gi (K := 12) (q := 19) dX9_sumHarm_16 rfl cl_5 (by decide) tw_211 h.1.1 rfl ?_
    refine x_icmp_ge (t := 131) (q := 22) dX9_sumHarm_19 (by decide) rfl (fun c19 => ?_) (fun c19 => absurd c19 (fun q => q (by rw [es]; exact nI_le (by omega) (by omega))))
    refine x_iload (q := 133) dX9_sumHarm_131 rfl rfl ?_
    refine q_iret dX9_sumHarm_133 rfl ?_
    rw [show i = sn by omega] at hQ
    exact ⟨cur, rfl, hQ, hX, rfl, rfl⟩
  | succ f ih =>
    intro i X cur x9 x10 hik hX hQ
    have es : X b 12 = nI sn := by rw [hX b (by omega) (by omega)]; exact h.2.1.2.2.1
    refine x_iload (q := 14) dX9_sumHarm_12 rfl rfl ?_
    refine x_aload (q := 16) dX9_sumHarm_14 rfl rfl ?_
    refine q_gi (K := 12) (q := 19) dX9_sumHarm_16 rfl cl_5 (by decide) tw_211 h.1.1 rfl ?_
    refine x_icmp_ge (t := 131) (q := 22) dX9_sumHarm_19 (by decide) rfl (fun c19 => absurd c19 (by rw [es]; exact nI_ge (by omega) (by omega))) (fun c19 => ?_)
    refine x_iconst (0) (q := 23) dX9_sumHarm_22 rfl (by decide) ?_
    refine x_istore (L2 := [some (.ref 79), some (.ref 58), some (.ref 76), some (.int much), some (.int (nI at0)), some (.int most), some (.ref b), some (.int (nI cur)), some (.int (nI i)), some (.int 0), x10]) (q := 25) dX9_sumHarm_23 rfl (by decide) rfl rfl ?_
    have e : (pI (hmN I b) (wgN I b) L (plB I b hn st N much at0) i 0) = 0 := by
      unfold pI
      split <;> rfl
    refine l_sh1 J hr h e0 e1 hN hL hm hat most (i := i) (by omega) _ (fun Y c2 y9 y10 hY hQ2 => ?_) yn 0 X cur _ (by omega) hX (by rw [e]; exact hQ)
    obtain ⟨v1, ev1⟩ : ∃ y_ : Int32, y_ = (nI i) + 1 := ⟨_, rfl⟩
    refine x_iinc (v := v1) (L2 := [some (.ref 79), some (.ref 58), some (.ref 76), some (.int much), some (.int (nI at0)), some (.int most), some (.ref b), some (.int (nI c2)), some (.int v1), y9, y10]) (q := 128) dX9_sumHarm_125 rfl (by decide) rfl rfl (by rw [ev1]; rfl) rfl ?_
    refine x_goto (t := 12) dX9_sumHarm_128 (by decide) ?_
    rw [show v1 = nI (i + 1) by rw [ev1, nI_p1]]
    exact ih (i + 1) Y c2 _ _ (by omega) hY hQ2
set_option maxRecDepth 100000 in
theorem c_sumH {I : MI} {b yn wn hn sn st : Nat} {r : MR} (J : MJ) (hr : RefOk r b) (h : RelL I b yn wn hn sn st) {N L : Nat} (e0 : I 79 0 = nI N) (e1 : I 79 1 = nI L) (hN : N < 1000) (hL : L < 1000) {much : Int32} {at0 : Nat} (hm : 0 ≤ much.toInt ∧ much.toInt ≤ 99) (hat : at0 < 1000) (most : Int32) : Cq yX9_sumHarm MX9_sumHarm [.ref 79, .ref 58, .ref 76, .int much, .int (nI at0), .int most] I r J (ShF I b yn sn hn st N L much at0 most r J) := by
  have hb28 := (refs_L hr).2
  have h8 : yn ≤ 8 := h.1.2.2.1
  have hs7 : sn ≤ 7 := h.2.1.2.2.2.1
  obtain ⟨eh, hh9, ec, hc9⟩ := cost_ok h.2.1
  have hw9 : ∀ k, k < sn → wgN I b k ≤ 99 := fun k hk => (wg_ok h.2.1 hk).2.2
  refine cq_of [some (.ref 79), some (.ref 58), some (.ref 76), some (.int much), some (.int (nI at0)), some (.int most), none, none, none, none, none] 5 (by decide +kernel) rfl rfl (Nat.le_of_ble_eq_true rfl) rfl ?_
  refine x_aload_n (q := 1) dX9_sumHarm_0 rfl rfl ?_
  refine q_gr (K := 0) (b := b) (q := 4) dX9_sumHarm_1 rfl cl_1 (by decide) tw_423 rfl rfl (by rw [← hr.2.1]; rfl) ?_
  refine x_astore (L2 := [some (.ref 79), some (.ref 58), some (.ref 76), some (.int much), some (.int (nI at0)), some (.int most), some (.ref b), none, none, none, none]) (q := 6) dX9_sumHarm_4 rfl (by decide) rfl rfl ?_
  refine x_iconst (0) (q := 7) dX9_sumHarm_6 rfl (by decide) ?_
  refine x_istore (L2 := [some (.ref 79), some (.ref 58), some (.ref 76), some (.int much), some (.int (nI at0)), some (.int most), some (.ref b), some (.int 0), none, none, none]) (q := 9) dX9_sumHarm_7 rfl (by decide) rfl rfl ?_
  refine x_iconst (0) (q := 10) dX9_sumHarm_9 rfl (by decide) ?_
  refine x_istore (L2 := [some (.ref 79), some (.ref 58), some (.ref 76), some (.int much), some (.int (nI at0)), some (.int most), some (.ref b), some (.int 0), some (.int 0), none, none]) (q := 12) dX9_sumHarm_10 rfl (by decide) rfl rfl ?_
  exact l_sh J hr h e0 e1 hN hL hm hat most sn 0 I 0 _ _ (by omega) (fun _ _ _ => rfl) ⟨Nat.le_refl _, Or.inl rfl⟩
