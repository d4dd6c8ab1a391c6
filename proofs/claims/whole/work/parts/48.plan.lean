def mS (cl hm : Nat) (w : Nat → Nat) (L : Nat) (P : Nat → Nat → Bool) (yn : Nat) : Nat → Nat
  | 0 => 0
  | i + 1 => mS cl hm w L P yn i + (if L.testBit i then w i * (cl + hm * cY (P i) yn) else 0)
theorem mS_s (cl hm : Nat) (w : Nat → Nat) (L : Nat) (P : Nat → Nat → Bool) (yn i : Nat) : mS cl hm w L P yn (i + 1) = mS cl hm w L P yn i + (if L.testBit i then w i * (cl + hm * cY (P i) yn) else 0) := rfl
theorem mS_eq {I : MI} {b : Nat} {cl hm L : Nat} {P : Nat → Nat → Bool} {yn : Nat} : ∀ i, mS cl hm (wgN I b) L P yn i = cl * sumW I b L.testBit i + pS hm (wgN I b) L P yn i := by
  intro i
  induction i with
  | zero => rfl
  | succ i ih =>
    rw [mS_s, sumW_s, pS_s, ih]
    unfold pI
    by_cases q : L.testBit i = true
    · rw [if_pos q, if_pos q, if_pos q, Nat.mul_add, Nat.mul_add, Nat.mul_comm (wgN I b i) cl, ← Nat.mul_assoc, Nat.mul_comm (wgN I b i) hm]
      omega
    · rw [if_neg q, if_neg q, if_neg q, Nat.add_zero, Nat.add_zero, Nat.add_zero]
def setOk (yn : Nat) (x : Int32) : Prop := ∃ N, N < 2 ^ yn ∧ x = nI N
theorem p8 {yn : Nat} (h8 : yn ≤ 8) : 2 ^ yn ≤ 256 := Nat.pow_le_pow_right (by decide) h8
set_option maxRecDepth 100000 in
theorem c_isSet_g {I : MI} {b yn wn hn sn st : Nat} {r : MR} (J : MJ) (hr : RefOk r b) (h : RelL I b yn wn hn sn st) {N : Nat} (hN : N < 2 ^ yn) : Cq yX11_isSet MX11_isSet [.ref 0, .int (nI N)] I r J (Rt (some (.int 1)) I r J) := by
  have h8 : yn ≤ 8 := h.1.2.2.1
  have h256 := p8 h8
  refine cq_of [some (.ref 0), some (.int (nI N))] 0 (by decide +kernel) rfl rfl (Nat.le_of_ble_eq_true rfl) rfl ?_
  refine x_iload_n (q := 1) dX11_isSet_0 rfl rfl ?_
  refine x_if_lt (t := 21) (q := 4) dX11_isSet_1 (by decide) rfl (fun c1 => absurd c1 (nI_pos (by omega))) (fun c1 => ?_)
  refine x_iload_n (q := 5) dX11_isSet_4 rfl rfl ?_
  refine x_iconst (1) (q := 6) dX11_isSet_5 rfl (by decide) ?_
  refine x_aload_n (q := 7) dX11_isSet_6 rfl rfl ?_
  refine q_gr (K := 2) (b := b) (q := 10) dX11_isSet_7 rfl cl_11 (by decide) tw_569 rfl rfl (by rw [← hr.1]; rfl) ?_
  refine q_gi (K := 1) (q := 13) dX11_isSet_10 rfl cl_5 (by decide) tw_169 h.1.1 rfl ?_
  refine x_ishl (q := 14) dX11_isSet_13 rfl ?_
  refine x_icmp_ge (t := 21) (q := 17) dX11_isSet_14 (by decide) rfl (fun c14 => absurd c14 (by rw [h.1.2.1, sh1 h8]; exact nI_ge hN (by omega))) (fun c14 => ?_)
  refine x_iconst (1) (q := 18) dX11_isSet_17 rfl (by decide) ?_
  refine x_goto (t := 22) dX11_isSet_18 (by decide) ?_
  refine q_zret dX11_isSet_22 rfl (Or.inr rfl) ?_
  exact ⟨rfl, rfl, rfl, rfl⟩
set_option maxRecDepth 100000 in
theorem c_isSet_b {I : MI} {b yn wn hn sn st : Nat} {r : MR} (J : MJ) (hr : RefOk r b) (h : RelL I b yn wn hn sn st) {x : Int32} (hno : ¬ setOk yn x) : Cq yX11_isSet MX11_isSet [.ref 0, .int x] I r J (Rt (some (.int 0)) I r J) := by
  have h8 : yn ≤ 8 := h.1.2.2.1
  have h256 := p8 h8
  refine cq_of [some (.ref 0), some (.int x)] 0 (by decide +kernel) rfl rfl (Nat.le_of_ble_eq_true rfl) rfl ?_
  refine x_iload_n (q := 1) dX11_isSet_0 rfl rfl ?_
  refine x_if_lt (t := 21) (q := 4) dX11_isSet_1 (by decide) rfl (fun c1 => ?_) (fun c1 => ?_)
  · refine x_iconst (0) (q := 22) dX11_isSet_21 rfl (by decide) ?_
    refine q_zret dX11_isSet_22 rfl (Or.inl rfl) ?_
    exact ⟨rfl, rfl, rfl, rfl⟩
  · refine x_iload_n (q := 5) dX11_isSet_4 rfl rfl ?_
    refine x_iconst (1) (q := 6) dX11_isSet_5 rfl (by decide) ?_
    refine x_aload_n (q := 7) dX11_isSet_6 rfl rfl ?_
    refine q_gr (K := 2) (b := b) (q := 10) dX11_isSet_7 rfl cl_11 (by decide) tw_569 rfl rfl (by rw [← hr.1]; rfl) ?_
    refine q_gi (K := 1) (q := 13) dX11_isSet_10 rfl cl_5 (by decide) tw_169 h.1.1 rfl ?_
    refine x_ishl (q := 14) dX11_isSet_13 rfl ?_
    refine x_icmp_ge (t := 21) (q := 17) dX11_isSet_14 (by decide) rfl (fun c14 => ?_) (fun c14 => ?_)
    · refine x_iconst (0) (q := 22) dX11_isSet_21 rfl (by decide) ?_
      refine q_zret dX11_isSet_22 rfl (Or.inl rfl) ?_
      exact ⟨rfl, rfl, rfl, rfl⟩
    · refine x_iconst (1) (q := 18) dX11_isSet_17 rfl (by decide) ?_
      refine x_goto (t := 22) dX11_isSet_18 (by decide) ?_
      refine q_zret dX11_isSet_22 rfl (Or.inr rfl) ?_
      exfalso
      obtain ⟨j, hj, rfl⟩ := nI_of c1
      rw [h.1.2.1, sh1 h8] at c14
      refine hno ⟨j, ?_, rfl⟩
      rw [nI_leI (by omega) hj] at c14
      omega
set_option maxRecDepth 100000 in
theorem c_mSet_g {I : MI} {b yn wn hn sn st : Nat} (hb : b ≤ 28) (r : MR) (J : MJ) (h : RelL I b yn wn hn sn st) {N : Nat} (hN : N < 2 ^ yn) : Cq yX12_isSet MX12_isSet [.ref 100, .int (nI N)] I r J (Rt (some (.int 1)) I r J) := by
  have h8 : yn ≤ 8 := h.1.2.2.1
  have h256 := p8 h8
  have em : I 100 41 = nI yn := h.2.2.1.1
  have hp2 := Nat.two_pow_pos yn
  refine cq_of [some (.ref 100), some (.int (nI N))] 0 (by decide +kernel) rfl rfl (Nat.le_of_ble_eq_true rfl) rfl ?_
  refine x_iload_n (q := 1) dX12_isSet_0 rfl rfl ?_
  refine x_iconst (0) (q := 2) dX12_isSet_1 rfl (by decide) ?_
  refine x_iconst (1) (q := 3) dX12_isSet_2 rfl (by decide) ?_
  refine x_aload_n (q := 4) dX12_isSet_3 rfl rfl ?_
  refine q_gi (K := 41) (q := 7) dX12_isSet_4 rfl cl_12 (by decide) tw_1123 rfl rfl ?_
  refine x_ishl (q := 8) dX12_isSet_7 rfl ?_
  refine x_iconst (1) (q := 9) dX12_isSet_8 rfl (by decide) ?_
  refine x_isub (q := 10) dX12_isSet_9 rfl ?_
  refine q_callS (As := [.int (nI N), .int 0, .int ((1 <<< ((I 100 41) &&& 31)) - 1)]) (rest := []) (q := 13) dX12_isSet_10 rfl okX12_isIn tw_1450 (c_isIn_g I r J (nI_pos' (by omega)) (by rw [em, sh1m h8]; exact nI_le (by omega) (by omega))) rfl rfl (Nat.le_of_ble_eq_true rfl) ⟨by decide, by decide⟩ ⟨rfl, rfl⟩ (fun rv_ I_ r_ J_ hv_ => ?_)
  obtain ⟨a1_, a2_, a3_, a4_⟩ := hv_
  rw [a1_, a2_, a3_, a4_]
  show Wq MX12_isSet 13 [some (.ref 100), some (.int (nI N))] [.int 1] I r J _
  refine q_zret dX12_isSet_13 rfl (Or.inr rfl) ?_
  exact ⟨rfl, rfl, rfl, rfl⟩
set_option maxRecDepth 100000 in
theorem c_mSet_b {I : MI} {b yn wn hn sn st : Nat} (hb : b ≤ 28) (r : MR) (J : MJ) (h : RelL I b yn wn hn sn st) {x : Int32} (hno : ¬ setOk yn x) : Cq yX12_isSet MX12_isSet [.ref 100, .int x] I r J (Rt (some (.int 0)) I r J) := by
  have h8 : yn ≤ 8 := h.1.2.2.1
  have h256 := p8 h8
  have em : I 100 41 = nI yn := h.2.2.1.1
  have hp2 := Nat.two_pow_pos yn
  refine cq_of [some (.ref 100), some (.int x)] 0 (by decide +kernel) rfl rfl (Nat.le_of_ble_eq_true rfl) rfl ?_
  refine x_iload_n (q := 1) dX12_isSet_0 rfl rfl ?_
  refine x_iconst (0) (q := 2) dX12_isSet_1 rfl (by decide) ?_
  refine x_iconst (1) (q := 3) dX12_isSet_2 rfl (by decide) ?_
  refine x_aload_n (q := 4) dX12_isSet_3 rfl rfl ?_
  refine q_gi (K := 41) (q := 7) dX12_isSet_4 rfl cl_12 (by decide) tw_1123 rfl rfl ?_
  refine x_ishl (q := 8) dX12_isSet_7 rfl ?_
  refine x_iconst (1) (q := 9) dX12_isSet_8 rfl (by decide) ?_
  refine x_isub (q := 10) dX12_isSet_9 rfl ?_
  refine q_callS (As := [.int x, .int 0, .int ((1 <<< ((I 100 41) &&& 31)) - 1)]) (rest := []) (q := 13) dX12_isSet_10 rfl okX12_isIn tw_1450 (c_isIn_b I r J (fun q => by rw [em, sh1m h8] at q; obtain ⟨j, j1, j2⟩ := st_of (N := 2 ^ yn - 1) (by omega) q; exact hno ⟨j, by omega, j2⟩)) rfl rfl (Nat.le_of_ble_eq_true rfl) ⟨by decide, by decide⟩ ⟨rfl, rfl⟩ (fun rv_ I_ r_ J_ hv_ => ?_)
  obtain ⟨a1_, a2_, a3_, a4_⟩ := hv_
  rw [a1_, a2_, a3_, a4_]
  show Wq MX12_isSet 13 [some (.ref 100), some (.int x)] [.int 0] I r J _
  refine q_zret dX12_isSet_13 rfl (Or.inl rfl) ?_
  exact ⟨rfl, rfl, rfl, rfl⟩
set_option maxRecDepth 100000 in
theorem l_co10 {I : MI} {b yn wn hn sn st : Nat} (hb : b ≤ 28) (r : MR) (J : MJ) (h : RelL I b yn wn hn sn st) {N L : Nat} (hN : N < 1000) (hL : L < 1000) (much : Int32) {i : Nat} (hi : i < sn) (post : Option Value → MI → MR → MJ → Prop) (kx : ∀ (X : MI) (x8 : Option Value), Kp I X → Wq MX12_costOf 109 [some (.ref 100), some (.int (nI N)), some (.int much), some (.int (-1)), some (.int (nI L)), some (.int (nI (mS 0 (hmN I b) (wgN I b) L (plB I b hn st N 0 1000) yn i))), some (.int (nI i)), some (.int (nI (0 + hmN I b * cY ((plB I b hn st N 0 1000) i) yn))), x8] [] X r J post) : ∀ (f : Nat) (y : Nat) (X : MI) (_ : y + f = yn) (_ : Kp I X), Wq MX12_costOf 45 [some (.ref 100), some (.int (nI N)), some (.int much), some (.int (-1)), some (.int (nI L)), some (.int (nI (mS 0 (hmN I b) (wgN I b) L (plB I b hn st N 0 1000) yn i))), some (.int (nI i)), some (.int (nI (0 + hmN I b * cY ((plB I b hn st N 0 1000) i) y))), some (.int (nI y))] [] X r J (post) := by
  have h8 : yn ≤ 8 := h.1.2.2.1
  have hs7 : sn ≤ 7 := h.2.1.2.2.2.1
  obtain ⟨eh, hh9, ec, hc9⟩ := cost_ok h.2.1
  have es : I 100 44 = nI sn := h.2.2.2.1.2.1
  have em : I 100 41 = nI yn := h.2.2.1.1
  have ecl : I 100 45 = nI (clN I b) := by rw [h.2.2.2.1.2.2.1]; exact ec
  have ehm : I 100 46 = nI (hmN I b) := by rw [h.2.2.2.1.2.2.2.1]; exact eh
  intro f
  induction f with
  | zero =>
    intro y X hyk hX
    have emX : X 100 41 = nI yn := by rw [hX 100 41 (by unfold scr; omega)]; exact em
    refine x_iload (q := 47) dX12_costOf_45 rfl rfl ?_
    refine x_aload_n (q := 48) dX12_costOf_47 rfl rfl ?_
    refine q_gi (K := 41) (q := 51) dX12_costOf_48 rfl cl_12 (by decide) tw_1123 rfl rfl ?_
    refine x_icmp_ge (t := 109) (q := 54) dX12_costOf_51 (by decide) rfl (fun c51 => ?_) (fun c51 => absurd c51 (fun q => q (by rw [emX]; exact nI_le (by omega) (by omega))))
    have e9 : y = yn := by omega
    subst e9
    exact kx X _ hX
  | succ f ih =>
    intro y X hyk hX
    have emX : X 100 41 = nI yn := by rw [hX 100 41 (by unfold scr; omega)]; exact em
    have hshI : ShOk (I (b + 8) i) := ((h.2.1.2.2.2.2.1 i hi).1)
    have hci : (nI i).toNatClampNeg = i := nI_clamp (by omega)
    have esl : X 123 i = I (b + 8) i := by rw [hX 123 i (by unfold scr; omega)]; exact (h.2.2.2.1.2.2.2.2.2.1 i hi).1
    refine x_iload (q := 47) dX12_costOf_45 rfl rfl ?_
    refine x_aload_n (q := 48) dX12_costOf_47 rfl rfl ?_
    refine q_gi (K := 41) (q := 51) dX12_costOf_48 rfl cl_12 (by decide) tw_1123 rfl rfl ?_
    refine x_icmp_ge (t := 109) (q := 54) dX12_costOf_51 (by decide) rfl (fun c51 => absurd c51 (by rw [emX]; exact nI_ge (by omega) (by omega))) (fun c51 => ?_)
    refine x_iload (q := 56) dX12_costOf_54 rfl rfl ?_
    refine x_iload_n (q := 57) dX12_costOf_56 rfl rfl ?_
    refine x_iload (q := 59) dX12_costOf_57 rfl rfl ?_
    refine x_ishr (q := 60) dX12_costOf_59 rfl ?_
    refine x_iconst (1) (q := 61) dX12_costOf_60 rfl (by decide) ?_
    refine x_iand (q := 62) dX12_costOf_61 rfl ?_
    refine x_iconst (1) (q := 63) dX12_costOf_62 rfl (by decide) ?_
    refine x_icmp_ne (t := 99) (q := 66) dX12_costOf_63 (by decide) rfl (fun c63 => ?_) (fun c63 => ?_)
    · refine x_iconst (0) (q := 100) dX12_costOf_99 rfl (by decide) ?_
      refine x_iadd (q := 101) dX12_costOf_100 rfl ?_
      refine x_nmi (fun v1 ev1 => ?_)
      refine x_istore (L2 := [some (.ref 100), some (.int (nI N)), some (.int much), some (.int (-1)), some (.int (nI L)), some (.int (nI (mS 0 (hmN I b) (wgN I b) L (plB I b hn st N 0 1000) yn i))), some (.int (nI i)), some (.int v1), some (.int (nI y))]) (q := 103) dX12_costOf_101 rfl (by decide) rfl rfl ?_
      obtain ⟨v2, ev2⟩ : ∃ y_ : Int32, y_ = (nI y) + 1 := ⟨_, rfl⟩
      refine x_iinc (v := v2) (L2 := [some (.ref 100), some (.int (nI N)), some (.int much), some (.int (-1)), some (.int (nI L)), some (.int (nI (mS 0 (hmN I b) (wgN I b) L (plB I b hn st N 0 1000) yn i))), some (.int (nI i)), some (.int v1), some (.int v2)]) (q := 106) dX12_costOf_103 rfl (by decide) rfl rfl (by rw [ev2]; rfl) rfl ?_
      refine x_goto (t := 45) dX12_costOf_106 (by decide) ?_
      rw [show v2 = nI (y + 1) by rw [ev2, nI_p1]]
      have bn : N.testBit y = false := by
        cases q : N.testBit y
        · rfl
        · exact absurd ((bit_1 (by omega) (by omega)).mpr q) c63
      have e9 : v1 = nI (0 + hmN I b * cY ((plB I b hn st N 0 1000) i) (y + 1)) := by
        have q : plB I b hn st N 0 1000 i y = false := by unfold plB; rw [bn, Bool.false_and]
        rw [cY_s, q, ev1]
        exact nI_add _ 0
      rw [e9]
      exact ih (y + 1) X (by omega) hX
    · refine x_aload_n (q := 67) dX12_costOf_66 rfl rfl ?_
      refine x_iload (q := 69) dX12_costOf_67 rfl rfl ?_
      refine x_aload_n (q := 70) dX12_costOf_69 rfl rfl ?_
      refine q_gr (K := 31) (b := 123) (q := 73) dX12_costOf_70 rfl cl_12 (by decide) tw_1113 rfl rfl rfl ?_
      refine x_iload (q := 75) dX12_costOf_73 rfl rfl ?_
      refine q_iald (q := 76) dX12_costOf_75 rfl rfl (vp_in_nI (by omega) (by decide)) ?_
      refine x_iload_n (q := 77) dX12_costOf_76 rfl rfl ?_
      refine x_iload_n (q := 78) dX12_costOf_77 rfl rfl ?_
      refine x_if_ge (t := 85) (q := 81) dX12_costOf_78 (by decide) rfl (fun c78 => absurd c78 ((by decide))) (fun c78 => ?_)
      refine x_iconst (0) (q := 82) dX12_costOf_81 rfl (by decide) ?_
      refine x_goto (t := 86) dX12_costOf_82 (by decide) ?_
      refine q_callV (ci := 12) (N := 79) (T := TX12) (As := [.int (nI y), .int (X 123 (nI i).toNatClampNeg), .int (-1), .int 0]) (rest := [.int (nI (0 + hmN I b * cY ((plB I b hn st N 0 1000) i) y))]) (q := 89) dX12_costOf_86 rfl okX12_firstWhite tw_1512 rfl rfl (by rw [hci, esl]; exact kk_mfw r J hb h hX (by omega) hshI (much := 0) (sat := -1) (at0 := 1000) (by decide) (fun k hk => ⟨fun z => by have w := congrArg Int32.toInt z; rw [nI_toInt (by omega)] at w; have c9 : (-1 : Int32).toInt = -1 := (by decide); omega, fun z => by omega⟩)) rfl rfl (Nat.le_of_ble_eq_true rfl) ⟨by decide, by decide⟩ ⟨rfl, rfl⟩ (fun rv_ Y r_ J_ hv_ => ?_)
      obtain ⟨a1_, hY, a3_, a4_⟩ := hv_
      rw [a1_, a3_, a4_]
      show Wq MX12_costOf 89 [some (.ref 100), some (.int (nI N)), some (.int much), some (.int (-1)), some (.int (nI L)), some (.int (nI (mS 0 (hmN I b) (wgN I b) L (plB I b hn st N 0 1000) yn i))), some (.int (nI i)), some (.int (nI (0 + hmN I b * cY ((plB I b hn st N 0 1000) i) y))), some (.int (nI y))] [.int (fwV I b hn st y (I (b + 8) i) 0 1000), .int (nI (0 + hmN I b * cY ((plB I b hn st N 0 1000) i) y))] Y r J _
      refine x_if_le (t := 99) (q := 92) dX12_costOf_89 (by decide) rfl (fun c89 => ?_) (fun c89 => ?_)
      · refine x_iconst (0) (q := 100) dX12_costOf_99 rfl (by decide) ?_
        refine x_iadd (q := 101) dX12_costOf_100 rfl ?_
        refine x_nmi (fun v3 ev3 => ?_)
        refine x_istore (L2 := [some (.ref 100), some (.int (nI N)), some (.int much), some (.int (-1)), some (.int (nI L)), some (.int (nI (mS 0 (hmN I b) (wgN I b) L (plB I b hn st N 0 1000) yn i))), some (.int (nI i)), some (.int v3), some (.int (nI y))]) (q := 103) dX12_costOf_101 rfl (by decide) rfl rfl ?_
        obtain ⟨v4, ev4⟩ : ∃ y_ : Int32, y_ = (nI y) + 1 := ⟨_, rfl⟩
        refine x_iinc (v := v4) (L2 := [some (.ref 100), some (.int (nI N)), some (.int much), some (.int (-1)), some (.int (nI L)), some (.int (nI (mS 0 (hmN I b) (wgN I b) L (plB I b hn st N 0 1000) yn i))), some (.int (nI i)), some (.int v3), some (.int v4)]) (q := 106) dX12_costOf_103 rfl (by decide) rfl rfl (by rw [ev4]; rfl) rfl ?_
        refine x_goto (t := 45) dX12_costOf_106 (by decide) ?_
        rw [show v4 = nI (y + 1) by rw [ev4, nI_p1]]
        have bn : N.testBit y = true := (bit_1 (by omega) (by omega)).mp (by first | exact c63 | exact Classical.not_not.mp c63)
        have e9 : v3 = nI (0 + hmN I b * cY ((plB I b hn st N 0 1000) i) (y + 1)) := by
          rw [cY_s]
          first | (have q : plB I b hn st N 0 1000 i y = true := by (unfold plB; rw [bn, decide_eq_false (fwV_pos.mp c89)]; rfl)) | (have q : plB I b hn st N 0 1000 i y = false := by (unfold plB; rw [bn, decide_eq_true (Classical.not_not.mp (fun z => absurd c89 (fwV_pos.mpr z)))]; rfl))
          rw [ev3, q]
          first | exact nI_add _ 0 | (rw [hY 100 46 (by unfold scr; omega), ehm, nI_add, if_pos rfl, Nat.mul_succ, Nat.add_assoc])
        rw [e9]
        exact ih (y + 1) Y (by omega) hY
      · refine x_aload_n (q := 93) dX12_costOf_92 rfl rfl ?_
        refine q_gi (K := 46) (q := 96) dX12_costOf_93 rfl cl_12 (by decide) tw_1128 rfl rfl ?_
        refine x_goto (t := 100) dX12_costOf_96 (by decide) ?_
        refine x_iadd (q := 101) dX12_costOf_100 rfl ?_
        refine x_nmi (fun v5 ev5 => ?_)
        refine x_istore (L2 := [some (.ref 100), some (.int (nI N)), some (.int much), some (.int (-1)), some (.int (nI L)), some (.int (nI (mS 0 (hmN I b) (wgN I b) L (plB I b hn st N 0 1000) yn i))), some (.int (nI i)), some (.int v5), some (.int (nI y))]) (q := 103) dX12_costOf_101 rfl (by decide) rfl rfl ?_
        obtain ⟨v6, ev6⟩ : ∃ y_ : Int32, y_ = (nI y) + 1 := ⟨_, rfl⟩
        refine x_iinc (v := v6) (L2 := [some (.ref 100), some (.int (nI N)), some (.int much), some (.int (-1)), some (.int (nI L)), some (.int (nI (mS 0 (hmN I b) (wgN I b) L (plB I b hn st N 0 1000) yn i))), some (.int (nI i)), some (.int v5), some (.int v6)]) (q := 106) dX12_costOf_103 rfl (by decide) rfl rfl (by rw [ev6]; rfl) rfl ?_
        refine x_goto (t := 45) dX12_costOf_106 (by decide) ?_
        rw [show v6 = nI (y + 1) by rw [ev6, nI_p1]]
        have bn : N.testBit y = true := (bit_1 (by omega) (by omega)).mp (by first | exact c63 | exact Classical.not_not.mp c63)
        have e9 : v5 = nI (0 + hmN I b * cY ((plB I b hn st N 0 1000) i) (y + 1)) := by
          rw [cY_s]
          first | (have q : plB I b hn st N 0 1000 i y = true := by (unfold plB; rw [bn, decide_eq_false (fwV_pos.mp c89)]; rfl)) | (have q : plB I b hn st N 0 1000 i y = false := by (unfold plB; rw [bn, decide_eq_true (Classical.not_not.mp (fun z => absurd c89 (fwV_pos.mpr z)))]; rfl))
          rw [ev5, q]
          first | exact nI_add _ 0 | (rw [hY 100 46 (by unfold scr; omega), ehm, nI_add, if_pos rfl, Nat.mul_succ, Nat.add_assoc])
        rw [e9]
        exact ih (y + 1) Y (by omega) hY
set_option maxRecDepth 100000 in
theorem l_co0 {I : MI} {b yn wn hn sn st : Nat} (hb : b ≤ 28) (r : MR) (J : MJ) (h : RelL I b yn wn hn sn st) {N L : Nat} (hN : N < 1000) (hL : L < 1000) (much : Int32) : ∀ (f : Nat) (i : Nat) (X : MI) (x7 x8 : Option Value) (_ : i + f = sn) (_ : Kp I X), Wq MX12_costOf 6 [some (.ref 100), some (.int (nI N)), some (.int much), some (.int (-1)), some (.int (nI L)), some (.int (nI (mS 0 (hmN I b) (wgN I b) L (plB I b hn st N 0 1000) yn i))), some (.int (nI i)), x7, x8] [] X r J (Rk (nI (mS 0 (hmN I b) (wgN I b) L (plB I b hn st N 0 1000) yn sn)) I r J) := by
  have h8 : yn ≤ 8 := h.1.2.2.1
  have hs7 : sn ≤ 7 := h.2.1.2.2.2.1
  obtain ⟨eh, hh9, ec, hc9⟩ := cost_ok h.2.1
  have es : I 100 44 = nI sn := h.2.2.2.1.2.1
  have em : I 100 41 = nI yn := h.2.2.1.1
  have ecl : I 100 45 = nI (clN I b) := by rw [h.2.2.2.1.2.2.1]; exact ec
  have ehm : I 100 46 = nI (hmN I b) := by rw [h.2.2.2.1.2.2.2.1]; exact eh
  intro f
  induction f with
  | zero =>
    intro i X x7 x8 hik hX
    have esX : X 100 44 = nI sn := by rw [hX 100 44 (by unfold scr; omega)]; exact es
    refine x_iload (q := 8) dX12_costOf_6 rfl rfl ?_
    refine x_aload_n (q := 9) dX12_costOf_8 rfl rfl ?_
    refine q_gi (K := 44) (q := 12) dX12_costOf_9 rfl cl_12 (by decide) tw_1126 rfl rfl ?_
    refine x_icmp_ge (t := 130) (q := 15) dX12_costOf_12 (by decide) rfl (fun c12 => ?_) (fun c12 => absurd c12 (fun q => q (by rw [esX]; exact nI_le (by omega) (by omega))))
    refine x_iload (q := 132) dX12_costOf_130 rfl rfl ?_
    refine q_iret dX12_costOf_132 rfl ?_
    rw [show i = sn by omega]
    exact ⟨rfl, hX, rfl, rfl⟩
  | succ f ih =>
    intro i X x7 x8 hik hX
    have esX : X 100 44 = nI sn := by rw [hX 100 44 (by unfold scr; omega)]; exact es
    refine x_iload (q := 8) dX12_costOf_6 rfl rfl ?_
    refine x_aload_n (q := 9) dX12_costOf_8 rfl rfl ?_
    refine q_gi (K := 44) (q := 12) dX12_costOf_9 rfl cl_12 (by decide) tw_1126 rfl rfl ?_
    refine x_icmp_ge (t := 130) (q := 15) dX12_costOf_12 (by decide) rfl (fun c12 => absurd c12 (by rw [esX]; exact nI_ge (by omega) (by omega))) (fun c12 => ?_)
    refine x_iload (q := 17) dX12_costOf_15 rfl rfl ?_
    refine x_iload (q := 19) dX12_costOf_17 rfl rfl ?_
    refine x_ishr (q := 20) dX12_costOf_19 rfl ?_
    refine x_iconst (1) (q := 21) dX12_costOf_20 rfl (by decide) ?_
    refine x_iand (q := 22) dX12_costOf_21 rfl ?_
    refine x_if_ne (t := 28) (q := 25) dX12_costOf_22 (by decide) rfl (fun c22 => ?_) (fun c22 => ?_)
    · refine x_iload_n (q := 29) dX12_costOf_28 rfl rfl ?_
      refine x_if_ge (t := 36) (q := 32) dX12_costOf_29 (by decide) rfl (fun c29 => absurd c29 ((by decide))) (fun c29 => ?_)
      refine x_iconst (0) (q := 33) dX12_costOf_32 rfl (by decide) ?_
      refine x_goto (t := 40) dX12_costOf_33 (by decide) ?_
      refine x_istore (L2 := [some (.ref 100), some (.int (nI N)), some (.int much), some (.int (-1)), some (.int (nI L)), some (.int (nI (mS 0 (hmN I b) (wgN I b) L (plB I b hn st N 0 1000) yn i))), some (.int (nI i)), some (.int 0), x8]) (q := 42) dX12_costOf_40 rfl (by decide) rfl rfl ?_
      refine x_iconst (0) (q := 43) dX12_costOf_42 rfl (by decide) ?_
      refine x_istore (L2 := [some (.ref 100), some (.int (nI N)), some (.int much), some (.int (-1)), some (.int (nI L)), some (.int (nI (mS 0 (hmN I b) (wgN I b) L (plB I b hn st N 0 1000) yn i))), some (.int (nI i)), some (.int 0), some (.int 0)]) (q := 45) dX12_costOf_43 rfl (by decide) rfl rfl ?_
      have bl : L.testBit i = true := by
        cases q : L.testBit i
        · exact absurd ((bit_0 (by omega) (by omega)).mpr q) c22
        · rfl
      refine l_co10 hb r J h hN hL much (i := i) (by omega) _ (fun Y y8 hY => ?_) yn 0 X (by omega) hX
      refine x_iload (q := 111) dX12_costOf_109 rfl rfl ?_
      refine x_aload_n (q := 112) dX12_costOf_111 rfl rfl ?_
      refine q_gr (K := 32) (b := 124) (q := 115) dX12_costOf_112 rfl cl_12 (by decide) tw_1114 rfl rfl rfl ?_
      refine x_iload (q := 117) dX12_costOf_115 rfl rfl ?_
      refine q_iald (q := 118) dX12_costOf_117 rfl rfl (vp_in_nI (by omega) (by decide)) ?_
      refine x_iload (q := 120) dX12_costOf_118 rfl rfl ?_
      refine x_imul (q := 121) dX12_costOf_120 rfl ?_
      refine x_iadd (q := 122) dX12_costOf_121 rfl ?_
      refine x_nmi (fun v61 ev61 => ?_)
      refine x_istore (L2 := [some (.ref 100), some (.int (nI N)), some (.int much), some (.int (-1)), some (.int (nI L)), some (.int v61), some (.int (nI i)), some (.int (nI (0 + hmN I b * cY ((plB I b hn st N 0 1000) i) yn))), y8]) (q := 124) dX12_costOf_122 rfl (by decide) rfl rfl ?_
      obtain ⟨v62, ev62⟩ : ∃ y_ : Int32, y_ = (nI i) + 1 := ⟨_, rfl⟩
      refine x_iinc (v := v62) (L2 := [some (.ref 100), some (.int (nI N)), some (.int much), some (.int (-1)), some (.int (nI L)), some (.int v61), some (.int v62), some (.int (nI (0 + hmN I b * cY ((plB I b hn st N 0 1000) i) yn))), y8]) (q := 127) dX12_costOf_124 rfl (by decide) rfl rfl (by rw [ev62]; rfl) rfl ?_
      refine x_goto (t := 6) dX12_costOf_127 (by decide) ?_
      rw [show v62 = nI (i + 1) by rw [ev62, nI_p1]]
      have e9 : v61 = nI (mS 0 (hmN I b) (wgN I b) L (plB I b hn st N 0 1000) yn (i + 1)) := by
        rw [ev61, nI_clamp (by omega), hY 124 i (by unfold scr; omega), (h.2.2.2.1.2.2.2.2.2.1 i (by omega)).2, (wg_ok h.2.1 (by omega)).1, pk_mul, nI_add, mS_s, if_pos bl]
      rw [e9]
      exact ih (i + 1) Y _ _ (by omega) hY
    · refine x_goto (t := 124) dX12_costOf_25 (by decide) ?_
      obtain ⟨v1, ev1⟩ : ∃ y_ : Int32, y_ = (nI i) + 1 := ⟨_, rfl⟩
      refine x_iinc (v := v1) (L2 := [some (.ref 100), some (.int (nI N)), some (.int much), some (.int (-1)), some (.int (nI L)), some (.int (nI (mS 0 (hmN I b) (wgN I b) L (plB I b hn st N 0 1000) yn i))), some (.int v1), x7, x8]) (q := 127) dX12_costOf_124 rfl (by decide) rfl rfl (by rw [ev1]; rfl) rfl ?_
      refine x_goto (t := 6) dX12_costOf_127 (by decide) ?_
      rw [show v1 = nI (i + 1) by rw [ev1, nI_p1]]
      have e9 : mS 0 (hmN I b) (wgN I b) L (plB I b hn st N 0 1000) yn (i + 1) = mS 0 (hmN I b) (wgN I b) L (plB I b hn st N 0 1000) yn i := by
        rw [mS_s, (bit_0 (by omega) (by omega)).mp c22]
        rfl
      rw [← e9]
      exact ih (i + 1) X _ _ (by omega) hX
set_option maxRecDepth 100000 in
theorem c_co0 {I : MI} {b yn wn hn sn st : Nat} (hb : b ≤ 28) (r : MR) (J : MJ) (h : RelL I b yn wn hn sn st) {N L : Nat} (hN : N < 1000) (hL : L < 1000) (much : Int32) {X : MI} (hX : Kp I X) : Cq yX12_costOf MX12_costOf [.ref 100, .int (nI N), .int much, .int (-1), .int (nI L)] X r J (Rk (nI (mS 0 (hmN I b) (wgN I b) L (plB I b hn st N 0 1000) yn sn)) I r J) := by
  have h8 : yn ≤ 8 := h.1.2.2.1
  have hs7 : sn ≤ 7 := h.2.1.2.2.2.1
  obtain ⟨eh, hh9, ec, hc9⟩ := cost_ok h.2.1
  have es : I 100 44 = nI sn := h.2.2.2.1.2.1
  have em : I 100 41 = nI yn := h.2.2.1.1
  have ecl : I 100 45 = nI (clN I b) := by rw [h.2.2.2.1.2.2.1]; exact ec
  have ehm : I 100 46 = nI (hmN I b) := by rw [h.2.2.2.1.2.2.2.1]; exact eh
  refine cq_of [some (.ref 100), some (.int (nI N)), some (.int much), some (.int (-1)), some (.int (nI L)), none, none, none, none] 4 (by decide +kernel) rfl rfl (Nat.le_of_ble_eq_true rfl) rfl ?_
  refine x_iconst (0) (q := 1) dX12_costOf_0 rfl (by decide) ?_
  refine x_istore (L2 := [some (.ref 100), some (.int (nI N)), some (.int much), some (.int (-1)), some (.int (nI L)), some (.int 0), none, none, none]) (q := 3) dX12_costOf_1 rfl (by decide) rfl rfl ?_
  refine x_iconst (0) (q := 4) dX12_costOf_3 rfl (by decide) ?_
  refine x_istore (L2 := [some (.ref 100), some (.int (nI N)), some (.int much), some (.int (-1)), some (.int (nI L)), some (.int 0), some (.int 0), none, none]) (q := 6) dX12_costOf_4 rfl (by decide) rfl rfl ?_
  exact l_co0 hb r J h hN hL much sn 0 X _ _ (by omega) hX
set_option maxRecDepth 100000 in
theorem l_co11 {I : MI} {b yn wn hn sn st : Nat} (hb : b ≤ 28) (r : MR) (J : MJ) (h : RelL I b yn wn hn sn st) {N L : Nat} (hN : N < 1000) (hL : L < 1000) (much : Int32) (hm : 0 ≤ much.toInt ∧ much.toInt ≤ 99) {a : Nat} (ha : a < 1000) {i : Nat} (hi : i < sn) (post : Option Value → MI → MR → MJ → Prop) (kx : ∀ (X : MI) (x8 : Option Value), Kp I X → Wq MX12_costOf 109 [some (.ref 100), some (.int (nI N)), some (.int much), some (.int (nI a)), some (.int (nI L)), some (.int (nI (mS (clN I b) (hmN I b) (wgN I b) L (plB I b hn st N much a) yn i))), some (.int (nI i)), some (.int (nI ((clN I b) + hmN I b * cY ((plB I b hn st N much a) i) yn))), x8] [] X r J post) : ∀ (f : Nat) (y : Nat) (X : MI) (_ : y + f = yn) (_ : Kp I X), Wq MX12_costOf 45 [some (.ref 100), some (.int (nI N)), some (.int much), some (.int (nI a)), some (.int (nI L)), some (.int (nI (mS (clN I b) (hmN I b) (wgN I b) L (plB I b hn st N much a) yn i))), some (.int (nI i)), some (.int (nI ((clN I b) + hmN I b * cY ((plB I b hn st N much a) i) y))), some (.int (nI y))] [] X r J (post) := by
  have h8 : yn ≤ 8 := h.1.2.2.1
  have hs7 : sn ≤ 7 := h.2.1.2.2.2.1
  obtain ⟨eh, hh9, ec, hc9⟩ := cost_ok h.2.1
  have es : I 100 44 = nI sn := h.2.2.2.1.2.1
  have em : I 100 41 = nI yn := h.2.2.1.1
  have ecl : I 100 45 = nI (clN I b) := by rw [h.2.2.2.1.2.2.1]; exact ec
  have ehm : I 100 46 = nI (hmN I b) := by rw [h.2.2.2.1.2.2.2.1]; exact eh
  intro f
  induction f with
  | zero =>
    intro y X hyk hX
    have emX : X 100 41 = nI yn := by rw [hX 100 41 (by unfold scr; omega)]; exact em
    refine x_iload (q := 47) dX12_costOf_45 rfl rfl ?_
    refine x_aload_n (q := 48) dX12_costOf_47 rfl rfl ?_
    refine q_gi (K := 41) (q := 51) dX12_costOf_48 rfl cl_12 (by decide) tw_1123 rfl rfl ?_
    refine x_icmp_ge (t := 109) (q := 54) dX12_costOf_51 (by decide) rfl (fun c51 => ?_) (fun c51 => absurd c51 (fun q => q (by rw [emX]; exact nI_le (by omega) (by omega))))
    have e9 : y = yn := by omega
    subst e9
    exact kx X _ hX
  | succ f ih =>
    intro y X hyk hX
    have emX : X 100 41 = nI yn := by rw [hX 100 41 (by unfold scr; omega)]; exact em
    have hshI : ShOk (I (b + 8) i) := ((h.2.1.2.2.2.2.1 i hi).1)
    have hci : (nI i).toNatClampNeg = i := nI_clamp (by omega)
    have esl : X 123 i = I (b + 8) i := by rw [hX 123 i (by unfold scr; omega)]; exact (h.2.2.2.1.2.2.2.2.2.1 i hi).1
    refine x_iload (q := 47) dX12_costOf_45 rfl rfl ?_
    refine x_aload_n (q := 48) dX12_costOf_47 rfl rfl ?_
    refine q_gi (K := 41) (q := 51) dX12_costOf_48 rfl cl_12 (by decide) tw_1123 rfl rfl ?_
    refine x_icmp_ge (t := 109) (q := 54) dX12_costOf_51 (by decide) rfl (fun c51 => absurd c51 (by rw [emX]; exact nI_ge (by omega) (by omega))) (fun c51 => ?_)
    refine x_iload (q := 56) dX12_costOf_54 rfl rfl ?_
    refine x_iload_n (q := 57) dX12_costOf_56 rfl rfl ?_
    refine x_iload (q := 59) dX12_costOf_57 rfl rfl ?_
    refine x_ishr (q := 60) dX12_costOf_59 rfl ?_
    refine x_iconst (1) (q := 61) dX12_costOf_60 rfl (by decide) ?_
    refine x_iand (q := 62) dX12_costOf_61 rfl ?_
    refine x_iconst (1) (q := 63) dX12_costOf_62 rfl (by decide) ?_
    refine x_icmp_ne (t := 99) (q := 66) dX12_costOf_63 (by decide) rfl (fun c63 => ?_) (fun c63 => ?_)
    · refine x_iconst (0) (q := 100) dX12_costOf_99 rfl (by decide) ?_
      refine x_iadd (q := 101) dX12_costOf_100 rfl ?_
      refine x_nmi (fun v1 ev1 => ?_)
      refine x_istore (L2 := [some (.ref 100), some (.int (nI N)), some (.int much), some (.int (nI a)), some (.int (nI L)), some (.int (nI (mS (clN I b) (hmN I b) (wgN I b) L (plB I b hn st N much a) yn i))), some (.int (nI i)), some (.int v1), some (.int (nI y))]) (q := 103) dX12_costOf_101 rfl (by decide) rfl rfl ?_
      obtain ⟨v2, ev2⟩ : ∃ y_ : Int32, y_ = (nI y) + 1 := ⟨_, rfl⟩
      refine x_iinc (v := v2) (L2 := [some (.ref 100), some (.int (nI N)), some (.int much), some (.int (nI a)), some (.int (nI L)), some (.int (nI (mS (clN I b) (hmN I b) (wgN I b) L (plB I b hn st N much a) yn i))), some (.int (nI i)), some (.int v1), some (.int v2)]) (q := 106) dX12_costOf_103 rfl (by decide) rfl rfl (by rw [ev2]; rfl) rfl ?_
      refine x_goto (t := 45) dX12_costOf_106 (by decide) ?_
      rw [show v2 = nI (y + 1) by rw [ev2, nI_p1]]
      have bn : N.testBit y = false := by
        cases q : N.testBit y
        · rfl
        · exact absurd ((bit_1 (by omega) (by omega)).mpr q) c63
      have e9 : v1 = nI ((clN I b) + hmN I b * cY ((plB I b hn st N much a) i) (y + 1)) := by
        have q : plB I b hn st N much a i y = false := by unfold plB; rw [bn, Bool.false_and]
        rw [cY_s, q, ev1]
        exact nI_add _ 0
      rw [e9]
      exact ih (y + 1) X (by omega) hX
    · refine x_aload_n (q := 67) dX12_costOf_66 rfl rfl ?_
      refine x_iload (q := 69) dX12_costOf_67 rfl rfl ?_
      refine x_aload_n (q := 70) dX12_costOf_69 rfl rfl ?_
      refine q_gr (K := 31) (b := 123) (q := 73) dX12_costOf_70 rfl cl_12 (by decide) tw_1113 rfl rfl rfl ?_
      refine x_iload (q := 75) dX12_costOf_73 rfl rfl ?_
      refine q_iald (q := 76) dX12_costOf_75 rfl rfl (vp_in_nI (by omega) (by decide)) ?_
      refine x_iload_n (q := 77) dX12_costOf_76 rfl rfl ?_
      refine x_iload_n (q := 78) dX12_costOf_77 rfl rfl ?_
      refine x_if_ge (t := 85) (q := 81) dX12_costOf_78 (by decide) rfl (fun c78 => ?_) (fun c78 => absurd c78 (fun q => q (nI_pos' (by omega))))
      refine x_iload_n (q := 86) dX12_costOf_85 rfl rfl ?_
      refine q_callV (ci := 12) (N := 79) (T := TX12) (As := [.int (nI y), .int (X 123 (nI i).toNatClampNeg), .int (nI a), .int much]) (rest := [.int (nI ((clN I b) + hmN I b * cY ((plB I b hn st N much a) i) y))]) (q := 89) dX12_costOf_86 rfl okX12_firstWhite tw_1512 rfl rfl (by rw [hci, esl]; exact kk_mfw r J hb h hX (by omega) hshI hm (at_nI ha)) rfl rfl (Nat.le_of_ble_eq_true rfl) ⟨by decide, by decide⟩ ⟨rfl, rfl⟩ (fun rv_ Y r_ J_ hv_ => ?_)
      obtain ⟨a1_, hY, a3_, a4_⟩ := hv_
      rw [a1_, a3_, a4_]
      show Wq MX12_costOf 89 [some (.ref 100), some (.int (nI N)), some (.int much), some (.int (nI a)), some (.int (nI L)), some (.int (nI (mS (clN I b) (hmN I b) (wgN I b) L (plB I b hn st N much a) yn i))), some (.int (nI i)), some (.int (nI ((clN I b) + hmN I b * cY ((plB I b hn st N much a) i) y))), some (.int (nI y))] [.int (fwV I b hn st y (I (b + 8) i) much a), .int (nI ((clN I b) + hmN I b * cY ((plB I b hn st N much a) i) y))] Y r J _
      refine x_if_le (t := 99) (q := 92) dX12_costOf_89 (by decide) rfl (fun c89 => ?_) (fun c89 => ?_)
      · refine x_iconst (0) (q := 100) dX12_costOf_99 rfl (by decide) ?_
        refine x_iadd (q := 101) dX12_costOf_100 rfl ?_
        refine x_nmi (fun v3 ev3 => ?_)
        refine x_istore (L2 := [some (.ref 100), some (.int (nI N)), some (.int much), some (.int (nI a)), some (.int (nI L)), some (.int (nI (mS (clN I b) (hmN I b) (wgN I b) L (plB I b hn st N much a) yn i))), some (.int (nI i)), some (.int v3), some (.int (nI y))]) (q := 103) dX12_costOf_101 rfl (by decide) rfl rfl ?_
        obtain ⟨v4, ev4⟩ : ∃ y_ : Int32, y_ = (nI y) + 1 := ⟨_, rfl⟩
        refine x_iinc (v := v4) (L2 := [some (.ref 100), some (.int (nI N)), some (.int much), some (.int (nI a)), some (.int (nI L)), some (.int (nI (mS (clN I b) (hmN I b) (wgN I b) L (plB I b hn st N much a) yn i))), some (.int (nI i)), some (.int v3), some (.int v4)]) (q := 106) dX12_costOf_103 rfl (by decide) rfl rfl (by rw [ev4]; rfl) rfl ?_
        refine x_goto (t := 45) dX12_costOf_106 (by decide) ?_
        rw [show v4 = nI (y + 1) by rw [ev4, nI_p1]]
        have bn : N.testBit y = true := (bit_1 (by omega) (by omega)).mp (by first | exact c63 | exact Classical.not_not.mp c63)
        have e9 : v3 = nI ((clN I b) + hmN I b * cY ((plB I b hn st N much a) i) (y + 1)) := by
          rw [cY_s]
          first | (have q : plB I b hn st N much a i y = true := by (unfold plB; rw [bn, decide_eq_false (fwV_pos.mp c89)]; rfl)) | (have q : plB I b hn st N much a i y = false := by (unfold plB; rw [bn, decide_eq_true (Classical.not_not.mp (fun z => absurd c89 (fwV_pos.mpr z)))]; rfl))
          rw [ev3, q]
          first | exact nI_add _ 0 | (rw [hY 100 46 (by unfold scr; omega), ehm, nI_add, if_pos rfl, Nat.mul_succ, Nat.add_assoc])
        rw [e9]
        exact ih (y + 1) Y (by omega) hY
      · refine x_aload_n (q := 93) dX12_costOf_92 rfl rfl ?_
        refine q_gi (K := 46) (q := 96) dX12_costOf_93 rfl cl_12 (by decide) tw_1128 rfl rfl ?_
        refine x_goto (t := 100) dX12_costOf_96 (by decide) ?_
        refine x_iadd (q := 101) dX12_costOf_100 rfl ?_
        refine x_nmi (fun v5 ev5 => ?_)
        refine x_istore (L2 := [some (.ref 100), some (.int (nI N)), some (.int much), some (.int (nI a)), some (.int (nI L)), some (.int (nI (mS (clN I b) (hmN I b) (wgN I b) L (plB I b hn st N much a) yn i))), some (.int (nI i)), some (.int v5), some (.int (nI y))]) (q := 103) dX12_costOf_101 rfl (by decide) rfl rfl ?_
        obtain ⟨v6, ev6⟩ : ∃ y_ : Int32, y_ = (nI y) + 1 := ⟨_, rfl⟩
        refine x_iinc (v := v6) (L2 := [some (.ref 100), some (.int (nI N)), some (.int much), some (.int (nI a)), some (.int (nI L)), some (.int (nI (mS (clN I b) (hmN I b) (wgN I b) L (plB I b hn st N much a) yn i))), some (.int (nI i)), some (.int v5), some (.int v6)]) (q := 106) dX12_costOf_103 rfl (by decide) rfl rfl (by rw [ev6]; rfl) rfl ?_
        refine x_goto (t := 45) dX12_costOf_106 (by decide) ?_
        rw [show v6 = nI (y + 1) by rw [ev6, nI_p1]]
        have bn : N.testBit y = true := (bit_1 (by omega) (by omega)).mp (by first | exact c63 | exact Classical.not_not.mp c63)
        have e9 : v5 = nI ((clN I b) + hmN I b * cY ((plB I b hn st N much a) i) (y + 1)) := by
          rw [cY_s]
          first | (have q : plB I b hn st N much a i y = true := by (unfold plB; rw [bn, decide_eq_false (fwV_pos.mp c89)]; rfl)) | (have q : plB I b hn st N much a i y = false := by (unfold plB; rw [bn, decide_eq_true (Classical.not_not.mp (fun z => absurd c89 (fwV_pos.mpr z)))]; rfl))
          rw [ev5, q]
          first | exact nI_add _ 0 | (rw [hY 100 46 (by unfold scr; omega), ehm, nI_add, if_pos rfl, Nat.mul_succ, Nat.add_assoc])
        rw [e9]
        exact ih (y + 1) Y (by omega) hY
set_option maxRecDepth 100000 in
theorem l_co1 {I : MI} {b yn wn hn sn st : Nat} (hb : b ≤ 28) (r : MR) (J : MJ) (h : RelL I b yn wn hn sn st) {N L : Nat} (hN : N < 1000) (hL : L < 1000) (much : Int32) (hm : 0 ≤ much.toInt ∧ much.toInt ≤ 99) {a : Nat} (ha : a < 1000) : ∀ (f : Nat) (i : Nat) (X : MI) (x7 x8 : Option Value) (_ : i + f = sn) (_ : Kp I X), Wq MX12_costOf 6 [some (.ref 100), some (.int (nI N)), some (.int much), some (.int (nI a)), some (.int (nI L)), some (.int (nI (mS (clN I b) (hmN I b) (wgN I b) L (plB I b hn st N much a) yn i))), some (.int (nI i)), x7, x8] [] X r J (Rk (nI (mS (clN I b) (hmN I b) (wgN I b) L (plB I b hn st N much a) yn sn)) I r J) := by
  have h8 : yn ≤ 8 := h.1.2.2.1
  have hs7 : sn ≤ 7 := h.2.1.2.2.2.1
  obtain ⟨eh, hh9, ec, hc9⟩ := cost_ok h.2.1
  have es : I 100 44 = nI sn := h.2.2.2.1.2.1
  have em : I 100 41 = nI yn := h.2.2.1.1
  have ecl : I 100 45 = nI (clN I b) := by rw [h.2.2.2.1.2.2.1]; exact ec
  have ehm : I 100 46 = nI (hmN I b) := by rw [h.2.2.2.1.2.2.2.1]; exact eh
  intro f
  induction f with
  | zero =>
    intro i X x7 x8 hik hX
    have esX : X 100 44 = nI sn := by rw [hX 100 44 (by unfold scr; omega)]; exact es
    refine x_iload (q := 8) dX12_costOf_6 rfl rfl ?_
    refine x_aload_n (q := 9) dX12_costOf_8 rfl rfl ?_
    refine q_gi (K := 44) (q := 12) dX12_costOf_9 rfl cl_12 (by decide) tw_1126 rfl rfl ?_
    refine x_icmp_ge (t := 130) (q := 15) dX12_costOf_12 (by decide) rfl (fun c12 => ?_) (fun c12 => absurd c12 (fun q => q (by rw [esX]; exact nI_le (by omega) (by omega))))
    refine x_iload (q := 132) dX12_costOf_130 rfl rfl ?_
    refine q_iret dX12_costOf_132 rfl ?_
    rw [show i = sn by omega]
    exact ⟨rfl, hX, rfl, rfl⟩
  | succ f ih =>
    intro i X x7 x8 hik hX
    have esX : X 100 44 = nI sn := by rw [hX 100 44 (by unfold scr; omega)]; exact es
    refine x_iload (q := 8) dX12_costOf_6 rfl rfl ?_
    refine x_aload_n (q := 9) dX12_costOf_8 rfl rfl ?_
    refine q_gi (K := 44) (q := 12) dX12_costOf_9 rfl cl_12 (by decide) tw_1126 rfl rfl ?_
    refine x_icmp_ge (t := 130) (q := 15) dX12_costOf_12 (by decide) rfl (fun c12 => absurd c12 (by rw [esX]; exact nI_ge (by omega) (by omega))) (fun c12 => ?_)
    refine x_iload (q := 17) dX12_costOf_15 rfl rfl ?_
    refine x_iload (q := 19) dX12_costOf_17 rfl rfl ?_
    refine x_ishr (q := 20) dX12_costOf_19 rfl ?_
    refine x_iconst (1) (q := 21) dX12_costOf_20 rfl (by decide) ?_
    refine x_iand (q := 22) dX12_costOf_21 rfl ?_
    refine x_if_ne (t := 28) (q := 25) dX12_costOf_22 (by decide) rfl (fun c22 => ?_) (fun c22 => ?_)
    · refine x_iload_n (q := 29) dX12_costOf_28 rfl rfl ?_
      refine x_if_ge (t := 36) (q := 32) dX12_costOf_29 (by decide) rfl (fun c29 => ?_) (fun c29 => absurd c29 (fun q => q (nI_pos' (by omega))))
      refine x_aload_n (q := 37) dX12_costOf_36 rfl rfl ?_
      refine q_gi (K := 45) (q := 40) dX12_costOf_37 rfl cl_12 (by decide) tw_1127 rfl rfl ?_
      refine x_nmi (fun v1 ev1 => ?_)
      refine x_istore (L2 := [some (.ref 100), some (.int (nI N)), some (.int much), some (.int (nI a)), some (.int (nI L)), some (.int (nI (mS (clN I b) (hmN I b) (wgN I b) L (plB I b hn st N much a) yn i))), some (.int (nI i)), some (.int v1), x8]) (q := 42) dX12_costOf_40 rfl (by decide) rfl rfl ?_
      refine x_iconst (0) (q := 43) dX12_costOf_42 rfl (by decide) ?_
      refine x_istore (L2 := [some (.ref 100), some (.int (nI N)), some (.int much), some (.int (nI a)), some (.int (nI L)), some (.int (nI (mS (clN I b) (hmN I b) (wgN I b) L (plB I b hn st N much a) yn i))), some (.int (nI i)), some (.int v1), some (.int 0)]) (q := 45) dX12_costOf_43 rfl (by decide) rfl rfl ?_
      have bl : L.testBit i = true := by
        cases q : L.testBit i
        · exact absurd ((bit_0 (by omega) (by omega)).mpr q) c22
        · rfl
      have eo : v1 = nI (clN I b + hmN I b * cY ((plB I b hn st N much a) i) 0) := by rw [ev1, hX 100 45 (by unfold scr; omega), ecl]; rfl
      rw [eo]
      refine l_co11 hb r J h hN hL much hm ha (i := i) (by omega) _ (fun Y y8 hY => ?_) yn 0 X (by omega) hX
      refine x_iload (q := 111) dX12_costOf_109 rfl rfl ?_
      refine x_aload_n (q := 112) dX12_costOf_111 rfl rfl ?_
      refine q_gr (K := 32) (b := 124) (q := 115) dX12_costOf_112 rfl cl_12 (by decide) tw_1114 rfl rfl rfl ?_
      refine x_iload (q := 117) dX12_costOf_115 rfl rfl ?_
      refine q_iald (q := 118) dX12_costOf_117 rfl rfl (vp_in_nI (by omega) (by decide)) ?_
      refine x_iload (q := 120) dX12_costOf_118 rfl rfl ?_
      refine x_imul (q := 121) dX12_costOf_120 rfl ?_
      refine x_iadd (q := 122) dX12_costOf_121 rfl ?_
      refine x_nmi (fun v61 ev61 => ?_)
      refine x_istore (L2 := [some (.ref 100), some (.int (nI N)), some (.int much), some (.int (nI a)), some (.int (nI L)), some (.int v61), some (.int (nI i)), some (.int (nI ((clN I b) + hmN I b * cY ((plB I b hn st N much a) i) yn))), y8]) (q := 124) dX12_costOf_122 rfl (by decide) rfl rfl ?_
      obtain ⟨v62, ev62⟩ : ∃ y_ : Int32, y_ = (nI i) + 1 := ⟨_, rfl⟩
      refine x_iinc (v := v62) (L2 := [some (.ref 100), some (.int (nI N)), some (.int much), some (.int (nI a)), some (.int (nI L)), some (.int v61), some (.int v62), some (.int (nI ((clN I b) + hmN I b * cY ((plB I b hn st N much a) i) yn))), y8]) (q := 127) dX12_costOf_124 rfl (by decide) rfl rfl (by rw [ev62]; rfl) rfl ?_
      refine x_goto (t := 6) dX12_costOf_127 (by decide) ?_
      rw [show v62 = nI (i + 1) by rw [ev62, nI_p1]]
      have e9 : v61 = nI (mS (clN I b) (hmN I b) (wgN I b) L (plB I b hn st N much a) yn (i + 1)) := by
        rw [ev61, nI_clamp (by omega), hY 124 i (by unfold scr; omega), (h.2.2.2.1.2.2.2.2.2.1 i (by omega)).2, (wg_ok h.2.1 (by omega)).1, pk_mul, nI_add, mS_s, if_pos bl]
      rw [e9]
      exact ih (i + 1) Y _ _ (by omega) hY
    · refine x_goto (t := 124) dX12_costOf_25 (by decide) ?_
      obtain ⟨v2, ev2⟩ : ∃ y_ : Int32, y_ = (nI i) + 1 := ⟨_, rfl⟩
      refine x_iinc (v := v2) (L2 := [some (.ref 100), some (.int (nI N)), some (.int much), some (.int (nI a)), some (.int (nI L)), some (.int (nI (mS (clN I b) (hmN I b) (wgN I b) L (plB I b hn st N much a) yn i))), some (.int v2), x7, x8]) (q := 127) dX12_costOf_124 rfl (by decide) rfl rfl (by rw [ev2]; rfl) rfl ?_
      refine x_goto (t := 6) dX12_costOf_127 (by decide) ?_
      rw [show v2 = nI (i + 1) by rw [ev2, nI_p1]]
      have e9 : mS (clN I b) (hmN I b) (wgN I b) L (plB I b hn st N much a) yn (i + 1) = mS (clN I b) (hmN I b) (wgN I b) L (plB I b hn st N much a) yn i := by
        rw [mS_s, (bit_0 (by omega) (by omega)).mp c22]
        rfl
      rw [← e9]
      exact ih (i + 1) X _ _ (by omega) hX
set_option maxRecDepth 100000 in
theorem c_co1 {I : MI} {b yn wn hn sn st : Nat} (hb : b ≤ 28) (r : MR) (J : MJ) (h : RelL I b yn wn hn sn st) {N L : Nat} (hN : N < 1000) (hL : L < 1000) (much : Int32) (hm : 0 ≤ much.toInt ∧ much.toInt ≤ 99) {a : Nat} (ha : a < 1000) {X : MI} (hX : Kp I X) : Cq yX12_costOf MX12_costOf [.ref 100, .int (nI N), .int much, .int (nI a), .int (nI L)] X r J (Rk (nI (mS (clN I b) (hmN I b) (wgN I b) L (plB I b hn st N much a) yn sn)) I r J) := by
  have h8 : yn ≤ 8 := h.1.2.2.1
  have hs7 : sn ≤ 7 := h.2.1.2.2.2.1
  obtain ⟨eh, hh9, ec, hc9⟩ := cost_ok h.2.1
  have es : I 100 44 = nI sn := h.2.2.2.1.2.1
  have em : I 100 41 = nI yn := h.2.2.1.1
  have ecl : I 100 45 = nI (clN I b) := by rw [h.2.2.2.1.2.2.1]; exact ec
  have ehm : I 100 46 = nI (hmN I b) := by rw [h.2.2.2.1.2.2.2.1]; exact eh
  refine cq_of [some (.ref 100), some (.int (nI N)), some (.int much), some (.int (nI a)), some (.int (nI L)), none, none, none, none] 4 (by decide +kernel) rfl rfl (Nat.le_of_ble_eq_true rfl) rfl ?_
  refine x_iconst (0) (q := 1) dX12_costOf_0 rfl (by decide) ?_
  refine x_istore (L2 := [some (.ref 100), some (.int (nI N)), some (.int much), some (.int (nI a)), some (.int (nI L)), some (.int 0), none, none, none]) (q := 3) dX12_costOf_1 rfl (by decide) rfl rfl ?_
  refine x_iconst (0) (q := 4) dX12_costOf_3 rfl (by decide) ?_
  refine x_istore (L2 := [some (.ref 100), some (.int (nI N)), some (.int much), some (.int (nI a)), some (.int (nI L)), some (.int 0), some (.int 0), none, none]) (q := 6) dX12_costOf_4 rfl (by decide) rfl rfl ?_
  exact l_co1 hb r J h hN hL much hm ha sn 0 X _ _ (by omega) hX
def plV (bs : Int32) (bc W : Nat) (w : Int32) : Int32 := if w = 0 then bs else if w = 1 then nI (bc / Nat.gcd bc W) else nI (W / Nat.gcd bc W)
theorem BM_le {C : Nat → Nat} {T0 i : Nat} {s : Int32} {c : Nat} (h : BM C T0 i s c) : c ≤ T0 := by
  rcases h with ⟨e1, e2, e3⟩ | ⟨a, a0, a1, a2, a3, a4, a5, a6⟩
  · omega
  · omega
def PlF (I : MI) (b yn sn hn st N L : Nat) (much w : Int32) (r : MR) (J : MJ) : Option Value → MI → MR → MJ → Prop := fun v I' r' J' => ∃ bs bc, BM (CF I b yn sn hn st N L much) (T0F I b yn sn hn st N L) 0 bs bc ∧ v = some (.int (plV bs bc (sumW I b L.testBit sn) w)) ∧ Kp I I' ∧ r' = r ∧ J' = J
theorem CF_mS {I : MI} {b yn sn hn st N L : Nat} {much : Int32} {a : Nat} : mS (clN I b) (hmN I b) (wgN I b) L (plB I b hn st N much a) yn sn = CF I b yn sn hn st N L much a := mS_eq sn
theorem T0_mS {I : MI} {b yn sn hn st N L : Nat} : mS 0 (hmN I b) (wgN I b) L (plB I b hn st N 0 1000) yn sn = T0F I b yn sn hn st N L := by
  rw [mS_eq, Nat.zero_mul, Nat.zero_add]
  unfold T0F
  have e : plB I b hn st N 0 1000 = plB I b hn st N 0 0 := by
    funext i y
    unfold plB
    rw [fwV_0 (c := 0)]
  rw [e]
set_option maxRecDepth 100000 in
theorem l_Mplan {I : MI} {b yn wn hn sn st : Nat} (hb : b ≤ 28) (r : MR) (J : MJ) (h : RelL I b yn wn hn sn st) {N L : Nat} (hN : N < 1000) (hL : L < 1000) {much : Int32} (hm : 0 ≤ much.toInt ∧ much.toInt ≤ 99) (h1 : 1 ≤ sumW I b L.testBit sn) (w k : Int32) : ∀ (f i : Nat) (X : MI) (bs : Int32) (bc : Nat) (x9 : Option Value) (_ : i = f) (_ : i ≤ 25) (_ : BM (CF I b yn sn hn st N L much) (T0F I b yn sn hn st N L) i bs bc) (_ : Kp I X), Wq MX12_plan 66 [some (.ref 100), some (.int (nI N)), some (.int much), some (.int w), some (.int k), some (.int (nI L)), some (.int bs), some (.int (nI bc)), some (.int (nI i - 1)), x9] [] X r J (PlF I b yn sn hn st N L much w r J) := by
  have h8 : yn ≤ 8 := h.1.2.2.1
  have hs7 : sn ≤ 7 := h.2.1.2.2.2.1
  obtain ⟨eh, hh9, ec, hc9⟩ := cost_ok h.2.1
  have hw9 : ∀ k, k < sn → wgN I b k ≤ 99 := fun k hk => (wg_ok h.2.1 hk).2.2
  have hW := sumW_le h.2.1 L.testBit sn (Nat.le_refl _)
  have hfee : clN I b * sumW I b L.testBit sn ≤ 9999 * 693 := Nat.mul_le_mul hc9 (by omega)
  have hT : ∀ mu a, pS (hmN I b) (wgN I b) L (plB I b hn st N mu a) yn sn ≤ 55434456 := fun mu a => by have := pS_le (L := L) (P := plB I b hn st N mu a) hh9 h8 sn hw9; omega
  intro f
  induction f with
  | zero =>
    intro i X bs bc x9 hi0 hi25 hB hX
    subst hi0
    have hle := BM_le hB
    have hT0 : T0F I b yn sn hn st N L ≤ 55434456 := hT 0 0
    have hRX := RelL_k hX hb h
    have hp : 0 < Nat.gcd bc (sumW I b L.testBit sn) := Nat.gcd_pos_of_pos_right _ h1
    have hpl : Nat.gcd bc (sumW I b L.testBit sn) ≤ sumW I b L.testBit sn := Nat.gcd_le_right _ h1
    refine x_iload (q := 68) dX12_plan_66 rfl rfl ?_
    refine x_if_lt (t := 107) (q := 71) dX12_plan_68 (by decide) rfl (fun c68 => ?_) (fun c68 => absurd c68 (fun q => q (by decide)))
    refine x_aload_n (q := 108) dX12_plan_107 rfl rfl ?_
    refine x_iload (q := 110) dX12_plan_108 rfl rfl ?_
    refine q_callV (ci := 12) (N := 79) (T := TX12) (As := [.int (nI L)]) (rest := []) (q := 113) dX12_plan_110 rfl okX12_weightOf tw_1552 rfl rfl (c_mwof hRX.2.1 hRX.2.2.2.1 hL r J) rfl rfl (Nat.le_of_ble_eq_true rfl) ⟨by decide, by decide⟩ ⟨rfl, rfl⟩ (fun rv_ I_ r_ J_ hv_ => ?_)
    obtain ⟨a1_, a2_, a3_, a4_⟩ := hv_
    rw [sumW_k hX hb] at a1_
    rw [a1_, a2_, a3_, a4_]
    show Wq MX12_plan 113 [some (.ref 100), some (.int (nI N)), some (.int much), some (.int w), some (.int k), some (.int (nI L)), some (.int bs), some (.int (nI bc)), some (.int (nI 0 - 1)), x9] [.int (nI (sumW I b L.testBit sn))] X r J _
    refine x_istore (L2 := [some (.ref 100), some (.int (nI N)), some (.int much), some (.int w), some (.int k), some (.int (nI L)), some (.int bs), some (.int (nI bc)), some (.int (nI (sumW I b L.testBit sn))), x9]) (q := 115) dX12_plan_113 rfl (by decide) rfl rfl ?_
    refine x_iload (q := 117) dX12_plan_115 rfl rfl ?_
    refine x_iload (q := 119) dX12_plan_117 rfl rfl ?_
    refine q_callS (As := [.int (nI (sumW I b L.testBit sn)), .int (nI bc)]) (rest := []) (q := 122) dX12_plan_119 rfl okX12_common tw_1556 (by have q := c_common (a := sumW I b L.testBit sn) (b := bc) (by omega) (by omega) X r J; rw [Nat.gcd_comm] at q; exact q) rfl rfl (Nat.le_of_ble_eq_true rfl) ⟨by decide, by decide⟩ ⟨rfl, rfl⟩ (fun rv_ I_ r_ J_ hv_ => ?_)
    obtain ⟨a1_, a2_, a3_, a4_⟩ := hv_
    rw [a1_, a2_, a3_, a4_]
    show Wq MX12_plan 122 [some (.ref 100), some (.int (nI N)), some (.int much), some (.int w), some (.int k), some (.int (nI L)), some (.int bs), some (.int (nI bc)), some (.int (nI (sumW I b L.testBit sn))), x9] [.int (nI (Nat.gcd bc (sumW I b L.testBit sn)))] X r J _
    refine x_istore (L2 := [some (.ref 100), some (.int (nI N)), some (.int much), some (.int w), some (.int k), some (.int (nI L)), some (.int bs), some (.int (nI bc)), some (.int (nI (sumW I b L.testBit sn))), some (.int (nI (Nat.gcd bc (sumW I b L.testBit sn))))]) (q := 124) dX12_plan_122 rfl (by decide) rfl rfl ?_
    refine x_iload_n (q := 125) dX12_plan_124 rfl rfl ?_
    refine x_if_ne (t := 133) (q := 128) dX12_plan_125 (by decide) rfl (fun c125 => ?_) (fun c125 => ?_)
    · refine x_iload_n (q := 134) dX12_plan_133 rfl rfl ?_
      refine x_iconst (1) (q := 135) dX12_plan_134 rfl (by decide) ?_
      refine x_icmp_ne (t := 146) (q := 138) dX12_plan_135 (by decide) rfl (fun c135 => ?_) (fun c135 => ?_)
      · refine x_iload (q := 148) dX12_plan_146 rfl rfl ?_
        refine x_iload (q := 150) dX12_plan_148 rfl rfl ?_
        refine x_idiv (q := 151) dX12_plan_150 rfl (nI_ne0 hp (by omega)) ?_
        refine q_iret dX12_plan_151 rfl ?_
        try rw [pk_div (by omega) hp (by omega)]
        refine ⟨bs, bc, hB, ?_, hX, rfl, rfl⟩
        unfold plV
        first | rw [if_pos c125] | (rw [if_neg c125]; first | rw [if_pos c135] | rw [if_neg c135])
      · refine x_iload (q := 140) dX12_plan_138 rfl rfl ?_
        refine x_iload (q := 142) dX12_plan_140 rfl rfl ?_
        refine x_idiv (q := 143) dX12_plan_142 rfl (nI_ne0 hp (by omega)) ?_
        refine x_goto (t := 151) dX12_plan_143 (by decide) ?_
        refine q_iret dX12_plan_151 rfl ?_
        try rw [pk_div (by omega) hp (by omega)]
        refine ⟨bs, bc, hB, ?_, hX, rfl, rfl⟩
        unfold plV
        first | rw [if_pos c125] | (rw [if_neg c125]; first | rw [if_pos c135] | rw [if_neg c135])
    · refine x_iload (q := 130) dX12_plan_128 rfl rfl ?_
      refine x_goto (t := 151) dX12_plan_130 (by decide) ?_
      refine q_iret dX12_plan_151 rfl ?_
      try rw [pk_div (by omega) hp (by omega)]
      refine ⟨bs, bc, hB, ?_, hX, rfl, rfl⟩
      unfold plV
      first | rw [if_pos c125] | (rw [if_neg c125]; first | rw [if_pos c135] | rw [if_neg c135])
  | succ i ih =>
    intro i1 X bs bc x9 hi0 hi25 hB hX
    subst hi0
    rw [nI_pred]
    have hle := BM_le hB
    have hT0 : T0F I b yn sn hn st N L ≤ 55434456 := hT 0 0
    have hRX := RelL_k hX hb h
    have hp : 0 < Nat.gcd bc (sumW I b L.testBit sn) := Nat.gcd_pos_of_pos_right _ h1
    have hpl : Nat.gcd bc (sumW I b L.testBit sn) ≤ sumW I b L.testBit sn := Nat.gcd_le_right _ h1
    refine x_iload (q := 68) dX12_plan_66 rfl rfl ?_
    refine x_if_lt (t := 107) (q := 71) dX12_plan_68 (by decide) rfl (fun c68 => absurd c68 (nI_pos (by omega))) (fun c68 => ?_)
    refine x_aload_n (q := 72) dX12_plan_71 rfl rfl ?_
    refine x_iload_n (q := 73) dX12_plan_72 rfl rfl ?_
    refine x_iload_n (q := 74) dX12_plan_73 rfl rfl ?_
    refine x_iload (q := 76) dX12_plan_74 rfl rfl ?_
    refine x_iload (q := 78) dX12_plan_76 rfl rfl ?_
    refine q_callV (ci := 12) (N := 79) (T := TX12) (As := [.int (nI N), .int much, .int (nI i), .int (nI L)]) (rest := []) (q := 81) dX12_plan_78 rfl okX12_costOf tw_1567 rfl rfl (by have q := c_co1 hb r J h hN hL much hm (a := i) (by omega) hX; rw [CF_mS] at q; exact q) rfl rfl (Nat.le_of_ble_eq_true rfl) ⟨by decide, by decide⟩ ⟨rfl, rfl⟩ (fun rv_ Y r_ J_ hv_ => ?_)
    obtain ⟨a1_, hY, a3_, a4_⟩ := hv_
    rw [a1_, a3_, a4_]
    show Wq MX12_plan 81 [some (.ref 100), some (.int (nI N)), some (.int much), some (.int w), some (.int k), some (.int (nI L)), some (.int bs), some (.int (nI bc)), some (.int (nI i)), x9] [.int (nI (CF I b yn sn hn st N L much i))] Y r J _
    refine x_istore (L2 := [some (.ref 100), some (.int (nI N)), some (.int much), some (.int w), some (.int k), some (.int (nI L)), some (.int bs), some (.int (nI bc)), some (.int (nI i)), some (.int (nI (CF I b yn sn hn st N L much i)))]) (q := 83) dX12_plan_81 rfl (by decide) rfl rfl ?_
    refine x_iload (q := 85) dX12_plan_83 rfl rfl ?_
    refine x_iload (q := 87) dX12_plan_85 rfl rfl ?_
    refine x_icmp_le (t := 93) (q := 90) dX12_plan_87 (by decide) rfl (fun c87 => ?_) (fun c87 => ?_)
    · refine x_iload (q := 95) dX12_plan_93 rfl rfl ?_
      refine x_istore (L2 := [some (.ref 100), some (.int (nI N)), some (.int much), some (.int w), some (.int k), some (.int (nI L)), some (.int (nI i)), some (.int (nI bc)), some (.int (nI i)), some (.int (nI (CF I b yn sn hn st N L much i)))]) (q := 97) dX12_plan_95 rfl (by decide) rfl rfl ?_
      refine x_iload (q := 99) dX12_plan_97 rfl rfl ?_
      refine x_istore (L2 := [some (.ref 100), some (.int (nI N)), some (.int much), some (.int w), some (.int k), some (.int (nI L)), some (.int (nI i)), some (.int (nI (CF I b yn sn hn st N L much i))), some (.int (nI i)), some (.int (nI (CF I b yn sn hn st N L much i)))]) (q := 101) dX12_plan_99 rfl (by decide) rfl rfl ?_
      obtain ⟨v1, ev1⟩ : ∃ y_ : Int32, y_ = (nI i) + (-1) := ⟨_, rfl⟩
      refine x_iinc (v := v1) (L2 := [some (.ref 100), some (.int (nI N)), some (.int much), some (.int w), some (.int k), some (.int (nI L)), some (.int (nI i)), some (.int (nI (CF I b yn sn hn st N L much i))), some (.int v1), some (.int (nI (CF I b yn sn hn st N L much i)))]) (q := 104) dX12_plan_101 rfl (by decide) rfl rfl (by rw [ev1]; rfl) rfl ?_
      refine x_goto (t := 66) dX12_plan_104 (by decide) ?_
      have ei : v1 = nI i - 1 := by rw [ev1, Int32.sub_eq_add_neg]
      rw [ei]
      have hCi : (CF I b yn sn hn st N L much i) ≤ 55434456 + 9999 * 693 := by unfold CF; have := hT much i; omega
      have hBs := BM_s (show i < 25 by omega) hB
      exact ih i Y (nI i) (CF I b yn sn hn st N L much i) _ rfl (by omega) (hBs.1 ((nI_leI (by omega) (by omega)).mp c87)) hY
    · refine x_goto (t := 101) dX12_plan_90 (by decide) ?_
      obtain ⟨v2, ev2⟩ : ∃ y_ : Int32, y_ = (nI i) + (-1) := ⟨_, rfl⟩
      refine x_iinc (v := v2) (L2 := [some (.ref 100), some (.int (nI N)), some (.int much), some (.int w), some (.int k), some (.int (nI L)), some (.int bs), some (.int (nI bc)), some (.int v2), some (.int (nI (CF I b yn sn hn st N L much i)))]) (q := 104) dX12_plan_101 rfl (by decide) rfl rfl (by rw [ev2]; rfl) rfl ?_
      refine x_goto (t := 66) dX12_plan_104 (by decide) ?_
      have ei : v2 = nI i - 1 := by rw [ev2, Int32.sub_eq_add_neg]
      rw [ei]
      have hCi : (CF I b yn sn hn st N L much i) ≤ 55434456 + 9999 * 693 := by unfold CF; have := hT much i; omega
      have hBs := BM_s (show i < 25 by omega) hB
      exact ih i Y bs bc _ rfl (by omega) (hBs.2 (fun z => c87 (nI_le z (by omega)))) hY
set_option maxRecDepth 100000 in
theorem c_Mplan_g {I : MI} {b yn wn hn sn st : Nat} (hb : b ≤ 28) (r : MR) (J : MJ) (h : RelL I b yn wn hn sn st) {gn : Nat} (g1 : gn ≤ 30) (g3 : I 100 72 = nI gn) (g4 : GlA I b yn hn sn gn) {N : Nat} (hN : N < 2 ^ yn) {much w k : Int32} (ha : (0 : Int32) ≤ much ∧ much ≤ 99) (hw : 0 ≤ w ∧ w ≤ 2) (h0 : ¬ lftN I b hn sn gn k = 0) : Cq yX12_plan MX12_plan [.ref 100, .int (nI N), .int much, .int w, .int k] I r J (PlF I b yn sn hn st N (lftN I b hn sn gn k) much w r J) := by
  have h8 : yn ≤ 8 := h.1.2.2.1
  have h256 := p8 h8
  have hs7 : sn ≤ 7 := h.2.1.2.2.2.1
  have hlt := lftN_lt (I := I) (b := b) (hn := hn) (gn := gn) (k := k) hs7
  refine cq_of [some (.ref 100), some (.int (nI N)), some (.int much), some (.int w), some (.int k), none, none, none, none, none] 5 (by decide +kernel) rfl rfl (Nat.le_of_ble_eq_true rfl) rfl ?_
  refine x_aload_n (q := 1) dX12_plan_0 rfl rfl ?_
  refine x_iload_n (q := 2) dX12_plan_1 rfl rfl ?_
  refine q_callV (ci := 12) (N := 79) (T := TX12) (As := [.int (nI N)]) (rest := []) (q := 5) dX12_plan_2 rfl okX12_isSet tw_1563 rfl rfl (c_mSet_g hb r J h hN) rfl rfl (Nat.le_of_ble_eq_true rfl) ⟨by decide, by decide⟩ ⟨rfl, rfl⟩ (fun rv_ I_ r_ J_ hv_ => ?_)
  obtain ⟨a1_, a2_, a3_, a4_⟩ := hv_
  rw [a1_, a2_, a3_, a4_]
  show Wq MX12_plan 5 [some (.ref 100), some (.int (nI N)), some (.int much), some (.int w), some (.int k), none, none, none, none, none] [.int 1] I r J _
  refine x_if_eq (t := 27) (q := 8) dX12_plan_5 (by decide) rfl (fun c5 => absurd c5 ((by decide))) (fun c5 => ?_)
  refine x_iload_n (q := 9) dX12_plan_8 rfl rfl ?_
  refine x_iconst (0) (q := 10) dX12_plan_9 rfl (by decide) ?_
  refine x_bipush (99) (q := 12) dX12_plan_10 rfl (by decide) ?_
  refine q_callS (As := [.int much, .int 0, .int 99]) (rest := []) (q := 15) dX12_plan_12 rfl okX12_isIn tw_1450 (c_isIn_g I r J ha.1 ha.2) rfl rfl (Nat.le_of_ble_eq_true rfl) ⟨by decide, by decide⟩ ⟨rfl, rfl⟩ (fun rv_ I_ r_ J_ hv_ => ?_)
  obtain ⟨a1_, a2_, a3_, a4_⟩ := hv_
  rw [a1_, a2_, a3_, a4_]
  show Wq MX12_plan 15 [some (.ref 100), some (.int (nI N)), some (.int much), some (.int w), some (.int k), none, none, none, none, none] [.int 1] I r J _
  refine x_if_eq (t := 27) (q := 18) dX12_plan_15 (by decide) rfl (fun c15 => absurd c15 ((by decide))) (fun c15 => ?_)
  refine x_iload_n (q := 19) dX12_plan_18 rfl rfl ?_
  refine x_iconst (0) (q := 20) dX12_plan_19 rfl (by decide) ?_
  refine x_iconst (2) (q := 21) dX12_plan_20 rfl (by decide) ?_
  refine q_callS (As := [.int w, .int 0, .int 2]) (rest := []) (q := 24) dX12_plan_21 rfl okX12_isIn tw_1450 (c_isIn_g I r J hw.1 hw.2) rfl rfl (Nat.le_of_ble_eq_true rfl) ⟨by decide, by decide⟩ ⟨rfl, rfl⟩ (fun rv_ I_ r_ J_ hv_ => ?_)
  obtain ⟨a1_, a2_, a3_, a4_⟩ := hv_
  rw [a1_, a2_, a3_, a4_]
  show Wq MX12_plan 24 [some (.ref 100), some (.int (nI N)), some (.int much), some (.int w), some (.int k), none, none, none, none, none] [.int 1] I r J _
  refine x_if_ne (t := 31) (q := 27) dX12_plan_24 (by decide) rfl (fun c24 => ?_) (fun c24 => absurd c24 ((by decide)))
  refine x_aload_n (q := 32) dX12_plan_31 rfl rfl ?_
  refine x_iload (q := 34) dX12_plan_32 rfl rfl ?_
  refine q_callV (ci := 12) (N := 79) (T := TX12) (As := [.int k]) (rest := []) (q := 37) dX12_plan_34 rfl okX12_left tw_1532 rfl rfl (c_Mleft hb h g1 g3 g4 k r J) rfl rfl (Nat.le_of_ble_eq_true rfl) ⟨by decide, by decide⟩ ⟨rfl, rfl⟩ (fun rv_ X r_ J_ hv_ => ?_)
  obtain ⟨a1_, hX, a3_, a4_⟩ := hv_
  rw [a1_, a3_, a4_]
  show Wq MX12_plan 37 [some (.ref 100), some (.int (nI N)), some (.int much), some (.int w), some (.int k), none, none, none, none, none] [.int (nI (lftN I b hn sn gn k))] X r J _
  refine x_istore (L2 := [some (.ref 100), some (.int (nI N)), some (.int much), some (.int w), some (.int k), some (.int (nI (lftN I b hn sn gn k))), none, none, none, none]) (q := 39) dX12_plan_37 rfl (by decide) rfl rfl ?_
  refine x_iload (q := 41) dX12_plan_39 rfl rfl ?_
  refine x_if_ne (t := 48) (q := 44) dX12_plan_41 (by decide) rfl (fun c41 => ?_) (fun c41 => absurd c41 (nI_ne0 (by omega) (by omega)))
  refine x_iconst (-1) (q := 49) dX12_plan_48 rfl (by decide) ?_
  refine x_istore (L2 := [some (.ref 100), some (.int (nI N)), some (.int much), some (.int w), some (.int k), some (.int (nI (lftN I b hn sn gn k))), some (.int (-1)), none, none, none]) (q := 51) dX12_plan_49 rfl (by decide) rfl rfl ?_
  refine x_aload_n (q := 52) dX12_plan_51 rfl rfl ?_
  refine x_iload_n (q := 53) dX12_plan_52 rfl rfl ?_
  refine x_iload_n (q := 54) dX12_plan_53 rfl rfl ?_
  refine x_iconst (-1) (q := 55) dX12_plan_54 rfl (by decide) ?_
  refine x_iload (q := 57) dX12_plan_55 rfl rfl ?_
  refine q_callV (ci := 12) (N := 79) (T := TX12) (As := [.int (nI N), .int much, .int (-1), .int (nI (lftN I b hn sn gn k))]) (rest := []) (q := 60) dX12_plan_57 rfl okX12_costOf tw_1567 rfl rfl (by have q := c_co0 hb r J h (show N < 1000 by omega) (L := (lftN I b hn sn gn k)) (by omega) much hX; rw [T0_mS] at q; exact q) rfl rfl (Nat.le_of_ble_eq_true rfl) ⟨by decide, by decide⟩ ⟨rfl, rfl⟩ (fun rv_ Y r_ J_ hv_ => ?_)
  obtain ⟨a1_, hY, a3_, a4_⟩ := hv_
  rw [a1_, a3_, a4_]
  show Wq MX12_plan 60 [some (.ref 100), some (.int (nI N)), some (.int much), some (.int w), some (.int k), some (.int (nI (lftN I b hn sn gn k))), some (.int (-1)), none, none, none] [.int (nI (T0F I b yn sn hn st N (lftN I b hn sn gn k)))] Y r J _
  refine x_istore (L2 := [some (.ref 100), some (.int (nI N)), some (.int much), some (.int w), some (.int k), some (.int (nI (lftN I b hn sn gn k))), some (.int (-1)), some (.int (nI (T0F I b yn sn hn st N (lftN I b hn sn gn k)))), none, none]) (q := 62) dX12_plan_60 rfl (by decide) rfl rfl ?_
  refine x_bipush (24) (q := 64) dX12_plan_62 rfl (by decide) ?_
  refine x_istore (L2 := [some (.ref 100), some (.int (nI N)), some (.int much), some (.int w), some (.int k), some (.int (nI (lftN I b hn sn gn k))), some (.int (-1)), some (.int (nI (T0F I b yn sn hn st N (lftN I b hn sn gn k)))), some (.int 24), none]) (q := 66) dX12_plan_64 rfl (by decide) rfl rfl ?_
  exact l_Mplan hb r J h (by omega) (by omega) (ha_ti ha) (W_pos h.2.1 h0) w k 25 25 Y (-1) _ _ rfl (by decide) (Or.inl ⟨rfl, rfl, fun a h1 h2 => by omega⟩) hY
set_option maxRecDepth 100000 in
theorem c_Mplan_1 {I : MI} {b yn wn hn sn st : Nat} (hb : b ≤ 28) (r : MR) (J : MJ) (h : RelL I b yn wn hn sn st) {x much w k : Int32} (hno : ¬ setOk yn x) : Cq yX12_plan MX12_plan [.ref 100, .int x, .int much, .int w, .int k] I r J (Rk (-1000000) I r J) := by
  refine cq_of [some (.ref 100), some (.int x), some (.int much), some (.int w), some (.int k), none, none, none, none, none] 5 (by decide +kernel) rfl rfl (Nat.le_of_ble_eq_true rfl) rfl ?_
  refine x_aload_n (q := 1) dX12_plan_0 rfl rfl ?_
  refine x_iload_n (q := 2) dX12_plan_1 rfl rfl ?_
  refine q_callV (ci := 12) (N := 79) (T := TX12) (As := [.int x]) (rest := []) (q := 5) dX12_plan_2 rfl okX12_isSet tw_1563 rfl rfl (c_mSet_b hb r J h hno) rfl rfl (Nat.le_of_ble_eq_true rfl) ⟨by decide, by decide⟩ ⟨rfl, rfl⟩ (fun rv_ I_ r_ J_ hv_ => ?_)
  obtain ⟨a1_, a2_, a3_, a4_⟩ := hv_
  rw [a1_, a2_, a3_, a4_]
  show Wq MX12_plan 5 [some (.ref 100), some (.int x), some (.int much), some (.int w), some (.int k), none, none, none, none, none] [.int 0] I r J _
  refine x_if_eq (t := 27) (q := 8) dX12_plan_5 (by decide) rfl (fun c5 => ?_) (fun c5 => absurd c5 ((by decide)))
  refine x_ldcw (v := -1000000) (q := 30) dX12_plan_27 rfl tw_1480 ?_
  refine q_iret dX12_plan_30 rfl ?_
  exact Rk_same
set_option maxRecDepth 100000 in
theorem c_Mplan_2 {I : MI} {b yn wn hn sn st : Nat} (hb : b ≤ 28) (r : MR) (J : MJ) (h : RelL I b yn wn hn sn st) {gn : Nat} (g1 : gn ≤ 30) (g3 : I 100 72 = nI gn) (g4 : GlA I b yn hn sn gn) {N : Nat} (hN : N < 2 ^ yn) {much w k : Int32} (hno : ¬ (((0 : Int32) ≤ much ∧ much ≤ 99) ∧ (0 ≤ w ∧ w ≤ 2) ∧ ¬ lftN I b hn sn gn k = 0)) : Cq yX12_plan MX12_plan [.ref 100, .int (nI N), .int much, .int w, .int k] I r J (Rk (-1000000) I r J) := by
  have h8 : yn ≤ 8 := h.1.2.2.1
  have h256 := p8 h8
  have hs7 : sn ≤ 7 := h.2.1.2.2.2.1
  have hlt := lftN_lt (I := I) (b := b) (hn := hn) (gn := gn) (k := k) hs7
  refine cq_of [some (.ref 100), some (.int (nI N)), some (.int much), some (.int w), some (.int k), none, none, none, none, none] 5 (by decide +kernel) rfl rfl (Nat.le_of_ble_eq_true rfl) rfl ?_
  refine x_aload_n (q := 1) dX12_plan_0 rfl rfl ?_
  refine x_iload_n (q := 2) dX12_plan_1 rfl rfl ?_
  refine q_callV (ci := 12) (N := 79) (T := TX12) (As := [.int (nI N)]) (rest := []) (q := 5) dX12_plan_2 rfl okX12_isSet tw_1563 rfl rfl (c_mSet_g hb r J h hN) rfl rfl (Nat.le_of_ble_eq_true rfl) ⟨by decide, by decide⟩ ⟨rfl, rfl⟩ (fun rv_ I_ r_ J_ hv_ => ?_)
  obtain ⟨a1_, a2_, a3_, a4_⟩ := hv_
  rw [a1_, a2_, a3_, a4_]
  show Wq MX12_plan 5 [some (.ref 100), some (.int (nI N)), some (.int much), some (.int w), some (.int k), none, none, none, none, none] [.int 1] I r J _
  refine x_if_eq (t := 27) (q := 8) dX12_plan_5 (by decide) rfl (fun c5 => absurd c5 ((by decide))) (fun c5 => ?_)
  refine x_iload_n (q := 9) dX12_plan_8 rfl rfl ?_
  refine x_iconst (0) (q := 10) dX12_plan_9 rfl (by decide) ?_
  refine x_bipush (99) (q := 12) dX12_plan_10 rfl (by decide) ?_
  refine q_callS (As := [.int much, .int 0, .int 99]) (rest := []) (q := 15) dX12_plan_12 rfl okX12_isIn tw_1450 (c_isIn _ _ _ _ r J) rfl rfl (Nat.le_of_ble_eq_true rfl) ⟨by decide, by decide⟩ ⟨rfl, rfl⟩ (fun rv_ I_ r_ J_ hv_ => ?_)
  obtain ⟨a1_, a2_, a3_, a4_⟩ := hv_
  rw [a1_, a2_, a3_, a4_]
  show Wq MX12_plan 15 [some (.ref 100), some (.int (nI N)), some (.int much), some (.int w), some (.int k), none, none, none, none, none] [.int (inF much 0 99)] I r J _
  refine x_if_eq (t := 27) (q := 18) dX12_plan_15 (by decide) rfl (fun c15 => ?_) (fun c15 => ?_)
  · refine x_ldcw (v := -1000000) (q := 30) dX12_plan_27 rfl tw_1480 ?_
    refine q_iret dX12_plan_30 rfl ?_
    first | exact Rk_same | exact ⟨rfl, hX, rfl, rfl⟩
  · refine x_iload_n (q := 19) dX12_plan_18 rfl rfl ?_
    refine x_iconst (0) (q := 20) dX12_plan_19 rfl (by decide) ?_
    refine x_iconst (2) (q := 21) dX12_plan_20 rfl (by decide) ?_
    refine q_callS (As := [.int w, .int 0, .int 2]) (rest := []) (q := 24) dX12_plan_21 rfl okX12_isIn tw_1450 (c_isIn _ _ _ _ r J) rfl rfl (Nat.le_of_ble_eq_true rfl) ⟨by decide, by decide⟩ ⟨rfl, rfl⟩ (fun rv_ I_ r_ J_ hv_ => ?_)
    obtain ⟨a1_, a2_, a3_, a4_⟩ := hv_
    rw [a1_, a2_, a3_, a4_]
    show Wq MX12_plan 24 [some (.ref 100), some (.int (nI N)), some (.int much), some (.int w), some (.int k), none, none, none, none, none] [.int (inF w 0 2)] I r J _
    refine x_if_ne (t := 31) (q := 27) dX12_plan_24 (by decide) rfl (fun c24 => ?_) (fun c24 => ?_)
    · refine x_aload_n (q := 32) dX12_plan_31 rfl rfl ?_
      refine x_iload (q := 34) dX12_plan_32 rfl rfl ?_
      refine q_callV (ci := 12) (N := 79) (T := TX12) (As := [.int k]) (rest := []) (q := 37) dX12_plan_34 rfl okX12_left tw_1532 rfl rfl (c_Mleft hb h g1 g3 g4 k r J) rfl rfl (Nat.le_of_ble_eq_true rfl) ⟨by decide, by decide⟩ ⟨rfl, rfl⟩ (fun rv_ X r_ J_ hv_ => ?_)
      obtain ⟨a1_, hX, a3_, a4_⟩ := hv_
      rw [a1_, a3_, a4_]
      show Wq MX12_plan 37 [some (.ref 100), some (.int (nI N)), some (.int much), some (.int w), some (.int k), none, none, none, none, none] [.int (nI (lftN I b hn sn gn k))] X r J _
      refine x_istore (L2 := [some (.ref 100), some (.int (nI N)), some (.int much), some (.int w), some (.int k), some (.int (nI (lftN I b hn sn gn k))), none, none, none, none]) (q := 39) dX12_plan_37 rfl (by decide) rfl rfl ?_
      refine x_iload (q := 41) dX12_plan_39 rfl rfl ?_
      refine x_if_ne (t := 48) (q := 44) dX12_plan_41 (by decide) rfl (fun c41 => ?_) (fun c41 => ?_)
      · exact absurd ⟨inF_1 c15, inF_1 c24, fun z => c41 (by rw [z]; rfl)⟩ hno
      · refine x_ldcw (v := -1000000) (q := 47) dX12_plan_44 rfl tw_1480 ?_
        refine q_iret dX12_plan_47 rfl ?_
        first | exact Rk_same | exact ⟨rfl, hX, rfl, rfl⟩
    · refine x_ldcw (v := -1000000) (q := 30) dX12_plan_27 rfl tw_1480 ?_
      refine q_iret dX12_plan_30 rfl ?_
      first | exact Rk_same | exact ⟨rfl, hX, rfl, rfl⟩
def PlX (I : MI) (b yn sn hn st N L : Nat) (much w : Int32) (r : MR) (J : MJ) : Option Value → MI → MR → MJ → Prop := fun v I' r' J' => ∃ bs bc, BX (CF I b yn sn hn st N L much) (T0F I b yn sn hn st N L) 25 bs bc ∧ v = some (.int (plV bs bc (sumW I b L.testBit sn) w)) ∧ Kp I I' ∧ r' = r ∧ J' = J
theorem w_m1 {w : Int32} : w - 1 = 0 ↔ w = 1 := by
  constructor
  · intro q
    have := congrArg (· + 1) q
    simp only [Int32.sub_add_cancel, Int32.zero_add] at this
    exact this
  · intro q
    rw [q]
    decide
theorem low_pl {bs : Int32} {bc W : Nat} {w : Int32} (h : ¬ w = 0) : lowF bc W (w - 1) = plV bs bc W w := by
  unfold lowF plV
  rw [if_neg h]
  by_cases q : w = 1
  · rw [if_pos q, if_pos (w_m1.mpr q)]
  · rw [if_neg q, if_neg (fun z => q (w_m1.mp z))]
set_option maxRecDepth 100000 in
theorem c_Xplan_g {I : MI} {b yn wn hn sn st : Nat} {r : MR} (J : MJ) (hr : RefOk r b) (h : RelL I b yn wn hn sn st) {gn : Nat} (g1 : gn ≤ 30) (g2 : I 88 3 = nI gn) (g4 : GlA I b yn hn sn gn) {N : Nat} (hN : N < 2 ^ yn) {much w k : Int32} (ha : (0 : Int32) ≤ much ∧ much ≤ 99) (hw : 0 ≤ w ∧ w ≤ 2) (h0 : ¬ lftN I b hn sn gn k = 0) : Cq yX11_plan MX11_plan [.ref 0, .int (nI N), .int much, .int w, .int k] I r J (PlX I b yn sn hn st N (lftN I b hn sn gn k) much w r J) := by
  have hb28 := (refs_L hr).2
  have h8 : yn ≤ 8 := h.1.2.2.1
  have h256 := p8 h8
  have hs7 : sn ≤ 7 := h.2.1.2.2.2.1
  have hlt := lftN_lt (I := I) (b := b) (hn := hn) (gn := gn) (k := k) hs7
  refine cq_of [some (.ref 0), some (.int (nI N)), some (.int much), some (.int w), some (.int k), none] 1 (by decide +kernel) rfl rfl (Nat.le_of_ble_eq_true rfl) rfl ?_
  refine x_aload_n (q := 1) dX11_plan_0 rfl rfl ?_
  refine q_gr (K := 10) (b := 88) (q := 4) dX11_plan_1 rfl cl_11 (by decide) tw_577 rfl rfl rfl ?_
  refine x_iload (q := 6) dX11_plan_4 rfl rfl ?_
  refine x_aload_n (q := 7) dX11_plan_6 rfl rfl ?_
  refine q_gr (K := 2) (b := b) (q := 10) dX11_plan_7 rfl cl_11 (by decide) tw_569 rfl rfl (by rw [← hr.1]; rfl) ?_
  refine q_callV (ci := 2) (N := 9) (T := TX2) (As := [.int k, .ref b]) (rest := []) (q := 13) dX11_plan_10 rfl okX2_leftAt tw_886 rfl rfl (k_left r J h g1 g2 g4 k) rfl rfl (Nat.le_of_ble_eq_true rfl) ⟨by decide, by decide⟩ ⟨rfl, rfl⟩ (fun rv_ I_ r_ J_ hv_ => ?_)
  obtain ⟨a1_, a2_, a3_, a4_⟩ := hv_
  rw [a1_, a2_, a3_, a4_]
  show Wq MX11_plan 13 [some (.ref 0), some (.int (nI N)), some (.int much), some (.int w), some (.int k), none] [.int (nI (lftN I b hn sn gn k))] I r J _
  refine x_istore (L2 := [some (.ref 0), some (.int (nI N)), some (.int much), some (.int w), some (.int k), some (.int (nI (lftN I b hn sn gn k)))]) (q := 15) dX11_plan_13 rfl (by decide) rfl rfl ?_
  refine x_aload_n (q := 16) dX11_plan_15 rfl rfl ?_
  refine x_iload_n (q := 17) dX11_plan_16 rfl rfl ?_
  refine q_callV (ci := 11) (N := 14) (T := TX11) (As := [.int (nI N)]) (rest := []) (q := 20) dX11_plan_17 rfl okX11_isSet tw_901 rfl rfl (c_isSet_g J hr h hN) rfl rfl (Nat.le_of_ble_eq_true rfl) ⟨by decide, by decide⟩ ⟨rfl, rfl⟩ (fun rv_ I_ r_ J_ hv_ => ?_)
  obtain ⟨a1_, a2_, a3_, a4_⟩ := hv_
  rw [a1_, a2_, a3_, a4_]
  show Wq MX11_plan 20 [some (.ref 0), some (.int (nI N)), some (.int much), some (.int w), some (.int k), some (.int (nI (lftN I b hn sn gn k)))] [.int 1] I r J _
  refine x_if_eq (t := 44) (q := 23) dX11_plan_20 (by decide) rfl (fun c20 => absurd c20 ((by decide))) (fun c20 => ?_)
  refine x_iload_n (q := 24) dX11_plan_23 rfl rfl ?_
  refine q_callS (As := [.int much]) (rest := []) (q := 27) dX11_plan_24 rfl okX11_isSalt tw_874 (c_isSalt_g I r J ha.1 ha.2) rfl rfl (Nat.le_of_ble_eq_true rfl) ⟨by decide, by decide⟩ ⟨rfl, rfl⟩ (fun rv_ I_ r_ J_ hv_ => ?_)
  obtain ⟨a1_, a2_, a3_, a4_⟩ := hv_
  rw [a1_, a2_, a3_, a4_]
  show Wq MX11_plan 27 [some (.ref 0), some (.int (nI N)), some (.int much), some (.int w), some (.int k), some (.int (nI (lftN I b hn sn gn k)))] [.int 1] I r J _
  refine x_if_eq (t := 44) (q := 30) dX11_plan_27 (by decide) rfl (fun c27 => absurd c27 ((by decide))) (fun c27 => ?_)
  refine x_iload_n (q := 31) dX11_plan_30 rfl rfl ?_
  refine x_if_lt (t := 44) (q := 34) dX11_plan_31 (by decide) rfl (fun c31 => absurd c31 (Int32.not_lt.mpr hw.1)) (fun c31 => ?_)
  refine x_iload_n (q := 35) dX11_plan_34 rfl rfl ?_
  refine x_iconst (2) (q := 36) dX11_plan_35 rfl (by decide) ?_
  refine x_icmp_gt (t := 44) (q := 39) dX11_plan_36 (by decide) rfl (fun c36 => absurd c36 (Int32.not_lt.mpr hw.2)) (fun c36 => ?_)
  refine x_iload (q := 41) dX11_plan_39 rfl rfl ?_
  refine x_if_ne (t := 47) (q := 44) dX11_plan_41 (by decide) rfl (fun c41 => ?_) (fun c41 => absurd c41 (nI_ne0 (by omega) (by omega)))
  refine x_aload_n (q := 48) dX11_plan_47 rfl rfl ?_
  refine q_gr (K := 7) (b := 79) (q := 51) dX11_plan_48 rfl cl_11 (by decide) tw_574 rfl rfl rfl ?_
  refine x_aload_n (q := 52) dX11_plan_51 rfl rfl ?_
  refine q_gr (K := 5) (b := 58) (q := 55) dX11_plan_52 rfl cl_11 (by decide) tw_572 rfl rfl rfl ?_
  refine x_aload_n (q := 56) dX11_plan_55 rfl rfl ?_
  refine q_gr (K := 6) (b := 76) (q := 59) dX11_plan_56 rfl cl_11 (by decide) tw_573 rfl rfl rfl ?_
  refine x_iload_n (q := 60) dX11_plan_59 rfl rfl ?_
  refine x_iload_n (q := 61) dX11_plan_60 rfl rfl ?_
  refine x_iload (q := 63) dX11_plan_61 rfl rfl ?_
  refine q_callV (ci := 9) (N := 4) (T := TX9) (As := [.ref 58, .ref 76, .int (nI N), .int much, .int (nI (lftN I b hn sn gn k))]) (rest := []) (q := 66) dX11_plan_63 rfl okX9_weigh tw_905 rfl rfl (c_weigh J hr h (show N < 1000 by omega) (L := (lftN I b hn sn gn k)) (by omega) (ha_ti ha)) rfl rfl (Nat.le_of_ble_eq_true rfl) ⟨by decide, by decide⟩ ⟨rfl, rfl⟩ (fun rv_ Y r_ J_ hv_ => ?_)
  obtain ⟨a1_, ⟨bs, bc, hB, hK, y0, y1, y2, y3⟩, a3_, a4_⟩ := hv_
  have hle := BX_le hB
  have hRY := RelL_k hK hb28 h
  obtain ⟨eh, hh9, ec, hc9⟩ := cost_ok h.2.1
  have hT0 : T0F I b yn sn hn st N (lftN I b hn sn gn k) ≤ 55434456 := by have := pS_le (L := (lftN I b hn sn gn k)) (P := plB I b hn st N 0 0) hh9 h8 sn (fun k hk => (wg_ok h.2.1 hk).2.2); unfold T0F; omega
  have hW := sumW_le h.2.1 ((lftN I b hn sn gn k)).testBit sn (Nat.le_refl _)
  rw [a1_, a3_, a4_]
  show Wq MX11_plan 66 [some (.ref 0), some (.int (nI N)), some (.int much), some (.int w), some (.int k), some (.int (nI (lftN I b hn sn gn k)))] [] Y r J _
  refine x_iload_n (q := 67) dX11_plan_66 rfl rfl ?_
  refine x_if_ne (t := 78) (q := 70) dX11_plan_67 (by decide) rfl (fun c67 => ?_) (fun c67 => ?_)
  · refine x_aload_n (q := 79) dX11_plan_78 rfl rfl ?_
    refine q_gr (K := 7) (b := 79) (q := 82) dX11_plan_79 rfl cl_11 (by decide) tw_574 rfl rfl rfl ?_
    refine q_gi (K := 3) (q := 85) dX11_plan_82 rfl cl_9 (by decide) tw_470 rfl rfl ?_
    refine x_aload_n (q := 86) dX11_plan_85 rfl rfl ?_
    refine q_gr (K := 2) (b := b) (q := 89) dX11_plan_86 rfl cl_11 (by decide) tw_569 rfl rfl (by rw [← hr.1]; rfl) ?_
    refine x_iload (q := 91) dX11_plan_89 rfl rfl ?_
    refine q_callV (ci := 5) (N := 18) (T := TX5) (As := [.int (nI (lftN I b hn sn gn k))]) (rest := [.int (Y 79 3)]) (q := 94) dX11_plan_91 rfl okX5_weightOf tw_890 h.1.1 rfl (c_wof hRY.1.1 hRY.2.1 (N := (lftN I b hn sn gn k)) (by omega) r J) rfl rfl (Nat.le_of_ble_eq_true rfl) ⟨by decide, by decide⟩ ⟨rfl, rfl⟩ (fun rv_ I_ r_ J_ hv_ => ?_)
    obtain ⟨a1_, a2_, a3_, a4_⟩ := hv_
    rw [sumW_k hK hb28] at a1_
    rw [a1_, a2_, a3_, a4_]
    show Wq MX11_plan 94 [some (.ref 0), some (.int (nI N)), some (.int much), some (.int w), some (.int k), some (.int (nI (lftN I b hn sn gn k)))] [.int (nI (sumW I b ((lftN I b hn sn gn k)).testBit sn)), .int (Y 79 3)] Y r J _
    refine x_iload_n (q := 95) dX11_plan_94 rfl rfl ?_
    refine x_iconst (1) (q := 96) dX11_plan_95 rfl (by decide) ?_
    refine x_isub (q := 97) dX11_plan_96 rfl ?_
    refine q_callS (As := [.int (Y 79 3), .int (nI (sumW I b ((lftN I b hn sn gn k)).testBit sn)), .int (w - 1)]) (rest := []) (q := 100) dX11_plan_97 rfl okX11_lowest tw_894 (by rw [y3]; exact c_lowest (by omega) (by omega) (W_pos h.2.1 h0) (w - 1) Y r J) rfl rfl (Nat.le_of_ble_eq_true rfl) ⟨by decide, by decide⟩ ⟨rfl, rfl⟩ (fun rv_ I_ r_ J_ hv_ => ?_)
    obtain ⟨a1_, a2_, a3_, a4_⟩ := hv_
    rw [a1_, a2_, a3_, a4_]
    show Wq MX11_plan 100 [some (.ref 0), some (.int (nI N)), some (.int much), some (.int w), some (.int k), some (.int (nI (lftN I b hn sn gn k)))] [.int (lowF bc (sumW I b ((lftN I b hn sn gn k)).testBit sn) (w - 1))] Y r J _
    refine q_iret dX11_plan_100 rfl ?_
    rw [low_pl (bs := bs) c67]
    exact ⟨bs, bc, hB, rfl, hK, rfl, rfl⟩
  · refine x_aload_n (q := 71) dX11_plan_70 rfl rfl ?_
    refine q_gr (K := 7) (b := 79) (q := 74) dX11_plan_71 rfl cl_11 (by decide) tw_574 rfl rfl rfl ?_
    refine q_gi (K := 2) (q := 77) dX11_plan_74 rfl cl_9 (by decide) tw_468 rfl rfl ?_
    refine q_iret dX11_plan_77 rfl ?_
    rw [y2]
    refine ⟨bs, bc, hB, ?_, hK, rfl, rfl⟩
    unfold plV
    rw [if_pos c67]
set_option maxRecDepth 100000 in
theorem c_Xplan_1 {I : MI} {b yn wn hn sn st : Nat} {r : MR} (J : MJ) (hr : RefOk r b) (h : RelL I b yn wn hn sn st) {gn : Nat} (g1 : gn ≤ 30) (g2 : I 88 3 = nI gn) (g4 : GlA I b yn hn sn gn) {x much w k : Int32} (hno : ¬ setOk yn x) : Cq yX11_plan MX11_plan [.ref 0, .int x, .int much, .int w, .int k] I r J (Rk (-1000000) I r J) := by
  have hb28 := (refs_L hr).2
  have h8 : yn ≤ 8 := h.1.2.2.1
  have h256 := p8 h8
  have hs7 : sn ≤ 7 := h.2.1.2.2.2.1
  have hlt := lftN_lt (I := I) (b := b) (hn := hn) (gn := gn) (k := k) hs7
  refine cq_of [some (.ref 0), some (.int x), some (.int much), some (.int w), some (.int k), none] 1 (by decide +kernel) rfl rfl (Nat.le_of_ble_eq_true rfl) rfl ?_
  refine x_aload_n (q := 1) dX11_plan_0 rfl rfl ?_
  refine q_gr (K := 10) (b := 88) (q := 4) dX11_plan_1 rfl cl_11 (by decide) tw_577 rfl rfl rfl ?_
  refine x_iload (q := 6) dX11_plan_4 rfl rfl ?_
  refine x_aload_n (q := 7) dX11_plan_6 rfl rfl ?_
  refine q_gr (K := 2) (b := b) (q := 10) dX11_plan_7 rfl cl_11 (by decide) tw_569 rfl rfl (by rw [← hr.1]; rfl) ?_
  refine q_callV (ci := 2) (N := 9) (T := TX2) (As := [.int k, .ref b]) (rest := []) (q := 13) dX11_plan_10 rfl okX2_leftAt tw_886 rfl rfl (k_left r J h g1 g2 g4 k) rfl rfl (Nat.le_of_ble_eq_true rfl) ⟨by decide, by decide⟩ ⟨rfl, rfl⟩ (fun rv_ I_ r_ J_ hv_ => ?_)
  obtain ⟨a1_, a2_, a3_, a4_⟩ := hv_
  rw [a1_, a2_, a3_, a4_]
  show Wq MX11_plan 13 [some (.ref 0), some (.int x), some (.int much), some (.int w), some (.int k), none] [.int (nI (lftN I b hn sn gn k))] I r J _
  refine x_istore (L2 := [some (.ref 0), some (.int x), some (.int much), some (.int w), some (.int k), some (.int (nI (lftN I b hn sn gn k)))]) (q := 15) dX11_plan_13 rfl (by decide) rfl rfl ?_
  refine x_aload_n (q := 16) dX11_plan_15 rfl rfl ?_
  refine x_iload_n (q := 17) dX11_plan_16 rfl rfl ?_
  refine q_callV (ci := 11) (N := 14) (T := TX11) (As := [.int x]) (rest := []) (q := 20) dX11_plan_17 rfl okX11_isSet tw_901 rfl rfl (c_isSet_b J hr h hno) rfl rfl (Nat.le_of_ble_eq_true rfl) ⟨by decide, by decide⟩ ⟨rfl, rfl⟩ (fun rv_ I_ r_ J_ hv_ => ?_)
  obtain ⟨a1_, a2_, a3_, a4_⟩ := hv_
  rw [a1_, a2_, a3_, a4_]
  show Wq MX11_plan 20 [some (.ref 0), some (.int x), some (.int much), some (.int w), some (.int k), some (.int (nI (lftN I b hn sn gn k)))] [.int 0] I r J _
  refine x_if_eq (t := 44) (q := 23) dX11_plan_20 (by decide) rfl (fun c20 => ?_) (fun c20 => absurd c20 ((by decide)))
  refine x_ldc (v := -1000000) (q := 46) dX11_plan_44 rfl tw_806 ?_
  refine q_iret dX11_plan_46 rfl ?_
  exact Rk_same
theorem c_isSalt (x : Int32) (I : MI) (r : MR) (J : MJ) : Cq yX11_isSalt MX11_isSalt [.int x] I r J (Rt (some (.int (inF x 0 99))) I r J) := by
  unfold inF
  by_cases q : (0 : Int32) ≤ x ∧ x ≤ 99
  · rw [if_pos q]
    exact c_isSalt_g I r J q.1 q.2
  · rw [if_neg q]
    exact c_isSalt_b I r J q
set_option maxRecDepth 100000 in
theorem c_Xplan_2 {I : MI} {b yn wn hn sn st : Nat} {r : MR} (J : MJ) (hr : RefOk r b) (h : RelL I b yn wn hn sn st) {gn : Nat} (g1 : gn ≤ 30) (g2 : I 88 3 = nI gn) (g4 : GlA I b yn hn sn gn) {N : Nat} (hN : N < 2 ^ yn) {much w k : Int32} (hno : ¬ (((0 : Int32) ≤ much ∧ much ≤ 99) ∧ (0 ≤ w ∧ w ≤ 2) ∧ ¬ lftN I b hn sn gn k = 0)) : Cq yX11_plan MX11_plan [.ref 0, .int (nI N), .int much, .int w, .int k] I r J (Rk (-1000000) I r J) := by
  have hb28 := (refs_L hr).2
  have h8 : yn ≤ 8 := h.1.2.2.1
  have h256 := p8 h8
  have hs7 : sn ≤ 7 := h.2.1.2.2.2.1
  have hlt := lftN_lt (I := I) (b := b) (hn := hn) (gn := gn) (k := k) hs7
  refine cq_of [some (.ref 0), some (.int (nI N)), some (.int much), some (.int w), some (.int k), none] 1 (by decide +kernel) rfl rfl (Nat.le_of_ble_eq_true rfl) rfl ?_
  refine x_aload_n (q := 1) dX11_plan_0 rfl rfl ?_
  refine q_gr (K := 10) (b := 88) (q := 4) dX11_plan_1 rfl cl_11 (by decide) tw_577 rfl rfl rfl ?_
  refine x_iload (q := 6) dX11_plan_4 rfl rfl ?_
  refine x_aload_n (q := 7) dX11_plan_6 rfl rfl ?_
  refine q_gr (K := 2) (b := b) (q := 10) dX11_plan_7 rfl cl_11 (by decide) tw_569 rfl rfl (by rw [← hr.1]; rfl) ?_
  refine q_callV (ci := 2) (N := 9) (T := TX2) (As := [.int k, .ref b]) (rest := []) (q := 13) dX11_plan_10 rfl okX2_leftAt tw_886 rfl rfl (k_left r J h g1 g2 g4 k) rfl rfl (Nat.le_of_ble_eq_true rfl) ⟨by decide, by decide⟩ ⟨rfl, rfl⟩ (fun rv_ I_ r_ J_ hv_ => ?_)
  obtain ⟨a1_, a2_, a3_, a4_⟩ := hv_
  rw [a1_, a2_, a3_, a4_]
  show Wq MX11_plan 13 [some (.ref 0), some (.int (nI N)), some (.int much), some (.int w), some (.int k), none] [.int (nI (lftN I b hn sn gn k))] I r J _
  refine x_istore (L2 := [some (.ref 0), some (.int (nI N)), some (.int much), some (.int w), some (.int k), some (.int (nI (lftN I b hn sn gn k)))]) (q := 15) dX11_plan_13 rfl (by decide) rfl rfl ?_
  refine x_aload_n (q := 16) dX11_plan_15 rfl rfl ?_
  refine x_iload_n (q := 17) dX11_plan_16 rfl rfl ?_
  refine q_callV (ci := 11) (N := 14) (T := TX11) (As := [.int (nI N)]) (rest := []) (q := 20) dX11_plan_17 rfl okX11_isSet tw_901 rfl rfl (c_isSet_g J hr h hN) rfl rfl (Nat.le_of_ble_eq_true rfl) ⟨by decide, by decide⟩ ⟨rfl, rfl⟩ (fun rv_ I_ r_ J_ hv_ => ?_)
  obtain ⟨a1_, a2_, a3_, a4_⟩ := hv_
  rw [a1_, a2_, a3_, a4_]
  show Wq MX11_plan 20 [some (.ref 0), some (.int (nI N)), some (.int much), some (.int w), some (.int k), some (.int (nI (lftN I b hn sn gn k)))] [.int 1] I r J _
  refine x_if_eq (t := 44) (q := 23) dX11_plan_20 (by decide) rfl (fun c20 => absurd c20 ((by decide))) (fun c20 => ?_)
  refine x_iload_n (q := 24) dX11_plan_23 rfl rfl ?_
  refine q_callS (As := [.int much]) (rest := []) (q := 27) dX11_plan_24 rfl okX11_isSalt tw_874 (c_isSalt _ I r J) rfl rfl (Nat.le_of_ble_eq_true rfl) ⟨by decide, by decide⟩ ⟨rfl, rfl⟩ (fun rv_ I_ r_ J_ hv_ => ?_)
  obtain ⟨a1_, a2_, a3_, a4_⟩ := hv_
  rw [a1_, a2_, a3_, a4_]
  show Wq MX11_plan 27 [some (.ref 0), some (.int (nI N)), some (.int much), some (.int w), some (.int k), some (.int (nI (lftN I b hn sn gn k)))] [.int (inF much 0 99)] I r J _
  refine x_if_eq (t := 44) (q := 30) dX11_plan_27 (by decide) rfl (fun c27 => ?_) (fun c27 => ?_)
  · refine x_ldc (v := -1000000) (q := 46) dX11_plan_44 rfl tw_806 ?_
    refine q_iret dX11_plan_46 rfl ?_
    exact Rk_same
  · refine x_iload_n (q := 31) dX11_plan_30 rfl rfl ?_
    refine x_if_lt (t := 44) (q := 34) dX11_plan_31 (by decide) rfl (fun c31 => ?_) (fun c31 => ?_)
    · refine x_ldc (v := -1000000) (q := 46) dX11_plan_44 rfl tw_806 ?_
      refine q_iret dX11_plan_46 rfl ?_
      exact Rk_same
    · refine x_iload_n (q := 35) dX11_plan_34 rfl rfl ?_
      refine x_iconst (2) (q := 36) dX11_plan_35 rfl (by decide) ?_
      refine x_icmp_gt (t := 44) (q := 39) dX11_plan_36 (by decide) rfl (fun c36 => ?_) (fun c36 => ?_)
      · refine x_ldc (v := -1000000) (q := 46) dX11_plan_44 rfl tw_806 ?_
        refine q_iret dX11_plan_46 rfl ?_
        exact Rk_same
      · refine x_iload (q := 41) dX11_plan_39 rfl rfl ?_
        refine x_if_ne (t := 47) (q := 44) dX11_plan_41 (by decide) rfl (fun c41 => ?_) (fun c41 => ?_)
        · exact absurd ⟨inF_1 c27, ⟨Int32.not_lt.mp c31, Int32.not_lt.mp c36⟩, fun z => c41 (by rw [z]; rfl)⟩ hno
        · refine x_ldc (v := -1000000) (q := 46) dX11_plan_44 rfl tw_806 ?_
          refine q_iret dX11_plan_46 rfl ?_
          exact Rk_same
theorem BX_ex (C : Nat → Nat) (T0 : Nat) : ∀ i, i ≤ 25 → ∃ s c, BX C T0 i s c := by
  intro i
  induction i with
  | zero => intro _; exact ⟨-1, T0, Or.inl ⟨rfl, rfl, fun a ha => absurd ha (by omega)⟩⟩
  | succ i ih =>
    intro hi
    obtain ⟨s, c, h⟩ := ih (by omega)
    by_cases e : s = -1
    · have k := BX_s (mo := (c : Int)) (by omega) h (Or.inl ⟨e, rfl⟩)
      by_cases q : (C i : Int) ≤ c
      · exact ⟨_, _, k.1 q⟩
      · exact ⟨_, _, k.2 q⟩
    · have k := BX_s (mo := (c : Int) - 1) (by omega) h (Or.inr ⟨e, rfl⟩)
      by_cases q : (C i : Int) ≤ (c : Int) - 1
      · exact ⟨_, _, k.1 q⟩
      · exact ⟨_, _, k.2 q⟩
theorem BX_BM {C : Nat → Nat} {T0 : Nat} {s : Int32} {c : Nat} (h : BX C T0 25 s c) : BM C T0 0 s c := by
  rcases h with ⟨e1, e2, e3⟩ | ⟨a, a1, a2, a3, a4, a5, a6⟩
  · exact Or.inl ⟨e1, e2, fun a _ ha => e3 a ha⟩
  · exact Or.inr ⟨a, by omega, a1, a2, a3, a4, fun a' _ q => a5 a' q, fun a' _ q => a6 a' q⟩
theorem BX_eq {C : Nat → Nat} {T0 : Nat} {s s' : Int32} {c c' : Nat} (h : BX C T0 25 s c) (h' : BX C T0 25 s' c') : s' = s ∧ c' = c := B_eq h (BX_BM h')
theorem CF_k {I X : MI} {b yn sn hn st N L : Nat} {much : Int32} (hk : Kp I X) (hb : b ≤ 28) (h8 : yn ≤ 8) : CF X b yn sn hn st N L much = CF I b yn sn hn st N L much := by
  funext a
  unfold CF
  rw [pS_k hk hb h8, sumW_k hk hb]
  unfold clN
  rw [hk.L hb b ⟨by omega, by omega⟩]
theorem op_plan (x much w k : Int32) : OpOk yX11_plan MX11_plan yX12_plan MX12_plan [.int x, .int much, .int w, .int k] := by
  intro I r J hrel
  obtain ⟨b, yn, wn, hn, sn, st, hr, hl, hR, hJ⟩ := hrel
  have hb := (refs_L hr).2
  have h8 : yn ≤ 8 := hl.1.2.2.1
  obtain ⟨gn, g1, g2, g3, g4⟩ := hl.2.2.2.2.2.1
  by_cases h1 : setOk yn x
  · obtain ⟨N, hN, rfl⟩ := h1
    by_cases h2 : ((0 : Int32) ≤ much ∧ much ≤ 99) ∧ (0 ≤ w ∧ w ≤ 2) ∧ ¬ lftN I b hn sn gn k = 0
    · have q := c_Xplan_g J hr hl g1 g2 g4 hN h2.1 h2.2.1 h2.2.2
      have ⟨bs, bc, hB⟩ : ∃ bs bc, BX (CF I b yn sn hn st N (lftN I b hn sn gn k) much) (T0F I b yn sn hn st N (lftN I b hn sn gn k)) 25 bs bc := BX_ex _ _ 25 (by decide)
      have q' : Cq yX11_plan MX11_plan [.ref 0, .int (nI N), .int much, .int w, .int k] I r J (Rk (plV bs bc (sumW I b (lftN I b hn sn gn k).testBit sn) w) I r J) := by
        refine cq_mono (fun v I' r' J' hv => ?_) q
        obtain ⟨bs', bc', hB', e1, e2, e3, e4⟩ := hv
        obtain ⟨z1, z2⟩ := BX_eq hB hB'
        rw [z1, z2] at e1
        exact ⟨e1, e2, e3, e4⟩
      refine op_kp hr hl hR hJ q' (fun X hX q1 q2 => ?_)
      have p := c_Mplan_g hb r J q1 g1 (by rw [hX 100 72 (by unfold scr; omega)]; exact g3) (GlA_k hX hb h8 g4) hN h2.1 h2.2.1 (by rw [lftN_k hX hb h8 g4]; exact h2.2.2)
      refine cq_mono (fun v I' r' J' hv => ?_) p
      obtain ⟨bs', bc', hB', e1, e2, e3, e4⟩ := hv
      rw [lftN_k hX hb h8 g4, CF_k hX hb h8] at hB'
      rw [lftN_k hX hb h8 g4, sumW_k hX hb] at e1
      have eT : T0F X b yn sn hn st N (lftN I b hn sn gn k) = T0F I b yn sn hn st N (lftN I b hn sn gn k) := pS_k hX hb h8 sn
      rw [eT] at hB'
      obtain ⟨z1, z2⟩ := B_eq hB hB'
      rw [z1, z2] at e1
      exact ⟨e1, e2, e3, e4⟩
    · exact op_kp hr hl hR hJ (c_Xplan_2 J hr hl g1 g2 g4 hN h2) (fun X hX q1 q2 => c_Mplan_2 hb r J q1 g1 (by rw [hX 100 72 (by unfold scr; omega)]; exact g3) (GlA_k hX hb h8 g4) hN (by rw [lftN_k hX hb h8 g4]; exact h2))
  · exact op_kp hr hl hR hJ (c_Xplan_1 J hr hl g1 g2 g4 h1) (fun X hX q1 q2 => c_Mplan_1 hb r J q1 h1)
