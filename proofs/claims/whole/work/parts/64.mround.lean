theorem OF_sur {N y k : Nat} (h : y < k) (hb : N.testBit y = true) : OF N k (cnt N y) = y ∧ cnt N y < cnt N k := by
  have e1 := cnt_1 hb
  have e2 := cnt_d (N := N) (show y + 1 ≤ k by omega)
  have e3 := OF_st (N := N) (y := y + 1) (i := cnt N y) (by omega) (k - (y + 1))
  rw [show y + 1 + (k - (y + 1)) = k by omega, OF_1 hb, OF_hi N y _ (Nat.le_refl _)] at e3
  exact ⟨by omega, by omega⟩
def mrN (I Y : MI) : Prop := Kr I Y ∧ (∀ c, c < 100 → Y c = I c) ∧ Y 100 61 = 0
theorem mrN_1 {I X Y : MI} {q : Nat} (h : mrN I X) (hf : F1 q X Y) (hq : 128 ≤ q ∧ q ≤ 131) : mrN I Y := ⟨h.1.tr (Kr_1 hf (by omega)), fun c z => by rw [hf c (by omega)]; exact h.2.1 c z, by rw [hf 100 (by omega)]; exact h.2.2⟩
theorem mrN_w {I X Y : MI} (h : mrN I X) (hf : Fw X Y) : mrN I Y := ⟨h.1.tr hf.kr, fun c z => funext fun j => by rw [hf c j (by omega) (by omega) (by omega), h.2.1 c z], by rw [hf 100 61 (by decide) (by decide) (by omega)]; exact h.2.2⟩
set_option maxRecDepth 100000 in
theorem l_of {Z : MI} {b yn wn hn sn st : Nat} (r : MR) (J : MJ) (h : RelL Z b yn wn hn sn st) {N : Nat} (hN : N < 256) {much w0 : Int32} (post : Option Value → MI → MR → MJ → Prop) (kx : cnt N yn ≤ 7 → ∀ X, F1 129 Z X → oc 129 (cnt N yn) (OF N yn) X → Wq MX12_round 95 [some (.ref 100), some (.int (nI N)), some (.int much), some (.int w0), some (.int (nI (cnt N yn))), some (.int (nI yn)), none, none, none, none, none] [] X r J post) (kb : 7 < cnt N yn → ∀ X, F1 129 Z X → post (some (.int (-1))) X r J) : ∀ (f : Nat) (y : Nat) (X : MI) (_ : y + f = yn) (_ : cnt N y ≤ 7) (_ : F1 129 Z X ∧ oc 129 (cnt N y) (OF N y) X), Wq MX12_round 47 [some (.ref 100), some (.int (nI N)), some (.int much), some (.int w0), some (.int (nI (cnt N y))), some (.int (nI y)), none, none, none, none, none] [] X r J (post) := by
  have h8 : yn ≤ 8 := h.1.2.2.1
  intro f
  induction f with
  | zero =>
    intro y X hyk h7 hX
    have ey : X 100 41 = nI yn := by rw [hX.1 100 (by decide)]; exact h.2.2.1.1
    have hcy := cnt_le N y
    refine x_iload (q := 49) dX12_round_47 rfl rfl ?_
    refine x_aload_n (q := 50) dX12_round_49 rfl rfl ?_
    refine q_gi (K := 41) (q := 53) dX12_round_50 rfl cl_12 (by decide) tw_1123 rfl rfl ?_
    refine x_icmp_ge (t := 95) (q := 56) dX12_round_53 (by decide) rfl (fun c53 => ?_) (fun c53 => absurd c53 (fun q => q (by rw [ey]; exact nI_le (by omega) (by omega))))
    rw [show y = yn by omega] at hX h7 ⊢
    exact kx h7 X hX.1 hX.2
  | succ f ih =>
    intro y X hyk h7 hX
    have ey : X 100 41 = nI yn := by rw [hX.1 100 (by decide)]; exact h.2.2.1.1
    have hcy := cnt_le N y
    refine x_iload (q := 49) dX12_round_47 rfl rfl ?_
    refine x_aload_n (q := 50) dX12_round_49 rfl rfl ?_
    refine q_gi (K := 41) (q := 53) dX12_round_50 rfl cl_12 (by decide) tw_1123 rfl rfl ?_
    refine x_icmp_ge (t := 95) (q := 56) dX12_round_53 (by decide) rfl (fun c53 => absurd c53 (by rw [ey]; exact nI_ge (by omega) (by omega))) (fun c53 => ?_)
    refine x_iload_n (q := 57) dX12_round_56 rfl rfl ?_
    refine x_iload (q := 59) dX12_round_57 rfl rfl ?_
    refine x_ishr (q := 60) dX12_round_59 rfl ?_
    refine x_iconst (1) (q := 61) dX12_round_60 rfl (by decide) ?_
    refine x_iand (q := 62) dX12_round_61 rfl ?_
    refine x_if_ne (t := 68) (q := 65) dX12_round_62 (by decide) rfl (fun c62 => ?_) (fun c62 => ?_)
    · refine x_iload (q := 70) dX12_round_68 rfl rfl ?_
      refine x_bipush (7) (q := 72) dX12_round_70 rfl (by decide) ?_
      refine x_icmp_ne (t := 77) (q := 75) dX12_round_72 (by decide) rfl (fun c72 => ?_) (fun c72 => ?_)
      · have c7 : cnt N y < 7 := by
          by_cases z : cnt N y = 7
          · exact absurd (by rw [z]; rfl) c72
          · omega
        refine x_aload_n (q := 78) dX12_round_77 rfl rfl ?_
        refine q_gr (K := 59) (b := 129) (q := 81) dX12_round_78 rfl cl_12 (by decide) tw_1141 rfl rfl rfl ?_
        refine x_iload (q := 83) dX12_round_81 rfl rfl ?_
        refine x_iload (q := 85) dX12_round_83 rfl rfl ?_
        refine q_iast (q := 86) dX12_round_85 rfl rfl (vp_in_nI (by omega) (by decide)) (fun I21 eI21 => ?_)
        obtain ⟨v22, ev22⟩ : ∃ y_ : Int32, y_ = (nI (cnt N y)) + 1 := ⟨_, rfl⟩
        refine x_iinc (v := v22) (L2 := [some (.ref 100), some (.int (nI N)), some (.int much), some (.int w0), some (.int v22), some (.int (nI y)), none, none, none, none, none]) (q := 89) dX12_round_86 rfl (by decide) rfl rfl (by rw [ev22]; rfl) rfl ?_
        obtain ⟨v23, ev23⟩ : ∃ y_ : Int32, y_ = (nI y) + 1 := ⟨_, rfl⟩
        refine x_iinc (v := v23) (L2 := [some (.ref 100), some (.int (nI N)), some (.int much), some (.int w0), some (.int v22), some (.int v23), none, none, none, none, none]) (q := 92) dX12_round_89 rfl (by decide) rfl rfl (by rw [ev23]; rfl) rfl ?_
        refine x_goto (t := 47) dX12_round_92 (by decide) ?_
        rw [bit_0 (by omega) (by omega)] at c62
        have tb := eq_true_of_ne_false c62
        rw [nI_clamp (by omega)] at eI21
        rw [eI21, show v23 = nI (y + 1) by rw [ev23, nI_p1], show v22 = nI (cnt N (y + 1)) by rw [ev22, nI_p1, cnt_1 tb]]
        exact ih (y + 1) _ (by omega) (by rw [cnt_1 tb]; omega) ⟨hX.1.up, oc_1 (by omega) tb hX.2⟩
      · refine x_iconst (-1) (q := 76) dX12_round_75 rfl (by decide) ?_
        refine q_iret dX12_round_76 rfl ?_
        rw [bit_0 (by omega) (by omega)] at c62
        have tb := eq_true_of_ne_false c62
        have e7 : cnt N y = 7 := (nI_eq (b := 7) (by omega) (by decide)).mp c72
        have q1 := cnt_1 tb
        have q2 := cnt_d (N := N) (show y + 1 ≤ yn by omega)
        exact kb (by omega) X hX.1
    · refine x_goto (t := 89) dX12_round_65 (by decide) ?_
      obtain ⟨v1, ev1⟩ : ∃ y_ : Int32, y_ = (nI y) + 1 := ⟨_, rfl⟩
      refine x_iinc (v := v1) (L2 := [some (.ref 100), some (.int (nI N)), some (.int much), some (.int w0), some (.int (nI (cnt N y))), some (.int v1), none, none, none, none, none]) (q := 92) dX12_round_89 rfl (by decide) rfl rfl (by rw [ev1]; rfl) rfl ?_
      refine x_goto (t := 47) dX12_round_92 (by decide) ?_
      rw [bit_0 (by omega) (by omega)] at c62
      rw [show v1 = nI (y + 1) by rw [ev1, nI_p1], ← cnt_0 c62]
      exact ih (y + 1) X (by omega) (by rw [cnt_0 c62]; exact h7) ⟨hX.1, oc_0 c62 hX.2⟩
set_option maxRecDepth 100000 in
theorem l_ck {yn d N : Nat} {D : Nat → Nat} {X : MI} (hD : dc 128 D X) (hDl : dl D) (ho : oc 129 (cnt N yn) (OF N yn) X) (h7 : cnt N yn ≤ 7) (h8 : yn ≤ 8) (hd : d < yn) (hdp : X 100 47 = nI d) (r : MR) (J : MJ) {much w0 : Int32} (post : Option Value → MI → MR → MJ → Prop) (kx : gdP D d yn N → Wq MX12_round 143 [some (.ref 100), some (.int (nI N)), some (.int much), some (.int w0), some (.int (nI (cnt N yn))), some (.int (nI (cnt N yn))), none, none, none, none, none] [] X r J post) (kb : ¬ gdP D d yn N → post (some (.int (-1))) X r J) : ∀ (f : Nat) (k : Nat) (_ : k + f = cnt N yn) (_ : ∀ j, j < k → D (8 * d + OF N yn j) < 1000000), Wq MX12_round 102 [some (.ref 100), some (.int (nI N)), some (.int much), some (.int w0), some (.int (nI (cnt N yn))), some (.int (nI k)), none, none, none, none, none] [] X r J (post) := by
  intro f
  induction f with
  | zero =>
    intro k hkn hX
    refine x_iload (q := 104) dX12_round_102 rfl rfl ?_
    refine x_iload (q := 106) dX12_round_104 rfl rfl ?_
    refine x_icmp_ge (t := 143) (q := 109) dX12_round_106 (by decide) rfl (fun c106 => ?_) (fun c106 => absurd c106 (fun q => q (nI_le (by omega) (by omega))))
    rw [show k = cnt N yn by omega] at hX ⊢
    refine kx (fun y hy hb => ?_)
    have q := OF_sur hy hb
    have q2 := hX _ q.2
    rw [q.1] at q2
    exact q2
  | succ f ih =>
    intro k hkn hX
    have hlo := OF_lo N yn k (by omega)
    have hdk := hDl (8 * d + OF N yn k) (by omega)
    have eo : X 129 (nI k).toNatClampNeg = nI (OF N yn k) := by rw [nI_clamp (by omega)]; exact (ho k (by omega)).2
    have ed_ : X 128 ((8 : Int32) * X 100 47 + X 129 (nI k).toNatClampNeg).toNatClampNeg = nI (D (8 * d + OF N yn k)) := by
      rw [eo, hdp, ix2, nI_clamp (by omega)]
      exact hD _ (by omega)
    refine x_iload (q := 104) dX12_round_102 rfl rfl ?_
    refine x_iload (q := 106) dX12_round_104 rfl rfl ?_
    refine x_icmp_ge (t := 143) (q := 109) dX12_round_106 (by decide) rfl (fun c106 => absurd c106 (nI_ge (by omega) (by omega))) (fun c106 => ?_)
    refine x_aload_n (q := 110) dX12_round_109 rfl rfl ?_
    refine q_gr (K := 58) (b := 128) (q := 113) dX12_round_110 rfl cl_12 (by decide) tw_1140 rfl rfl rfl ?_
    refine x_bipush (8) (q := 115) dX12_round_113 rfl (by decide) ?_
    refine x_aload_n (q := 116) dX12_round_115 rfl rfl ?_
    refine q_gi (K := 47) (q := 119) dX12_round_116 rfl cl_12 (by decide) tw_1129 rfl rfl ?_
    refine x_imul (q := 120) dX12_round_119 rfl ?_
    refine x_aload_n (q := 121) dX12_round_120 rfl rfl ?_
    refine q_gr (K := 59) (b := 129) (q := 124) dX12_round_121 rfl cl_12 (by decide) tw_1141 rfl rfl rfl ?_
    refine x_iload (q := 126) dX12_round_124 rfl rfl ?_
    refine q_iald (q := 127) dX12_round_126 rfl rfl (vp_in_nI (by omega) (by decide)) ?_
    refine x_iadd (q := 128) dX12_round_127 rfl ?_
    refine q_iald (q := 129) dX12_round_128 rfl rfl (by rw [eo, hdp, ix2]; exact vp_in_nI (by omega) (by decide)) ?_
    refine x_ldcw (v := 1000000) (q := 132) dX12_round_129 rfl tw_1579 ?_
    refine x_icmp_lt (t := 137) (q := 135) dX12_round_132 (by decide) rfl (fun c132 => ?_) (fun c132 => ?_)
    · obtain ⟨v1, ev1⟩ : ∃ y_ : Int32, y_ = (nI k) + 1 := ⟨_, rfl⟩
      refine x_iinc (v := v1) (L2 := [some (.ref 100), some (.int (nI N)), some (.int much), some (.int w0), some (.int (nI (cnt N yn))), some (.int v1), none, none, none, none, none]) (q := 140) dX12_round_137 rfl (by decide) rfl rfl (by rw [ev1]; rfl) rfl ?_
      refine x_goto (t := 102) dX12_round_140 (by decide) ?_
      rw [ed_] at c132
      rw [show v1 = nI (k + 1) by rw [ev1, nI_p1]]
      refine ih (k + 1) (by omega) (fun j hj => ?_)
      by_cases e : j = k
      · rw [e]; exact (nI_ltI (b := 1000000) (by omega) (by decide)).mp c132
      · exact hX j (by omega)
    · refine x_iconst (-1) (q := 136) dX12_round_135 rfl (by decide) ?_
      refine q_iret dX12_round_136 rfl ?_
      rw [ed_] at c132
      refine kb (fun z => c132 (nI_lt (b := 1000000) (z (OF N yn k) hlo (OF_bit yn k (by omega))) (by decide)))
set_option maxRecDepth 100000 in
theorem c_Mrnd_g {I : MI} {b yn wn hn sn st : Nat} (hb : b ≤ 28) (r : MR) (J : MJ) (h : RelL I b yn wn hn sn st) {N : Nat} (hN : N < 2 ^ yn) {d : Nat} (hd : d < yn) (hdp : I b 15 = nI d) {much w0 : Int32} (hm : (0 : Int32) ≤ much ∧ much ≤ 99) (hw0 : (0 : Int32) ≤ w0 ∧ w0 ≤ 1) (h7_ : cnt N yn ≤ 7) (gd : gdP (fl3 yn (dz I) yn) d yn N) : Cq yX12_round MX12_round [.ref 100, .int (nI N), .int much, .int w0] I r J (Rp (some (.int (rdV w0 (rn (fl3 yn (dz I) yn) d (Wb I b hn st much) (cnt N yn) 5040 (OF N yn) (cnt N yn + 1) 0 (fun _ => 0))))) (mrF I (cnt N yn) (rn (fl3 yn (dz I) yn) d (Wb I b hn st much) (cnt N yn) 5040 (OF N yn) (cnt N yn + 1) 0 (fun _ => 0))) r J) := by
  have h8 : yn ≤ 8 := h.1.2.2.1
  have h256 : N < 256 := by have := p8 h8; omega
  have hm2 : 0 ≤ much.toInt ∧ much.toInt ≤ 99 := by
    have q1 := Int32.le_iff_toInt_le.mp hm.1
    have q2 := Int32.le_iff_toInt_le.mp hm.2
    exact ⟨q1, q2⟩
  refine cq_of [some (.ref 100), some (.int (nI N)), some (.int much), some (.int w0), none, none, none, none, none, none, none] 7 (by decide +kernel) rfl rfl (Nat.le_of_ble_eq_true rfl) rfl ?_
  refine x_aload_n (q := 1) dX12_round_0 rfl rfl ?_
  refine x_iconst (0) (q := 2) dX12_round_1 rfl (by decide) ?_
  refine q_pi (K := 61) (q := 5) dX12_round_2 rfl cl_12 (by decide) tw_1143 rfl rfl rfl rfl (fun I1 eI1 => ?_)
  have hZ0 : Kr I I1 := by
    rw [eI1]
    intro c j q1 q2 q3 q4 q5
    by_cases e : c = 100
    · subst e; rw [ups (fun z => q5 ⟨rfl, z⟩)]
    · rw [upc e]
  have dpZ : I1 100 47 = nI d := by rw [hZ0 100 47 (by unfold scr; omega) (by decide) (by decide) (by decide) (by omega), h.2.2.2.1.2.2.2.2.1]; exact hdp
  refine x_aload_n (q := 6) dX12_round_5 rfl rfl ?_
  refine x_iload_n (q := 7) dX12_round_6 rfl rfl ?_
  refine q_callV (ci := 12) (N := 79) (T := TX12) (As := [.int (nI N)]) (rest := []) (q := 10) dX12_round_7 rfl okX12_isSet tw_1563 rfl rfl (c_mSet_g hb r J (RelL_r hZ0 hb h) hN) rfl rfl (Nat.le_of_ble_eq_true rfl) ⟨by decide, by decide⟩ ⟨rfl, rfl⟩ (fun rv_ I_ r_ J_ hv_ => ?_)
  obtain ⟨a1_, a2_, a3_, a4_⟩ := hv_
  rw [a1_, a2_, a3_, a4_]
  show Wq MX12_round 10 [some (.ref 100), some (.int (nI N)), some (.int much), some (.int w0), none, none, none, none, none, none, none] [.int 1] I1 r J _
  refine x_if_eq (t := 39) (q := 13) dX12_round_10 (by decide) rfl (fun c10 => absurd c10 ((by decide))) (fun c10 => ?_)
  refine x_iload_n (q := 14) dX12_round_13 rfl rfl ?_
  refine x_iconst (0) (q := 15) dX12_round_14 rfl (by decide) ?_
  refine x_bipush (99) (q := 17) dX12_round_15 rfl (by decide) ?_
  refine q_callS (As := [.int much, .int 0, .int 99]) (rest := []) (q := 20) dX12_round_17 rfl okX12_isIn tw_1450 (c_isIn_g _ r J hm.1 hm.2) rfl rfl (Nat.le_of_ble_eq_true rfl) ⟨by decide, by decide⟩ ⟨rfl, rfl⟩ (fun rv_ I_ r_ J_ hv_ => ?_)
  obtain ⟨a1_, a2_, a3_, a4_⟩ := hv_
  rw [a1_, a2_, a3_, a4_]
  show Wq MX12_round 20 [some (.ref 100), some (.int (nI N)), some (.int much), some (.int w0), none, none, none, none, none, none, none] [.int 1] I1 r J _
  refine x_if_eq (t := 39) (q := 23) dX12_round_20 (by decide) rfl (fun c20 => absurd c20 ((by decide))) (fun c20 => ?_)
  refine x_iload_n (q := 24) dX12_round_23 rfl rfl ?_
  refine x_iconst (0) (q := 25) dX12_round_24 rfl (by decide) ?_
  refine x_iconst (1) (q := 26) dX12_round_25 rfl (by decide) ?_
  refine q_callS (As := [.int w0, .int 0, .int 1]) (rest := []) (q := 29) dX12_round_26 rfl okX12_isIn tw_1450 (c_isIn_g _ r J hw0.1 hw0.2) rfl rfl (Nat.le_of_ble_eq_true rfl) ⟨by decide, by decide⟩ ⟨rfl, rfl⟩ (fun rv_ I_ r_ J_ hv_ => ?_)
  obtain ⟨a1_, a2_, a3_, a4_⟩ := hv_
  rw [a1_, a2_, a3_, a4_]
  show Wq MX12_round 29 [some (.ref 100), some (.int (nI N)), some (.int much), some (.int w0), none, none, none, none, none, none, none] [.int 1] I1 r J _
  refine x_if_eq (t := 39) (q := 32) dX12_round_29 (by decide) rfl (fun c29 => absurd c29 ((by decide))) (fun c29 => ?_)
  refine x_aload_n (q := 33) dX12_round_32 rfl rfl ?_
  refine q_gi (K := 47) (q := 36) dX12_round_33 rfl cl_12 (by decide) tw_1129 rfl rfl ?_
  refine x_if_ge (t := 41) (q := 39) dX12_round_36 (by decide) rfl (fun c36 => ?_) (fun c36 => absurd c36 (fun q => q (by rw [dpZ]; exact nI_pos' (by omega))))
  refine x_iconst (0) (q := 42) dX12_round_41 rfl (by decide) ?_
  refine x_istore (L2 := [some (.ref 100), some (.int (nI N)), some (.int much), some (.int w0), some (.int 0), none, none, none, none, none, none]) (q := 44) dX12_round_42 rfl (by decide) rfl rfl ?_
  refine x_iconst (0) (q := 45) dX12_round_44 rfl (by decide) ?_
  refine x_istore (L2 := [some (.ref 100), some (.int (nI N)), some (.int much), some (.int w0), some (.int 0), some (.int 0), none, none, none, none, none]) (q := 47) dX12_round_45 rfl (by decide) rfl rfl ?_
  have hZ : mrN I I1 := by
    rw [eI1]
    refine ⟨fun c j q1 q2 q3 q4 q5 => ?_, fun c q => by rw [upc (by omega)], by rw [upq]⟩
    by_cases e : c = 100
    · subst e; rw [ups (fun z => q5 ⟨rfl, z⟩)]
    · rw [upc e]
  refine l_of r J (RelL_r hZ.1 hb h) h256 _ (fun h7 X hF hO => ?_) (fun h7 X hF => ?_) yn 0 I1 (by omega) (by unfold cnt; omega) ⟨fun _ _ => rfl, fun k hk => absurd hk (by unfold cnt; omega)⟩
  · refine x_aload_n (q := 96) dX12_round_95 rfl rfl ?_
    refine q_callV (ci := 12) (N := 79) (T := TX12) (As := []) (rest := []) (q := 99) dX12_round_96 rfl okX12_layFar tw_1575 rfl rfl (c_lfar r J (RelL_r (mrN_1 hZ hF (by decide)).1 hb h)) rfl rfl (Nat.le_of_ble_eq_true rfl) ⟨by decide, by decide⟩ ⟨rfl, rfl⟩ (fun rv_ Y r_ J_ hv_ => ?_)
    obtain ⟨a1_, hY, a3_, a4_⟩ := hv_
    rw [a1_, a3_, a4_]
    have hX := mrN_1 hZ hF (by decide)
    have ez : dz X = dz I := by
      have e : X 119 = I 119 := hX.1.cell (fun j s => by unfold scr at s; omega) (by decide) (by decide) (by decide) (by decide)
      funext j
      unfold dz
      rw [e]
    rw [ez] at hY
    have hYY := mrN_1 hX hY.1 (by decide)
    have hdY : Y 100 47 = nI d := by rw [hYY.1 100 47 (by unfold scr; omega) (by decide) (by decide) (by decide) (by omega), h.2.2.2.1.2.2.2.2.1]; exact hdp
    have hOY : oc 129 (cnt N yn) (OF N yn) Y := fun k hk => by rw [hY.1 129 (by decide)]; exact hO k hk
    show Wq MX12_round 99 [some (.ref 100), some (.int (nI N)), some (.int much), some (.int w0), some (.int (nI (cnt N yn))), some (.int (nI yn)), none, none, none, none, none] [] Y r J _
    refine x_iconst (0) (q := 100) dX12_round_99 rfl (by decide) ?_
    refine x_istore (L2 := [some (.ref 100), some (.int (nI N)), some (.int much), some (.int w0), some (.int (nI (cnt N yn))), some (.int 0), none, none, none, none, none]) (q := 102) dX12_round_100 rfl (by decide) rfl rfl ?_
    refine l_ck hY.2 (fl3_l (dz_l h.2.1 h8 h.2.2.2.1) yn) hOY h7 h8 hd hdY r J _ (fun gd_ => ?_) (fun ng => absurd gd ng) (cnt N yn) 0 (by omega) (fun j hj => absurd hj (by omega))
    · refine x_aload_n (q := 144) dX12_round_143 rfl rfl ?_
      refine x_iload_n (q := 145) dX12_round_144 rfl rfl ?_
      refine x_iload_n (q := 146) dX12_round_145 rfl rfl ?_
      refine q_callV (ci := 12) (N := 79) (T := TX12) (As := [.int (nI N), .int much]) (rest := []) (q := 149) dX12_round_146 rfl okX12_layWhite tw_1580 rfl rfl (c_lw hb r J (RelL_r hYY.1 hb h) h256 hm2) rfl rfl (Nat.le_of_ble_eq_true rfl) ⟨by decide, by decide⟩ ⟨rfl, rfl⟩ (fun rv_ V r_ J_ hv_ => ?_)
      obtain ⟨a1_, hV, a3_, a4_⟩ := hv_
      rw [a1_, a3_, a4_]
      have hVV := mrN_w hYY hV.1
      show Wq MX12_round 149 [some (.ref 100), some (.int (nI N)), some (.int much), some (.int w0), some (.int (nI (cnt N yn))), some (.int (nI (cnt N yn))), none, none, none, none, none] [] V r J _
      refine x_iconst (-1) (q := 150) dX12_round_149 rfl (by decide) ?_
      refine x_istore (L2 := [some (.ref 100), some (.int (nI N)), some (.int much), some (.int w0), some (.int (nI (cnt N yn))), some (.int (-1)), none, none, none, none, none]) (q := 152) dX12_round_150 rfl (by decide) rfl rfl ?_
      refine x_iconst (0) (q := 153) dX12_round_152 rfl (by decide) ?_
      refine x_istore (L2 := [some (.ref 100), some (.int (nI N)), some (.int much), some (.int w0), some (.int (nI (cnt N yn))), some (.int (-1)), some (.int 0), none, none, none, none]) (q := 155) dX12_round_153 rfl (by decide) rfl rfl ?_
      refine x_iconst (1) (q := 156) dX12_round_155 rfl (by decide) ?_
      refine x_istore (L2 := [some (.ref 100), some (.int (nI N)), some (.int much), some (.int w0), some (.int (nI (cnt N yn))), some (.int (-1)), some (.int 0), some (.int 1), none, none, none]) (q := 158) dX12_round_156 rfl (by decide) rfl rfl ?_
      refine x_iload (q := 160) dX12_round_158 rfl rfl ?_
      refine x_if_eq (t := 254) (q := 163) dX12_round_160 (by decide) rfl (fun c160 => absurd c160 ((by decide))) (fun c160 => ?_)
      have e5 : (-1 : Int32) = v5 (cnt N yn) (cnt N yn + 1) := (if_pos rfl).symm
      rw [e5]
      refine l_mr r J h (fl3_l (dz_l h.2.1 h8 h.2.2.2.1) yn) h7 hd hdp 5040 (OF N yn) (cnt N yn + 1) 0 (fun _ => 0) V _ _ _ _ (rs_OF h7) (fun k hk => ⟨OF_lo N yn k hk, OF_bit yn k hk⟩) (Nat.le_refl _) (by omega) ⟨hVV.1, hVV.2.1, fun j hj => ?_, fun k hk => ?_, fun y s q1 q2 q3 => ?_, fun q => absurd q (by omega)⟩
      · rw [hV.1 128 j (by decide) (by decide) (by omega)]; exact hY.2 j hj
      · rw [hV.1 129 k (by decide) (by decide) (by omega)]; exact hOY k hk
      · rw [hV.2 y s q1 q2 q3, Wb_r hYY.1 hb (by omega)]
  · exact absurd h7 (by omega)
set_option maxRecDepth 100000 in
theorem c_Mrnd_b {I : MI} {b yn wn hn sn st : Nat} (hb : b ≤ 28) (r : MR) (J : MJ) (h : RelL I b yn wn hn sn st) {N : Nat} (hN : N < 2 ^ yn) {d : Nat} (hd : d < yn) (hdp : I b 15 = nI d) {much w0 : Int32} (hm : (0 : Int32) ≤ much ∧ much ≤ 99) (hw0 : (0 : Int32) ≤ w0 ∧ w0 ≤ 1) (hno : 7 < cnt N yn ∨ ¬ gdP (fl3 yn (dz I) yn) d yn N) : Cq yX12_round MX12_round [.ref 100, .int (nI N), .int much, .int w0] I r J (Rp (some (.int (-1))) (mrN I) r J) := by
  have h8 : yn ≤ 8 := h.1.2.2.1
  have h256 : N < 256 := by have := p8 h8; omega
  have hm2 : 0 ≤ much.toInt ∧ much.toInt ≤ 99 := by
    have q1 := Int32.le_iff_toInt_le.mp hm.1
    have q2 := Int32.le_iff_toInt_le.mp hm.2
    exact ⟨q1, q2⟩
  refine cq_of [some (.ref 100), some (.int (nI N)), some (.int much), some (.int w0), none, none, none, none, none, none, none] 7 (by decide +kernel) rfl rfl (Nat.le_of_ble_eq_true rfl) rfl ?_
  refine x_aload_n (q := 1) dX12_round_0 rfl rfl ?_
  refine x_iconst (0) (q := 2) dX12_round_1 rfl (by decide) ?_
  refine q_pi (K := 61) (q := 5) dX12_round_2 rfl cl_12 (by decide) tw_1143 rfl rfl rfl rfl (fun I1 eI1 => ?_)
  have hZ0 : Kr I I1 := by
    rw [eI1]
    intro c j q1 q2 q3 q4 q5
    by_cases e : c = 100
    · subst e; rw [ups (fun z => q5 ⟨rfl, z⟩)]
    · rw [upc e]
  have dpZ : I1 100 47 = nI d := by rw [hZ0 100 47 (by unfold scr; omega) (by decide) (by decide) (by decide) (by omega), h.2.2.2.1.2.2.2.2.1]; exact hdp
  refine x_aload_n (q := 6) dX12_round_5 rfl rfl ?_
  refine x_iload_n (q := 7) dX12_round_6 rfl rfl ?_
  refine q_callV (ci := 12) (N := 79) (T := TX12) (As := [.int (nI N)]) (rest := []) (q := 10) dX12_round_7 rfl okX12_isSet tw_1563 rfl rfl (c_mSet_g hb r J (RelL_r hZ0 hb h) hN) rfl rfl (Nat.le_of_ble_eq_true rfl) ⟨by decide, by decide⟩ ⟨rfl, rfl⟩ (fun rv_ I_ r_ J_ hv_ => ?_)
  obtain ⟨a1_, a2_, a3_, a4_⟩ := hv_
  rw [a1_, a2_, a3_, a4_]
  show Wq MX12_round 10 [some (.ref 100), some (.int (nI N)), some (.int much), some (.int w0), none, none, none, none, none, none, none] [.int 1] I1 r J _
  refine x_if_eq (t := 39) (q := 13) dX12_round_10 (by decide) rfl (fun c10 => absurd c10 ((by decide))) (fun c10 => ?_)
  refine x_iload_n (q := 14) dX12_round_13 rfl rfl ?_
  refine x_iconst (0) (q := 15) dX12_round_14 rfl (by decide) ?_
  refine x_bipush (99) (q := 17) dX12_round_15 rfl (by decide) ?_
  refine q_callS (As := [.int much, .int 0, .int 99]) (rest := []) (q := 20) dX12_round_17 rfl okX12_isIn tw_1450 (c_isIn_g _ r J hm.1 hm.2) rfl rfl (Nat.le_of_ble_eq_true rfl) ⟨by decide, by decide⟩ ⟨rfl, rfl⟩ (fun rv_ I_ r_ J_ hv_ => ?_)
  obtain ⟨a1_, a2_, a3_, a4_⟩ := hv_
  rw [a1_, a2_, a3_, a4_]
  show Wq MX12_round 20 [some (.ref 100), some (.int (nI N)), some (.int much), some (.int w0), none, none, none, none, none, none, none] [.int 1] I1 r J _
  refine x_if_eq (t := 39) (q := 23) dX12_round_20 (by decide) rfl (fun c20 => absurd c20 ((by decide))) (fun c20 => ?_)
  refine x_iload_n (q := 24) dX12_round_23 rfl rfl ?_
  refine x_iconst (0) (q := 25) dX12_round_24 rfl (by decide) ?_
  refine x_iconst (1) (q := 26) dX12_round_25 rfl (by decide) ?_
  refine q_callS (As := [.int w0, .int 0, .int 1]) (rest := []) (q := 29) dX12_round_26 rfl okX12_isIn tw_1450 (c_isIn_g _ r J hw0.1 hw0.2) rfl rfl (Nat.le_of_ble_eq_true rfl) ⟨by decide, by decide⟩ ⟨rfl, rfl⟩ (fun rv_ I_ r_ J_ hv_ => ?_)
  obtain ⟨a1_, a2_, a3_, a4_⟩ := hv_
  rw [a1_, a2_, a3_, a4_]
  show Wq MX12_round 29 [some (.ref 100), some (.int (nI N)), some (.int much), some (.int w0), none, none, none, none, none, none, none] [.int 1] I1 r J _
  refine x_if_eq (t := 39) (q := 32) dX12_round_29 (by decide) rfl (fun c29 => absurd c29 ((by decide))) (fun c29 => ?_)
  refine x_aload_n (q := 33) dX12_round_32 rfl rfl ?_
  refine q_gi (K := 47) (q := 36) dX12_round_33 rfl cl_12 (by decide) tw_1129 rfl rfl ?_
  refine x_if_ge (t := 41) (q := 39) dX12_round_36 (by decide) rfl (fun c36 => ?_) (fun c36 => absurd c36 (fun q => q (by rw [dpZ]; exact nI_pos' (by omega))))
  refine x_iconst (0) (q := 42) dX12_round_41 rfl (by decide) ?_
  refine x_istore (L2 := [some (.ref 100), some (.int (nI N)), some (.int much), some (.int w0), some (.int 0), none, none, none, none, none, none]) (q := 44) dX12_round_42 rfl (by decide) rfl rfl ?_
  refine x_iconst (0) (q := 45) dX12_round_44 rfl (by decide) ?_
  refine x_istore (L2 := [some (.ref 100), some (.int (nI N)), some (.int much), some (.int w0), some (.int 0), some (.int 0), none, none, none, none, none]) (q := 47) dX12_round_45 rfl (by decide) rfl rfl ?_
  have hZ : mrN I I1 := by
    rw [eI1]
    refine ⟨fun c j q1 q2 q3 q4 q5 => ?_, fun c q => by rw [upc (by omega)], by rw [upq]⟩
    by_cases e : c = 100
    · subst e; rw [ups (fun z => q5 ⟨rfl, z⟩)]
    · rw [upc e]
  refine l_of r J (RelL_r hZ.1 hb h) h256 _ (fun h7 X hF hO => ?_) (fun h7 X hF => ?_) yn 0 I1 (by omega) (by unfold cnt; omega) ⟨fun _ _ => rfl, fun k hk => absurd hk (by unfold cnt; omega)⟩
  · refine x_aload_n (q := 96) dX12_round_95 rfl rfl ?_
    refine q_callV (ci := 12) (N := 79) (T := TX12) (As := []) (rest := []) (q := 99) dX12_round_96 rfl okX12_layFar tw_1575 rfl rfl (c_lfar r J (RelL_r (mrN_1 hZ hF (by decide)).1 hb h)) rfl rfl (Nat.le_of_ble_eq_true rfl) ⟨by decide, by decide⟩ ⟨rfl, rfl⟩ (fun rv_ Y r_ J_ hv_ => ?_)
    obtain ⟨a1_, hY, a3_, a4_⟩ := hv_
    rw [a1_, a3_, a4_]
    have hX := mrN_1 hZ hF (by decide)
    have ez : dz X = dz I := by
      have e : X 119 = I 119 := hX.1.cell (fun j s => by unfold scr at s; omega) (by decide) (by decide) (by decide) (by decide)
      funext j
      unfold dz
      rw [e]
    rw [ez] at hY
    have hYY := mrN_1 hX hY.1 (by decide)
    have hdY : Y 100 47 = nI d := by rw [hYY.1 100 47 (by unfold scr; omega) (by decide) (by decide) (by decide) (by omega), h.2.2.2.1.2.2.2.2.1]; exact hdp
    have hOY : oc 129 (cnt N yn) (OF N yn) Y := fun k hk => by rw [hY.1 129 (by decide)]; exact hO k hk
    show Wq MX12_round 99 [some (.ref 100), some (.int (nI N)), some (.int much), some (.int w0), some (.int (nI (cnt N yn))), some (.int (nI yn)), none, none, none, none, none] [] Y r J _
    refine x_iconst (0) (q := 100) dX12_round_99 rfl (by decide) ?_
    refine x_istore (L2 := [some (.ref 100), some (.int (nI N)), some (.int much), some (.int w0), some (.int (nI (cnt N yn))), some (.int 0), none, none, none, none, none]) (q := 102) dX12_round_100 rfl (by decide) rfl rfl ?_
    exact l_ck hY.2 (fl3_l (dz_l h.2.1 h8 h.2.2.2.1) yn) hOY h7 h8 hd hdY r J _ (fun gd_ => (hno.elim (fun z => absurd z (by omega)) (fun z => absurd gd_ z))) (fun ng => ⟨rfl, hYY, rfl, rfl⟩) (cnt N yn) 0 (by omega) (fun j hj => absurd hj (by omega))
  · exact ⟨rfl, mrN_1 hZ hF (by decide), rfl, rfl⟩
def rouOk (yn : Nat) (x much w : Int32) : Prop := setOk yn x ∧ (0 ≤ much ∧ much ≤ 99) ∧ 0 ≤ w ∧ w ≤ 1
def sB (yn : Nat) (x : Int32) : Int32 := if 0 ≤ x ∧ x < nI (2 ^ yn) then 1 else 0
theorem sB_g {yn : Nat} {x : Int32} (h8 : yn ≤ 8) (h : ¬ sB yn x = 0) : setOk yn x := by
  have hp := p8 h8
  unfold sB at h
  by_cases q : 0 ≤ x ∧ x < nI (2 ^ yn)
  · obtain ⟨k, hk, rfl⟩ := nI_of (Int32.not_lt.mpr q.1)
    exact ⟨k, (nI_ltI (by omega) (by omega)).mp q.2, rfl⟩
  · rw [if_neg q] at h; exact absurd rfl h
theorem sB_1 {yn N : Nat} (h8 : yn ≤ 8) (h : N < 2 ^ yn) : sB yn (nI N) = 1 := by
  have hp := p8 h8
  exact if_pos ⟨nI_pos' (by omega), nI_lt h (by omega)⟩
theorem sB_0 {yn : Nat} {x : Int32} (h8 : yn ≤ 8) (h : ¬ setOk yn x) : sB yn x = 0 := by
  by_cases q : sB yn x = 0
  · exact q
  · exact absurd (sB_g h8 q) h
theorem c_isSet_a {I : MI} {b yn wn hn sn st : Nat} {r : MR} (J : MJ) (hr : RefOk r b) (h : RelL I b yn wn hn sn st) {x : Int32} : Cq yX11_isSet MX11_isSet [.ref 0, .int x] I r J (Rt (some (.int (sB yn x))) I r J) := by
  by_cases q : setOk yn x
  · obtain ⟨N, hN, rfl⟩ := q
    rw [sB_1 h.1.2.2.1 hN]
    exact c_isSet_g J hr h hN
  · rw [sB_0 h.1.2.2.1 q]
    exact c_isSet_b J hr h q
theorem c_mSet_a {I : MI} {b yn wn hn sn st : Nat} (hb : b ≤ 28) (r : MR) (J : MJ) (h : RelL I b yn wn hn sn st) {x : Int32} : Cq yX12_isSet MX12_isSet [.ref 100, .int x] I r J (Rt (some (.int (sB yn x))) I r J) := by
  by_cases q : setOk yn x
  · obtain ⟨N, hN, rfl⟩ := q
    rw [sB_1 h.1.2.2.1 hN]
    exact c_mSet_g hb r J h hN
  · rw [sB_0 h.1.2.2.1 q]
    exact c_mSet_b hb r J h q
set_option maxRecDepth 100000 in
theorem c_Mrnd_n {I : MI} {b yn wn hn sn st : Nat} (hb : b ≤ 28) (r : MR) (J : MJ) (h : RelL I b yn wn hn sn st) {x much w0 : Int32} (hno : rouOk yn x much w0 → I b 15 = -1) : Cq yX12_round MX12_round [.ref 100, .int x, .int much, .int w0] I r J (Rp (some (.int (-1))) (mrN I) r J) := by
  have h8 : yn ≤ 8 := h.1.2.2.1
  refine cq_of [some (.ref 100), some (.int x), some (.int much), some (.int w0), none, none, none, none, none, none, none] 7 (by decide +kernel) rfl rfl (Nat.le_of_ble_eq_true rfl) rfl ?_
  refine x_aload_n (q := 1) dX12_round_0 rfl rfl ?_
  refine x_iconst (0) (q := 2) dX12_round_1 rfl (by decide) ?_
  refine q_pi (K := 61) (q := 5) dX12_round_2 rfl cl_12 (by decide) tw_1143 rfl rfl rfl rfl (fun I1 eI1 => ?_)
  have hZ : mrN I I1 := by
    rw [eI1]
    refine ⟨fun c j q1 q2 q3 q4 q5 => ?_, fun c q => by rw [upc (by omega)], by rw [upq]⟩
    by_cases e : c = 100
    · subst e; rw [ups (fun z => q5 ⟨rfl, z⟩)]
    · rw [upc e]
  refine x_aload_n (q := 6) dX12_round_5 rfl rfl ?_
  refine x_iload_n (q := 7) dX12_round_6 rfl rfl ?_
  refine q_callV (ci := 12) (N := 79) (T := TX12) (As := [.int x]) (rest := []) (q := 10) dX12_round_7 rfl okX12_isSet tw_1563 rfl rfl (c_mSet_a hb r J (RelL_r hZ.1 hb h)) rfl rfl (Nat.le_of_ble_eq_true rfl) ⟨by decide, by decide⟩ ⟨rfl, rfl⟩ (fun rv_ I_ r_ J_ hv_ => ?_)
  obtain ⟨a1_, a2_, a3_, a4_⟩ := hv_
  rw [a1_, a2_, a3_, a4_]
  show Wq MX12_round 10 [some (.ref 100), some (.int x), some (.int much), some (.int w0), none, none, none, none, none, none, none] [.int (sB yn x)] I1 r J _
  refine x_if_eq (t := 39) (q := 13) dX12_round_10 (by decide) rfl (fun c10 => ?_) (fun c10 => ?_)
  · refine x_iconst (-1) (q := 40) dX12_round_39 rfl (by decide) ?_
    refine q_iret dX12_round_40 rfl ?_
    exact ⟨rfl, hZ, rfl, rfl⟩
  · refine x_iload_n (q := 14) dX12_round_13 rfl rfl ?_
    refine x_iconst (0) (q := 15) dX12_round_14 rfl (by decide) ?_
    refine x_bipush (99) (q := 17) dX12_round_15 rfl (by decide) ?_
    refine q_callS (As := [.int much, .int 0, .int 99]) (rest := []) (q := 20) dX12_round_17 rfl okX12_isIn tw_1450 (c_isIn _ _ _ _ r J) rfl rfl (Nat.le_of_ble_eq_true rfl) ⟨by decide, by decide⟩ ⟨rfl, rfl⟩ (fun rv_ I_ r_ J_ hv_ => ?_)
    obtain ⟨a1_, a2_, a3_, a4_⟩ := hv_
    rw [a1_, a2_, a3_, a4_]
    show Wq MX12_round 20 [some (.ref 100), some (.int x), some (.int much), some (.int w0), none, none, none, none, none, none, none] [.int (inF much 0 99)] I1 r J _
    refine x_if_eq (t := 39) (q := 23) dX12_round_20 (by decide) rfl (fun c20 => ?_) (fun c20 => ?_)
    · refine x_iconst (-1) (q := 40) dX12_round_39 rfl (by decide) ?_
      refine q_iret dX12_round_40 rfl ?_
      exact ⟨rfl, hZ, rfl, rfl⟩
    · refine x_iload_n (q := 24) dX12_round_23 rfl rfl ?_
      refine x_iconst (0) (q := 25) dX12_round_24 rfl (by decide) ?_
      refine x_iconst (1) (q := 26) dX12_round_25 rfl (by decide) ?_
      refine q_callS (As := [.int w0, .int 0, .int 1]) (rest := []) (q := 29) dX12_round_26 rfl okX12_isIn tw_1450 (c_isIn _ _ _ _ r J) rfl rfl (Nat.le_of_ble_eq_true rfl) ⟨by decide, by decide⟩ ⟨rfl, rfl⟩ (fun rv_ I_ r_ J_ hv_ => ?_)
      obtain ⟨a1_, a2_, a3_, a4_⟩ := hv_
      rw [a1_, a2_, a3_, a4_]
      show Wq MX12_round 29 [some (.ref 100), some (.int x), some (.int much), some (.int w0), none, none, none, none, none, none, none] [.int (inF w0 0 1)] I1 r J _
      refine x_if_eq (t := 39) (q := 32) dX12_round_29 (by decide) rfl (fun c29 => ?_) (fun c29 => ?_)
      · refine x_iconst (-1) (q := 40) dX12_round_39 rfl (by decide) ?_
        refine q_iret dX12_round_40 rfl ?_
        exact ⟨rfl, hZ, rfl, rfl⟩
      · refine x_aload_n (q := 33) dX12_round_32 rfl rfl ?_
        refine q_gi (K := 47) (q := 36) dX12_round_33 rfl cl_12 (by decide) tw_1129 rfl rfl ?_
        refine x_if_ge (t := 41) (q := 39) dX12_round_36 (by decide) rfl (fun c36 => ?_) (fun c36 => ?_)
        · exact absurd (hno ⟨sB_g h8 c10, inF_1 c20, inF_1 c29⟩) (fun z => by
            rw [hZ.1 100 47 (by unfold scr; omega) (by decide) (by decide) (by decide) (by omega), h.2.2.2.1.2.2.2.2.1, z] at c36
            exact absurd c36 (by decide))
        · refine x_iconst (-1) (q := 40) dX12_round_39 rfl (by decide) ?_
          refine q_iret dX12_round_40 rfl ?_
          exact ⟨rfl, hZ, rfl, rfl⟩
