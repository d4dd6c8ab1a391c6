def rn (D : Nat → Nat) (d : Nat) (W : Nat → Nat → Bool) (n : Nat) : Nat → (Nat → Nat) → Nat → Nat → (Nat → Nat) → Nat × Nat × (Nat → Nat)
  | 0, _, w, mm, bo => (w, mm, bo)
  | f + 1, o, w, mm, bo => if nxV n o = 0 then (uW (wsN D d o W n) (msN D d o n) w mm, uM (wsN D d o W n) (msN D d o n) w mm, uB (wsN D d o W n) (msN D d o n) w mm o bo) else rn D d W n f (nxO n o) (uW (wsN D d o W n) (msN D d o n) w mm) (uM (wsN D d o W n) (msN D d o n) w mm) (uB (wsN D d o W n) (msN D d o n) w mm o bo)
theorem uW_le {ws ms w mm n : Nat} (h : ws ≤ n) (hw : w ≤ n + 1) : uW ws ms w mm ≤ n := by
  unfold uW
  by_cases q : ws < w ∨ (ws = w ∧ ms < mm)
  · rw [if_pos q]; exact h
  · rw [if_neg q]; omega
theorem uM_le {ws ms w mm M : Nat} (h : ms ≤ M) (hw : mm ≤ M) : uM ws ms w mm ≤ M := by
  unfold uM
  by_cases q : ws < w ∨ (ws = w ∧ ms < mm)
  · rw [if_pos q]; exact h
  · rw [if_neg q]; exact hw
def goF (I : MI) (n : Nat) (R : Nat × Nat × (Nat → Nat)) (Y : MI) : Prop := Kr I Y ∧ Y 80 4 = nI n ∧ Y 80 5 = nI R.1 ∧ Y 80 6 = nI R.2.1 ∧ (R.1 ≤ n → ∀ k, k < n → Y 84 k = nI (R.2.2 k))
theorem GI_end {I : MI} {yn n : Nat} {D o o' : Nat → Nat} {W : Nat → Nat → Bool} {w mm : Nat} {bo : Nat → Nat} {X Y : MI} (h : GI I yn n D o W w mm bo X) (hY : F1 83 X Y) : goF I n (w, mm, bo) (upI Y 80 4 (nI n)) := by
  obtain ⟨h1, h2, h3, h4, h5, h6, h7⟩ := h
  refine ⟨fun c j q1 q2 q3 q4 q5 => ?_, by rw [upq], by rw [ups (by decide), hY 80 (by decide)]; exact h5, by rw [ups (by decide), hY 80 (by decide)]; exact h6, fun q k hk => by rw [upc (by decide), hY 84 (by decide)]; exact h7 q k hk⟩
  rw [upc q4, hY c (fun e => q1 (by unfold scr; omega))]
  exact h1 c j q1 q2 q3 q4 q5
theorem GI_nx {I : MI} {yn n : Nat} {D o o' : Nat → Nat} {W : Nat → Nat → Bool} {w mm : Nat} {bo : Nat → Nat} {X Y : MI} (h : GI I yn n D o W w mm bo X) (hY : F1 83 X Y) (ho : oc 83 n o' Y) : GI I yn n D o' W w mm bo Y := by
  obtain ⟨h1, h2, h3, h4, h5, h6, h7⟩ := h
  refine ⟨fun c j q1 q2 q3 q4 q5 => ?_, fun j hj => by rw [hY 81 (by decide)]; exact h2 j hj, ho, fun y s hy hs => by rw [hY 82 (by decide)]; exact h4 y s hy hs, by rw [hY 80 (by decide)]; exact h5, by rw [hY 80 (by decide)]; exact h6, fun q k hk => by rw [hY 84 (by decide)]; exact h7 q k hk⟩
  rw [hY c (fun e => q1 (by unfold scr; omega))]
  exact h1 c j q1 q2 q3 q4 q5
set_option maxRecDepth 100000 in
theorem l_go {I : MI} {b yn wn hn sn st : Nat} {r : MR} (J : MJ) (hr : RefOk r b) (h : RelL I b yn wn hn sn st) {n d N : Nat} {D : Nat → Nat} (hDl : dl D) (hn7 : n ≤ 7) (hd : d < yn) (hdp : I b 15 = nI d) {much : Int32} (hm : 0 ≤ much.toInt ∧ much.toInt ≤ 99) {W : Nat → Nat → Bool} (hW : ∀ y s, y < yn → s < 72 → W y s = Wb I b hn st much y s) : ∀ (f : Nat) (i : Nat) (o : Nat → Nat) (w mm : Nat) (bo : Nat → Nat) (X : MI) (_ : i + f = 5040) (_ : rs n f o) (_ : ∀ k, k < n → o k < yn) (_ : w ≤ n + 1) (_ : mm ≤ 7000000) (_ : GI I yn n D o W w mm bo X), Wq MX3_goAbout 72 [some (.ref 80), some (.ref 58), some (.ref 76), some (.int (nI N)), some (.int much), some (.ref b), some (.int (nI n)), some (.int (nI i))] [] X r J (Rp (some (.int 1)) (goF I n (rn D d W n f o w mm bo)) r J) := by
  have h8 : yn ≤ 8 := h.1.2.2.1
  intro f
  induction f with
  | zero =>
    intro i o w mm bo X hik hrs
    exact hrs.elim
  | succ f ih =>
    intro i o w mm bo X hik hrs hoy hw hmm hX
    have hws := wsN_le D d o W n
    have hms := msN_le hDl (show d < 8 by omega) (fun k hk => (hX.2.2.1 k hk).1) n (Nat.le_refl _)
    have hw1 := uW_le (ms := msN D d o n) (mm := mm) hws hw
    have hm1 := uM_le (ws := wsN D d o W n) (w := w) (M := 7000000) (show msN D d o n ≤ 7000000 by omega) hmm
    refine x_iload (q := 74) dX3_goAbout_72 rfl rfl ?_
    refine x_sipush (5040) (q := 77) dX3_goAbout_74 rfl (by decide) ?_
    refine x_icmp_ge (t := 108) (q := 80) dX3_goAbout_77 (by decide) rfl (fun c77 => absurd c77 (nI_ge (b := 5040) (by omega) (by decide))) (fun c77 => ?_)
    refine x_aload_n (q := 81) dX3_goAbout_80 rfl rfl ?_
    refine x_aload_n (q := 82) dX3_goAbout_81 rfl rfl ?_
    refine x_aload_n (q := 83) dX3_goAbout_82 rfl rfl ?_
    refine x_iload (q := 85) dX3_goAbout_83 rfl rfl ?_
    refine x_iload (q := 87) dX3_goAbout_85 rfl rfl ?_
    refine q_callV (ci := 3) (N := 7) (T := TX3) (As := [.ref 58, .ref 76, .int (nI n), .int much]) (rest := []) (q := 90) dX3_goAbout_87 rfl okX3_tryOrder tw_946 rfl rfl (c_try J hr h hDl hoy hn7 hd hdp hm hW (by omega) hmm hX) rfl rfl (Nat.le_of_ble_eq_true rfl) ⟨by decide, by decide⟩ ⟨rfl, rfl⟩ (fun rv_ Y r_ J_ hv_ => ?_)
    obtain ⟨a1_, hY, a3_, a4_⟩ := hv_
    rw [a1_, a3_, a4_]
    show Wq MX3_goAbout 90 [some (.ref 80), some (.ref 58), some (.ref 76), some (.int (nI N)), some (.int much), some (.ref b), some (.int (nI n)), some (.int (nI i))] [] Y r J _
    refine x_aload_n (q := 91) dX3_goAbout_90 rfl rfl ?_
    refine x_iload (q := 93) dX3_goAbout_91 rfl rfl ?_
    refine q_callV (ci := 3) (N := 7) (T := TX3) (As := [.int (nI n)]) (rest := []) (q := 96) dX3_goAbout_93 rfl okX3_nextOrder tw_960 rfl rfl (c_xnx hn7 hY.2.2.1 r J) rfl rfl (Nat.le_of_ble_eq_true rfl) ⟨by decide, by decide⟩ ⟨rfl, rfl⟩ (fun rv_ V r_ J_ hv_ => ?_)
    obtain ⟨a1_, hV, a3_, a4_⟩ := hv_
    rw [a1_, a3_, a4_]
    show Wq MX3_goAbout 96 [some (.ref 80), some (.ref 58), some (.ref 76), some (.int (nI N)), some (.int much), some (.ref b), some (.int (nI n)), some (.int (nI i))] [.int (nxV n o)] V r J _
    refine x_if_ne (t := 102) (q := 99) dX3_goAbout_96 (by decide) rfl (fun c96 => ?_) (fun c96 => ?_)
    · obtain ⟨v1, ev1⟩ : ∃ y_ : Int32, y_ = (nI i) + 1 := ⟨_, rfl⟩
      refine x_iinc (v := v1) (L2 := [some (.ref 80), some (.ref 58), some (.ref 76), some (.int (nI N)), some (.int much), some (.ref b), some (.int (nI n)), some (.int v1)]) (q := 105) dX3_goAbout_102 rfl (by decide) rfl rfl (by rw [ev1]; rfl) rfl ?_
      refine x_goto (t := 72) dX3_goAbout_105 (by decide) ?_
      have er : rn D d W n (f + 1) o w mm bo = rn D d W n f (nxO n o) (uW (wsN D d o W n) (msN D d o n) w mm) (uM (wsN D d o W n) (msN D d o n) w mm) (uB (wsN D d o W n) (msN D d o n) w mm o bo) := if_neg c96
      rw [er, show v1 = nI (i + 1) by rw [ev1, nI_p1]]
      exact ih (i + 1) _ _ _ _ _ (by omega) (hrs.elim (fun z => absurd z c96) id) (nxO_b hoy) (by omega) hm1 (GI_nx hY hV.1 hV.2)
    · refine x_goto (t := 108) dX3_goAbout_99 (by decide) ?_
      refine x_aload_n (q := 109) dX3_goAbout_108 rfl rfl ?_
      refine x_iload (q := 111) dX3_goAbout_109 rfl rfl ?_
      refine q_pi (K := 4) (q := 114) dX3_goAbout_111 rfl cl_3 (by decide) tw_491 rfl rfl rfl rfl (fun I2 eI2 => ?_)
      refine x_iconst (1) (q := 115) dX3_goAbout_114 rfl (by decide) ?_
      refine q_zret dX3_goAbout_115 rfl (Or.inr rfl) ?_
      have er : rn D d W n (f + 1) o w mm bo = (uW (wsN D d o W n) (msN D d o n) w mm, uM (wsN D d o W n) (msN D d o n) w mm, uB (wsN D d o W n) (msN D d o n) w mm o bo) := if_pos c96
      rw [er, eI2]
      exact ⟨rfl, GI_end (o' := o) hY hV.1, rfl, rfl⟩
theorem nI_nm1 {d : Nat} (h : d < 2 ^ 31) : ¬ nI d = -1 := by
  intro e
  have : (nI d).toInt = (-1 : Int32).toInt := by rw [e]
  rw [nI_toInt h] at this
  have e2 : (-1 : Int32).toInt = -1 := by decide
  omega
set_option maxRecDepth 100000 in
theorem c_go_g {I : MI} {b yn wn hn sn st : Nat} {r : MR} (J : MJ) (hr : RefOk r b) (h : RelL I b yn wn hn sn st) {N : Nat} (hN : N < 2 ^ yn) (h7 : cnt N yn ≤ 7) {d : Nat} (hd : d < yn) (hdp : I b 15 = nI d) {much : Int32} (hm : 0 ≤ much.toInt ∧ much.toInt ≤ 99) (gd : gdP (fl3 yn (dz I) yn) d yn N) : Cq yX3_goAbout MX3_goAbout [.ref 80, .ref 58, .ref 76, .int (nI N), .int much] I r J (Rp (some (.int 1)) (goF I (cnt N yn) (rn (fl3 yn (dz I) yn) d (Wb I b hn st much) (cnt N yn) 5040 (OF N yn) (cnt N yn + 1) 0 (fun _ => 0))) r J) := by
  have hb28 := (refs_L hr).2
  have h8 : yn ≤ 8 := h.1.2.2.1
  have h256 : N < 256 := by have := p8 h8; omega
  have c8 : cnt N 8 = cnt N yn := by
    have := cnt_z hN (8 - yn)
    rw [show yn + (8 - yn) = 8 by omega] at this
    exact this
  have hbc : Cq yJ6_bitCount_0f7a4 MJ6_bitCount_0f7a4 [.int (nI N)] I r J (Rt (some (.int (nI (cnt N yn)))) I r J) := by rw [← c8]; exact c_bc h256 I r J
  refine cq_of [some (.ref 80), some (.ref 58), some (.ref 76), some (.int (nI N)), some (.int much), none, none, none] 3 (by decide +kernel) rfl rfl (Nat.le_of_ble_eq_true rfl) rfl ?_
  refine x_aload_n (q := 1) dX3_goAbout_0 rfl rfl ?_
  refine q_gr (K := 0) (b := b) (q := 4) dX3_goAbout_1 rfl cl_1 (by decide) tw_425 rfl rfl (by rw [← hr.2.1]; rfl) ?_
  refine x_astore (L2 := [some (.ref 80), some (.ref 58), some (.ref 76), some (.int (nI N)), some (.int much), some (.ref b), none, none]) (q := 6) dX3_goAbout_4 rfl (by decide) rfl rfl ?_
  refine x_iload_n (q := 7) dX3_goAbout_6 rfl rfl ?_
  refine q_callS (As := [.int (nI N)]) (rest := []) (q := 10) dX3_goAbout_7 rfl okJ6_bitCount_0f7a4 tw_924 hbc rfl rfl (Nat.le_of_ble_eq_true rfl) ⟨by decide, by decide⟩ ⟨rfl, rfl⟩ (fun rv_ I_ r_ J_ hv_ => ?_)
  obtain ⟨a1_, a2_, a3_, a4_⟩ := hv_
  rw [a1_, a2_, a3_, a4_]
  show Wq MX3_goAbout 10 [some (.ref 80), some (.ref 58), some (.ref 76), some (.int (nI N)), some (.int much), some (.ref b), none, none] [.int (nI (cnt N yn))] I r J _
  refine x_istore (L2 := [some (.ref 80), some (.ref 58), some (.ref 76), some (.int (nI N)), some (.int much), some (.ref b), some (.int (nI (cnt N yn))), none]) (q := 12) dX3_goAbout_10 rfl (by decide) rfl rfl ?_
  refine x_aload (q := 14) dX3_goAbout_12 rfl rfl ?_
  refine q_gi (K := 15) (q := 17) dX3_goAbout_14 rfl cl_5 (by decide) tw_222 h.1.1 rfl ?_
  refine x_iconst (-1) (q := 18) dX3_goAbout_17 rfl (by decide) ?_
  refine x_icmp_eq (t := 28) (q := 21) dX3_goAbout_18 (by decide) rfl (fun c18 => absurd c18 (by rw [hdp]; exact nI_nm1 (by omega))) (fun c18 => ?_)
  refine x_iload (q := 23) dX3_goAbout_21 rfl rfl ?_
  refine x_bipush (7) (q := 25) dX3_goAbout_23 rfl (by decide) ?_
  refine x_icmp_le (t := 30) (q := 28) dX3_goAbout_25 (by decide) rfl (fun c25 => ?_) (fun c25 => absurd c25 (fun q => q (nI_le (b := 7) (by omega) (by decide))))
  refine x_aload_n (q := 31) dX3_goAbout_30 rfl rfl ?_
  refine x_aload (q := 33) dX3_goAbout_31 rfl rfl ?_
  refine q_callV (ci := 3) (N := 7) (T := TX3) (As := [.ref b]) (rest := []) (q := 36) dX3_goAbout_33 rfl okX3_measure tw_930 rfl rfl (c_meas r J h hb28) rfl rfl (Nat.le_of_ble_eq_true rfl) ⟨by decide, by decide⟩ ⟨rfl, rfl⟩ (fun rv_ X r_ J_ hv_ => ?_)
  obtain ⟨a1_, hX, a3_, a4_⟩ := hv_
  rw [a1_, a3_, a4_]
  have hkX : Kr I X := Kr_1 hX.1 (by omega)
  show Wq MX3_goAbout 36 [some (.ref 80), some (.ref 58), some (.ref 76), some (.int (nI N)), some (.int much), some (.ref b), some (.int (nI (cnt N yn))), none] [] X r J _
  refine x_aload_n (q := 37) dX3_goAbout_36 rfl rfl ?_
  refine x_aload (q := 39) dX3_goAbout_37 rfl rfl ?_
  refine x_iload_n (q := 40) dX3_goAbout_39 rfl rfl ?_
  refine q_callV (ci := 3) (N := 7) (T := TX3) (As := [.ref b, .int (nI N)]) (rest := []) (q := 43) dX3_goAbout_40 rfl okX3_lineUp tw_939 rfl rfl (c_lu r J (RelL_r hkX hb28 h) hb28 hX.2 (fl3_l (dz_l h.2.1 h8 h.2.2.2.1) yn) hd (by rw [hkX.L hb28 b ⟨by omega, by omega⟩]; exact hdp) h256 h7 (g := 1) ⟨fun _ => rfl, fun z => absurd gd z⟩) rfl rfl (Nat.le_of_ble_eq_true rfl) ⟨by decide, by decide⟩ ⟨rfl, rfl⟩ (fun rv_ Y r_ J_ hv_ => ?_)
  obtain ⟨a1_, hY, a3_, a4_⟩ := hv_
  rw [a1_, a3_, a4_]
  have hkY : Kr I Y := hkX.tr (Kr_1 hY.1 (by omega))
  show Wq MX3_goAbout 43 [some (.ref 80), some (.ref 58), some (.ref 76), some (.int (nI N)), some (.int much), some (.ref b), some (.int (nI (cnt N yn))), none] [.int 1] Y r J _
  refine x_if_ne (t := 48) (q := 46) dX3_goAbout_43 (by decide) rfl (fun c43 => ?_) (fun c43 => absurd c43 ((by decide)))
  refine x_aload_n (q := 49) dX3_goAbout_48 rfl rfl ?_
  refine q_gr (K := 1) (b := 82) (q := 52) dX3_goAbout_49 rfl cl_3 (by decide) tw_487 rfl rfl rfl ?_
  refine x_iconst (0) (q := 53) dX3_goAbout_52 rfl (by decide) ?_
  refine q_callS (As := [.ref 82, .int 0]) (rest := []) (q := 56) dX3_goAbout_53 rfl okJ7_fill_031fb tw_943 (c_fill82 0 Y r J) rfl rfl (Nat.le_of_ble_eq_true rfl) ⟨by decide, by decide⟩ ⟨rfl, rfl⟩ (fun rv_ I_ r_ J_ hv_ => ?_)
  obtain ⟨a1_, a2_, a3_, a4_⟩ := hv_
  rw [a1_, a2_, a3_, a4_]
  show Wq MX3_goAbout 56 [some (.ref 80), some (.ref 58), some (.ref 76), some (.int (nI N)), some (.int much), some (.ref b), some (.int (nI (cnt N yn))), none] [] (flI Y 82 576 ((0 : Int32).toInt8.toInt32)) r J _
  refine x_aload_n (q := 57) dX3_goAbout_56 rfl rfl ?_
  refine x_iload (q := 59) dX3_goAbout_57 rfl rfl ?_
  refine x_iconst (1) (q := 60) dX3_goAbout_59 rfl (by decide) ?_
  refine x_iadd (q := 61) dX3_goAbout_60 rfl ?_
  refine q_pi (K := 5) (q := 64) dX3_goAbout_61 rfl cl_3 (by decide) tw_493 rfl rfl rfl rfl (fun I1 eI1 => ?_)
  refine x_aload_n (q := 65) dX3_goAbout_64 rfl rfl ?_
  refine x_iconst (0) (q := 66) dX3_goAbout_65 rfl (by decide) ?_
  refine q_pi (K := 6) (q := 69) dX3_goAbout_66 rfl cl_3 (by decide) tw_495 rfl rfl rfl rfl (fun I2 eI2 => ?_)
  refine x_iconst (0) (q := 70) dX3_goAbout_69 rfl (by decide) ?_
  refine x_istore (L2 := [some (.ref 80), some (.ref 58), some (.ref 76), some (.int (nI N)), some (.int much), some (.ref b), some (.int (nI (cnt N yn))), some (.int 0)]) (q := 72) dX3_goAbout_70 rfl (by decide) rfl rfl ?_
  refine l_go J hr h (n := cnt N yn) (fl3_l (dz_l h.2.1 h8 h.2.2.2.1) yn) h7 hd hdp hm (W := Wb I b hn st much) (fun _ _ _ _ => rfl) 5040 0 (OF N yn) (cnt N yn + 1) 0 (fun _ => 0) _ rfl (rs_OF h7) (fun k hk => OF_lo N yn k hk) (Nat.le_refl _) (by omega) ⟨?_, fun j hj => ?_, fun k hk => ?_, fun y s hy hs => ?_, ?_, ?_, fun q => absurd q (by omega)⟩
  · rw [eI2, eI1]
    exact fun c j q1 q2 q3 q4 q5 => by rw [upc q4, upc q4, flI_o (fun e => q1 (by unfold scr; omega))]; exact hkY c j q1 q2 q3 q4 q5
  · rw [eI2, eI1, upc (by decide), upc (by decide), flI_o (by decide), hY.1 81 (by decide)]; exact hX.2 j hj
  · rw [eI2, eI1, upc (by decide), upc (by decide), flI_o (by decide)]; exact hY.2 gd k hk
  · left; rw [eI2, eI1, upc (by decide), upc (by decide), flI_i (by omega)]; rfl
  · rw [eI2, eI1, ups (by decide), upq, nI_p1]
  · rw [eI2, upq]; rfl
set_option maxRecDepth 100000 in
theorem c_go_b {I : MI} {b yn wn hn sn st : Nat} {r : MR} (J : MJ) (hr : RefOk r b) (h : RelL I b yn wn hn sn st) {N : Nat} (hN : N < 2 ^ yn) (h7 : cnt N yn ≤ 7) {d : Nat} (hd : d < yn) (hdp : I b 15 = nI d) {much : Int32} (hm : 0 ≤ much.toInt ∧ much.toInt ≤ 99) (gd : ¬ gdP (fl3 yn (dz I) yn) d yn N) : Cq yX3_goAbout MX3_goAbout [.ref 80, .ref 58, .ref 76, .int (nI N), .int much] I r J (Rp (some (.int 0)) (fun Y => Kr I Y ∧ Y 80 = I 80) r J) := by
  have hb28 := (refs_L hr).2
  have h8 : yn ≤ 8 := h.1.2.2.1
  have h256 : N < 256 := by have := p8 h8; omega
  have c8 : cnt N 8 = cnt N yn := by
    have := cnt_z hN (8 - yn)
    rw [show yn + (8 - yn) = 8 by omega] at this
    exact this
  have hbc : Cq yJ6_bitCount_0f7a4 MJ6_bitCount_0f7a4 [.int (nI N)] I r J (Rt (some (.int (nI (cnt N yn)))) I r J) := by rw [← c8]; exact c_bc h256 I r J
  refine cq_of [some (.ref 80), some (.ref 58), some (.ref 76), some (.int (nI N)), some (.int much), none, none, none] 3 (by decide +kernel) rfl rfl (Nat.le_of_ble_eq_true rfl) rfl ?_
  refine x_aload_n (q := 1) dX3_goAbout_0 rfl rfl ?_
  refine q_gr (K := 0) (b := b) (q := 4) dX3_goAbout_1 rfl cl_1 (by decide) tw_425 rfl rfl (by rw [← hr.2.1]; rfl) ?_
  refine x_astore (L2 := [some (.ref 80), some (.ref 58), some (.ref 76), some (.int (nI N)), some (.int much), some (.ref b), none, none]) (q := 6) dX3_goAbout_4 rfl (by decide) rfl rfl ?_
  refine x_iload_n (q := 7) dX3_goAbout_6 rfl rfl ?_
  refine q_callS (As := [.int (nI N)]) (rest := []) (q := 10) dX3_goAbout_7 rfl okJ6_bitCount_0f7a4 tw_924 hbc rfl rfl (Nat.le_of_ble_eq_true rfl) ⟨by decide, by decide⟩ ⟨rfl, rfl⟩ (fun rv_ I_ r_ J_ hv_ => ?_)
  obtain ⟨a1_, a2_, a3_, a4_⟩ := hv_
  rw [a1_, a2_, a3_, a4_]
  show Wq MX3_goAbout 10 [some (.ref 80), some (.ref 58), some (.ref 76), some (.int (nI N)), some (.int much), some (.ref b), none, none] [.int (nI (cnt N yn))] I r J _
  refine x_istore (L2 := [some (.ref 80), some (.ref 58), some (.ref 76), some (.int (nI N)), some (.int much), some (.ref b), some (.int (nI (cnt N yn))), none]) (q := 12) dX3_goAbout_10 rfl (by decide) rfl rfl ?_
  refine x_aload (q := 14) dX3_goAbout_12 rfl rfl ?_
  refine q_gi (K := 15) (q := 17) dX3_goAbout_14 rfl cl_5 (by decide) tw_222 h.1.1 rfl ?_
  refine x_iconst (-1) (q := 18) dX3_goAbout_17 rfl (by decide) ?_
  refine x_icmp_eq (t := 28) (q := 21) dX3_goAbout_18 (by decide) rfl (fun c18 => absurd c18 (by rw [hdp]; exact nI_nm1 (by omega))) (fun c18 => ?_)
  refine x_iload (q := 23) dX3_goAbout_21 rfl rfl ?_
  refine x_bipush (7) (q := 25) dX3_goAbout_23 rfl (by decide) ?_
  refine x_icmp_le (t := 30) (q := 28) dX3_goAbout_25 (by decide) rfl (fun c25 => ?_) (fun c25 => absurd c25 (fun q => q (nI_le (b := 7) (by omega) (by decide))))
  refine x_aload_n (q := 31) dX3_goAbout_30 rfl rfl ?_
  refine x_aload (q := 33) dX3_goAbout_31 rfl rfl ?_
  refine q_callV (ci := 3) (N := 7) (T := TX3) (As := [.ref b]) (rest := []) (q := 36) dX3_goAbout_33 rfl okX3_measure tw_930 rfl rfl (c_meas r J h hb28) rfl rfl (Nat.le_of_ble_eq_true rfl) ⟨by decide, by decide⟩ ⟨rfl, rfl⟩ (fun rv_ X r_ J_ hv_ => ?_)
  obtain ⟨a1_, hX, a3_, a4_⟩ := hv_
  rw [a1_, a3_, a4_]
  have hkX : Kr I X := Kr_1 hX.1 (by omega)
  show Wq MX3_goAbout 36 [some (.ref 80), some (.ref 58), some (.ref 76), some (.int (nI N)), some (.int much), some (.ref b), some (.int (nI (cnt N yn))), none] [] X r J _
  refine x_aload_n (q := 37) dX3_goAbout_36 rfl rfl ?_
  refine x_aload (q := 39) dX3_goAbout_37 rfl rfl ?_
  refine x_iload_n (q := 40) dX3_goAbout_39 rfl rfl ?_
  refine q_callV (ci := 3) (N := 7) (T := TX3) (As := [.ref b, .int (nI N)]) (rest := []) (q := 43) dX3_goAbout_40 rfl okX3_lineUp tw_939 rfl rfl (c_lu r J (RelL_r hkX hb28 h) hb28 hX.2 (fl3_l (dz_l h.2.1 h8 h.2.2.2.1) yn) hd (by rw [hkX.L hb28 b ⟨by omega, by omega⟩]; exact hdp) h256 h7 (g := 0) ⟨fun z => absurd z gd, fun _ => rfl⟩) rfl rfl (Nat.le_of_ble_eq_true rfl) ⟨by decide, by decide⟩ ⟨rfl, rfl⟩ (fun rv_ Y r_ J_ hv_ => ?_)
  obtain ⟨a1_, hY, a3_, a4_⟩ := hv_
  rw [a1_, a3_, a4_]
  have hkY : Kr I Y := hkX.tr (Kr_1 hY.1 (by omega))
  show Wq MX3_goAbout 43 [some (.ref 80), some (.ref 58), some (.ref 76), some (.int (nI N)), some (.int much), some (.ref b), some (.int (nI (cnt N yn))), none] [.int 0] Y r J _
  refine x_if_ne (t := 48) (q := 46) dX3_goAbout_43 (by decide) rfl (fun c43 => absurd c43 ((by decide))) (fun c43 => ?_)
  refine x_iconst (0) (q := 47) dX3_goAbout_46 rfl (by decide) ?_
  refine q_zret dX3_goAbout_47 rfl (Or.inl rfl) ?_
  exact ⟨rfl, ⟨hkY, by rw [hY.1 80 (by decide), hX.1 80 (by decide)]⟩, rfl, rfl⟩
set_option maxRecDepth 100000 in
theorem c_go_n {I : MI} {b yn wn hn sn st : Nat} {r : MR} (J : MJ) (hr : RefOk r b) (h : RelL I b yn wn hn sn st) {N : Nat} (hN : N < 2 ^ yn) {much : Int32} (hno : I b 15 = -1 ∨ 7 < cnt N yn) : Cq yX3_goAbout MX3_goAbout [.ref 80, .ref 58, .ref 76, .int (nI N), .int much] I r J (Rp (some (.int 0)) (fun Y => Kr I Y ∧ Y 80 = I 80) r J) := by
  have hb28 := (refs_L hr).2
  have h8 : yn ≤ 8 := h.1.2.2.1
  have h256 : N < 256 := by have := p8 h8; omega
  have c8 : cnt N 8 = cnt N yn := by
    have := cnt_z hN (8 - yn)
    rw [show yn + (8 - yn) = 8 by omega] at this
    exact this
  have hbc : Cq yJ6_bitCount_0f7a4 MJ6_bitCount_0f7a4 [.int (nI N)] I r J (Rt (some (.int (nI (cnt N yn)))) I r J) := by rw [← c8]; exact c_bc h256 I r J
  refine cq_of [some (.ref 80), some (.ref 58), some (.ref 76), some (.int (nI N)), some (.int much), none, none, none] 3 (by decide +kernel) rfl rfl (Nat.le_of_ble_eq_true rfl) rfl ?_
  refine x_aload_n (q := 1) dX3_goAbout_0 rfl rfl ?_
  refine q_gr (K := 0) (b := b) (q := 4) dX3_goAbout_1 rfl cl_1 (by decide) tw_425 rfl rfl (by rw [← hr.2.1]; rfl) ?_
  refine x_astore (L2 := [some (.ref 80), some (.ref 58), some (.ref 76), some (.int (nI N)), some (.int much), some (.ref b), none, none]) (q := 6) dX3_goAbout_4 rfl (by decide) rfl rfl ?_
  refine x_iload_n (q := 7) dX3_goAbout_6 rfl rfl ?_
  refine q_callS (As := [.int (nI N)]) (rest := []) (q := 10) dX3_goAbout_7 rfl okJ6_bitCount_0f7a4 tw_924 hbc rfl rfl (Nat.le_of_ble_eq_true rfl) ⟨by decide, by decide⟩ ⟨rfl, rfl⟩ (fun rv_ I_ r_ J_ hv_ => ?_)
  obtain ⟨a1_, a2_, a3_, a4_⟩ := hv_
  rw [a1_, a2_, a3_, a4_]
  show Wq MX3_goAbout 10 [some (.ref 80), some (.ref 58), some (.ref 76), some (.int (nI N)), some (.int much), some (.ref b), none, none] [.int (nI (cnt N yn))] I r J _
  refine x_istore (L2 := [some (.ref 80), some (.ref 58), some (.ref 76), some (.int (nI N)), some (.int much), some (.ref b), some (.int (nI (cnt N yn))), none]) (q := 12) dX3_goAbout_10 rfl (by decide) rfl rfl ?_
  refine x_aload (q := 14) dX3_goAbout_12 rfl rfl ?_
  refine q_gi (K := 15) (q := 17) dX3_goAbout_14 rfl cl_5 (by decide) tw_222 h.1.1 rfl ?_
  refine x_iconst (-1) (q := 18) dX3_goAbout_17 rfl (by decide) ?_
  refine x_icmp_eq (t := 28) (q := 21) dX3_goAbout_18 (by decide) rfl (fun c18 => ?_) (fun c18 => ?_)
  · refine x_iconst (0) (q := 29) dX3_goAbout_28 rfl (by decide) ?_
    refine q_zret dX3_goAbout_29 rfl (Or.inl rfl) ?_
    exact ⟨rfl, ⟨fun _ _ _ _ _ _ _ => rfl, rfl⟩, rfl, rfl⟩
  · refine x_iload (q := 23) dX3_goAbout_21 rfl rfl ?_
    refine x_bipush (7) (q := 25) dX3_goAbout_23 rfl (by decide) ?_
    refine x_icmp_le (t := 30) (q := 28) dX3_goAbout_25 (by decide) rfl (fun c25 => ?_) (fun c25 => ?_)
    · rcases hno with q | q
      · exact absurd q c18
      · exact absurd c25 (nI_ge (a := 7) q (by have := cnt_le N yn; omega))
    · refine x_iconst (0) (q := 29) dX3_goAbout_28 rfl (by decide) ?_
      refine q_zret dX3_goAbout_29 rfl (Or.inl rfl) ?_
      exact ⟨rfl, ⟨fun _ _ _ _ _ _ _ => rfl, rfl⟩, rfl, rfl⟩
