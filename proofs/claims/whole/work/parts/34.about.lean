theorem w11 (w : Int32) : w = 0 ∨ w = 1 ∨ w = 2 ∨ w = 3 ∨ w = 4 ∨ w = 5 ∨ w = 6 ∨ w = 7 ∨ w = 8 ∨ w = 9 ∨ w = 10 ∨ (w.toInt < 0 ∨ 10 < w.toInt) := by
  by_cases h : w.toInt < 0 ∨ 10 < w.toInt
  · simp [h]
  · have : w.toInt = 0 ∨ w.toInt = 1 ∨ w.toInt = 2 ∨ w.toInt = 3 ∨ w.toInt = 4 ∨ w.toInt = 5 ∨ w.toInt = 6 ∨ w.toInt = 7 ∨ w.toInt = 8 ∨ w.toInt = 9 ∨ w.toInt = 10 := by omega
    have key : ∀ k : Int32, w.toInt = k.toInt → w = k := fun k q => Int32.toInt_inj.mp q
    rcases this with q | q | q | q | q | q | q | q | q | q | q
    · exact Or.inl (key 0 q)
    · exact Or.inr (Or.inl (key 1 q))
    · exact Or.inr (Or.inr (Or.inl (key 2 q)))
    · exact Or.inr (Or.inr (Or.inr (Or.inl (key 3 q))))
    · exact Or.inr (Or.inr (Or.inr (Or.inr (Or.inl (key 4 q)))))
    · exact Or.inr (Or.inr (Or.inr (Or.inr (Or.inr (Or.inl (key 5 q))))))
    · exact Or.inr (Or.inr (Or.inr (Or.inr (Or.inr (Or.inr (Or.inl (key 6 q)))))))
    · exact Or.inr (Or.inr (Or.inr (Or.inr (Or.inr (Or.inr (Or.inr (Or.inl (key 7 q))))))))
    · exact Or.inr (Or.inr (Or.inr (Or.inr (Or.inr (Or.inr (Or.inr (Or.inr (Or.inl (key 8 q)))))))))
    · exact Or.inr (Or.inr (Or.inr (Or.inr (Or.inr (Or.inr (Or.inr (Or.inr (Or.inr (Or.inl (key 9 q))))))))))
    · exact Or.inr (Or.inr (Or.inr (Or.inr (Or.inr (Or.inr (Or.inr (Or.inr (Or.inr (Or.inr (Or.inl (key 10 q)))))))))))
def abF (f : Nat → Int32) (w : Int32) : Int32 := if w = 0 then f 0 else if w = 1 then f 1 else if w = 2 then f 2 else if w = 3 then f 3 else if w = 4 then f 4 else if w = 5 then f 5 else if w = 6 then f 6 else if w = 7 then f 7 else if w = 8 then f 8 else if w = 9 then f 9 else if w = 10 then f 10 else -1
theorem abF_out {f : Nat → Int32} {w : Int32} (h : w.toInt < 0 ∨ 10 < w.toInt) : abF f w = -1 := by
  have key : ∀ k : Int32, 0 ≤ k.toInt → k.toInt ≤ 10 → ¬ w = k := fun k h1 h2 q => by rw [q] at h; omega
  unfold abF
  rw [if_neg (key 0 (by decide) (by decide)), if_neg (key 1 (by decide) (by decide)), if_neg (key 2 (by decide) (by decide)), if_neg (key 3 (by decide) (by decide)), if_neg (key 4 (by decide) (by decide)), if_neg (key 5 (by decide) (by decide)), if_neg (key 6 (by decide) (by decide)), if_neg (key 7 (by decide) (by decide)), if_neg (key 8 (by decide) (by decide)), if_neg (key 9 (by decide) (by decide)), if_neg (key 10 (by decide) (by decide))]
def abX (I : MI) (b : Nat) : Nat → Int32 := fun k => ([I b 1, I b 5, I b 9, I b 12, I 58 2, I 58 4, I 88 3, I 0 11, I 0 1, I b 15, I 80 4] : List Int32).getD k 0
def abM (I : MI) : Nat → Int32 := fun k => ([I 100 41, I 100 42, I 100 43, I 100 44, I 100 55, I 100 57, I 100 72, I 100 73, I 100 1, I 100 47, I 100 61] : List Int32).getD k 0
set_option maxRecDepth 100000 in
theorem c_Xabout (I : MI) (r : MR) (J : MJ) (hb : SH (r 0) = (15, 18)) (w : Int32) : Cq yX11_about MX11_about [.ref 0, .int w] I r J (Rt (some (.int (abF (abX I (r 0)) w))) I r J) := by
  refine cq_of [some (.ref 0), some (.int w)] 0 (by decide +kernel) rfl rfl (Nat.le_of_ble_eq_true rfl) rfl ?_
  refine x_iload_n (q := 1) dX11_about_0 rfl rfl ?_
  rcases w11 w with rfl | rfl | rfl | rfl | rfl | rfl | rfl | rfl | rfl | rfl | rfl | hw
  · refine x_swIn (off := 59) (t := 60) dX11_about_1 (by decide) (by decide) rfl (by decide) ?_
    refine x_aload_n (q := 61) dX11_about_60 rfl rfl ?_
    refine q_gr (K := 2) (b := (r 0)) (q := 64) dX11_about_61 rfl cl_11 (by decide) tw_569 rfl rfl rfl ?_
    refine q_gi (K := 1) (q := 67) dX11_about_64 rfl cl_5 (by decide) tw_169 hb rfl ?_
    refine q_iret dX11_about_67 rfl ?_
    exact ⟨rfl, rfl, rfl, rfl⟩
  · refine x_swIn (off := 67) (t := 68) dX11_about_1 (by decide) (by decide) rfl (by decide) ?_
    refine x_aload_n (q := 69) dX11_about_68 rfl rfl ?_
    refine q_gr (K := 2) (b := (r 0)) (q := 72) dX11_about_69 rfl cl_11 (by decide) tw_569 rfl rfl rfl ?_
    refine q_gi (K := 5) (q := 75) dX11_about_72 rfl cl_5 (by decide) tw_188 hb rfl ?_
    refine q_iret dX11_about_75 rfl ?_
    exact ⟨rfl, rfl, rfl, rfl⟩
  · refine x_swIn (off := 75) (t := 76) dX11_about_1 (by decide) (by decide) rfl (by decide) ?_
    refine x_aload_n (q := 77) dX11_about_76 rfl rfl ?_
    refine q_gr (K := 2) (b := (r 0)) (q := 80) dX11_about_77 rfl cl_11 (by decide) tw_569 rfl rfl rfl ?_
    refine q_gi (K := 9) (q := 83) dX11_about_80 rfl cl_5 (by decide) tw_200 hb rfl ?_
    refine q_iret dX11_about_83 rfl ?_
    exact ⟨rfl, rfl, rfl, rfl⟩
  · refine x_swIn (off := 83) (t := 84) dX11_about_1 (by decide) (by decide) rfl (by decide) ?_
    refine x_aload_n (q := 85) dX11_about_84 rfl rfl ?_
    refine q_gr (K := 2) (b := (r 0)) (q := 88) dX11_about_85 rfl cl_11 (by decide) tw_569 rfl rfl rfl ?_
    refine q_gi (K := 12) (q := 91) dX11_about_88 rfl cl_5 (by decide) tw_214 hb rfl ?_
    refine q_iret dX11_about_91 rfl ?_
    exact ⟨rfl, rfl, rfl, rfl⟩
  · refine x_swIn (off := 91) (t := 92) dX11_about_1 (by decide) (by decide) rfl (by decide) ?_
    refine x_aload_n (q := 93) dX11_about_92 rfl rfl ?_
    refine q_gr (K := 5) (b := 58) (q := 96) dX11_about_93 rfl cl_11 (by decide) tw_572 rfl rfl rfl ?_
    refine q_gi (K := 2) (q := 99) dX11_about_96 rfl cl_1 (by decide) tw_431 rfl rfl ?_
    refine q_iret dX11_about_99 rfl ?_
    exact ⟨rfl, rfl, rfl, rfl⟩
  · refine x_swIn (off := 99) (t := 100) dX11_about_1 (by decide) (by decide) rfl (by decide) ?_
    refine x_aload_n (q := 101) dX11_about_100 rfl rfl ?_
    refine q_gr (K := 5) (b := 58) (q := 104) dX11_about_101 rfl cl_11 (by decide) tw_572 rfl rfl rfl ?_
    refine q_gi (K := 4) (q := 107) dX11_about_104 rfl cl_1 (by decide) tw_435 rfl rfl ?_
    refine q_iret dX11_about_107 rfl ?_
    exact ⟨rfl, rfl, rfl, rfl⟩
  · refine x_swIn (off := 107) (t := 108) dX11_about_1 (by decide) (by decide) rfl (by decide) ?_
    refine x_aload_n (q := 109) dX11_about_108 rfl rfl ?_
    refine q_gr (K := 10) (b := 88) (q := 112) dX11_about_109 rfl cl_11 (by decide) tw_577 rfl rfl rfl ?_
    refine q_gi (K := 3) (q := 115) dX11_about_112 rfl cl_2 (by decide) tw_537 rfl rfl ?_
    refine q_iret dX11_about_115 rfl ?_
    exact ⟨rfl, rfl, rfl, rfl⟩
  · refine x_swIn (off := 115) (t := 116) dX11_about_1 (by decide) (by decide) rfl (by decide) ?_
    refine x_aload_n (q := 117) dX11_about_116 rfl rfl ?_
    refine q_gi (K := 11) (q := 120) dX11_about_117 rfl cl_11 (by decide) tw_578 rfl rfl ?_
    refine q_iret dX11_about_120 rfl ?_
    exact ⟨rfl, rfl, rfl, rfl⟩
  · refine x_swIn (off := 120) (t := 121) dX11_about_1 (by decide) (by decide) rfl (by decide) ?_
    refine x_aload_n (q := 122) dX11_about_121 rfl rfl ?_
    refine q_gi (K := 1) (q := 125) dX11_about_122 rfl cl_11 (by decide) tw_568 rfl rfl ?_
    refine q_iret dX11_about_125 rfl ?_
    exact ⟨rfl, rfl, rfl, rfl⟩
  · refine x_swIn (off := 125) (t := 126) dX11_about_1 (by decide) (by decide) rfl (by decide) ?_
    refine x_aload_n (q := 127) dX11_about_126 rfl rfl ?_
    refine q_gr (K := 2) (b := (r 0)) (q := 130) dX11_about_127 rfl cl_11 (by decide) tw_569 rfl rfl rfl ?_
    refine q_gi (K := 15) (q := 133) dX11_about_130 rfl cl_5 (by decide) tw_224 hb rfl ?_
    refine q_iret dX11_about_133 rfl ?_
    exact ⟨rfl, rfl, rfl, rfl⟩
  · refine x_swIn (off := 133) (t := 134) dX11_about_1 (by decide) (by decide) rfl (by decide) ?_
    refine x_aload_n (q := 135) dX11_about_134 rfl rfl ?_
    refine q_gr (K := 8) (b := 80) (q := 138) dX11_about_135 rfl cl_11 (by decide) tw_575 rfl rfl rfl ?_
    refine q_gi (K := 4) (q := 141) dX11_about_138 rfl cl_3 (by decide) tw_492 rfl rfl ?_
    refine q_iret dX11_about_141 rfl ?_
    exact ⟨rfl, rfl, rfl, rfl⟩
  · refine x_swOut (t := 142) dX11_about_1 hw (by decide) ?_
    refine x_iconst (-1) (q := 143) dX11_about_142 rfl (by decide) ?_
    refine q_iret dX11_about_143 rfl ?_
    refine ⟨?_, rfl, rfl, rfl⟩
    rw [abF_out hw]
set_option maxRecDepth 100000 in
theorem c_Mabout (I : MI) (r : MR) (J : MJ) (w : Int32) : Cq yX12_about MX12_about [.ref 100, .int w] I r J (Rt (some (.int (abF (abM I) w))) I r J) := by
  refine cq_of [some (.ref 100), some (.int w)] 0 (by decide +kernel) rfl rfl (Nat.le_of_ble_eq_true rfl) rfl ?_
  refine x_iload_n (q := 1) dX12_about_0 rfl rfl ?_
  rcases w11 w with rfl | rfl | rfl | rfl | rfl | rfl | rfl | rfl | rfl | rfl | rfl | hw
  · refine x_swIn (off := 59) (t := 60) dX12_about_1 (by decide) (by decide) rfl (by decide) ?_
    refine x_aload_n (q := 61) dX12_about_60 rfl rfl ?_
    refine q_gi (K := 41) (q := 64) dX12_about_61 rfl cl_12 (by decide) tw_1123 rfl rfl ?_
    refine q_iret dX12_about_64 rfl ?_
    exact ⟨rfl, rfl, rfl, rfl⟩
  · refine x_swIn (off := 64) (t := 65) dX12_about_1 (by decide) (by decide) rfl (by decide) ?_
    refine x_aload_n (q := 66) dX12_about_65 rfl rfl ?_
    refine q_gi (K := 42) (q := 69) dX12_about_66 rfl cl_12 (by decide) tw_1124 rfl rfl ?_
    refine q_iret dX12_about_69 rfl ?_
    exact ⟨rfl, rfl, rfl, rfl⟩
  · refine x_swIn (off := 69) (t := 70) dX12_about_1 (by decide) (by decide) rfl (by decide) ?_
    refine x_aload_n (q := 71) dX12_about_70 rfl rfl ?_
    refine q_gi (K := 43) (q := 74) dX12_about_71 rfl cl_12 (by decide) tw_1125 rfl rfl ?_
    refine q_iret dX12_about_74 rfl ?_
    exact ⟨rfl, rfl, rfl, rfl⟩
  · refine x_swIn (off := 74) (t := 75) dX12_about_1 (by decide) (by decide) rfl (by decide) ?_
    refine x_aload_n (q := 76) dX12_about_75 rfl rfl ?_
    refine q_gi (K := 44) (q := 79) dX12_about_76 rfl cl_12 (by decide) tw_1126 rfl rfl ?_
    refine q_iret dX12_about_79 rfl ?_
    exact ⟨rfl, rfl, rfl, rfl⟩
  · refine x_swIn (off := 79) (t := 80) dX12_about_1 (by decide) (by decide) rfl (by decide) ?_
    refine x_aload_n (q := 81) dX12_about_80 rfl rfl ?_
    refine q_gi (K := 55) (q := 84) dX12_about_81 rfl cl_12 (by decide) tw_1137 rfl rfl ?_
    refine q_iret dX12_about_84 rfl ?_
    exact ⟨rfl, rfl, rfl, rfl⟩
  · refine x_swIn (off := 84) (t := 85) dX12_about_1 (by decide) (by decide) rfl (by decide) ?_
    refine x_aload_n (q := 86) dX12_about_85 rfl rfl ?_
    refine q_gi (K := 57) (q := 89) dX12_about_86 rfl cl_12 (by decide) tw_1139 rfl rfl ?_
    refine q_iret dX12_about_89 rfl ?_
    exact ⟨rfl, rfl, rfl, rfl⟩
  · refine x_swIn (off := 89) (t := 90) dX12_about_1 (by decide) (by decide) rfl (by decide) ?_
    refine x_aload_n (q := 91) dX12_about_90 rfl rfl ?_
    refine q_gi (K := 72) (q := 94) dX12_about_91 rfl cl_12 (by decide) tw_1154 rfl rfl ?_
    refine q_iret dX12_about_94 rfl ?_
    exact ⟨rfl, rfl, rfl, rfl⟩
  · refine x_swIn (off := 94) (t := 95) dX12_about_1 (by decide) (by decide) rfl (by decide) ?_
    refine x_aload_n (q := 96) dX12_about_95 rfl rfl ?_
    refine q_gi (K := 73) (q := 99) dX12_about_96 rfl cl_12 (by decide) tw_1155 rfl rfl ?_
    refine q_iret dX12_about_99 rfl ?_
    exact ⟨rfl, rfl, rfl, rfl⟩
  · refine x_swIn (off := 99) (t := 100) dX12_about_1 (by decide) (by decide) rfl (by decide) ?_
    refine x_aload_n (q := 101) dX12_about_100 rfl rfl ?_
    refine q_gi (K := 1) (q := 104) dX12_about_101 rfl cl_12 (by decide) tw_1083 rfl rfl ?_
    refine q_iret dX12_about_104 rfl ?_
    exact ⟨rfl, rfl, rfl, rfl⟩
  · refine x_swIn (off := 104) (t := 105) dX12_about_1 (by decide) (by decide) rfl (by decide) ?_
    refine x_aload_n (q := 106) dX12_about_105 rfl rfl ?_
    refine q_gi (K := 47) (q := 109) dX12_about_106 rfl cl_12 (by decide) tw_1129 rfl rfl ?_
    refine q_iret dX12_about_109 rfl ?_
    exact ⟨rfl, rfl, rfl, rfl⟩
  · refine x_swIn (off := 109) (t := 110) dX12_about_1 (by decide) (by decide) rfl (by decide) ?_
    refine x_aload_n (q := 111) dX12_about_110 rfl rfl ?_
    refine q_gi (K := 61) (q := 114) dX12_about_111 rfl cl_12 (by decide) tw_1143 rfl rfl ?_
    refine q_iret dX12_about_114 rfl ?_
    exact ⟨rfl, rfl, rfl, rfl⟩
  · refine x_swOut (t := 115) dX12_about_1 hw (by decide) ?_
    refine x_iconst (-1) (q := 116) dX12_about_115 rfl (by decide) ?_
    refine q_iret dX12_about_116 rfl ?_
    refine ⟨?_, rfl, rfl, rfl⟩
    rw [abF_out hw]
theorem op_about (w : Int32) : OpOk yX11_about MX11_about yX12_about MX12_about [.int w] := by
  intro I r J hrel
  have hre2 := hrel
  obtain ⟨b, yn, wn, hn, sn, st, hr, hl, hR, hJ⟩ := hrel
  refine op_put (c_Xabout I r J (by rw [hr.1]; exact (refs_L hr).1) w) ?_ hre2
  have k := c_Mabout I r J w
  have e : abM I = abX I (r 0) := by
    rw [hr.1]
    obtain ⟨l1, l2, l3, l4, l5, l6, l7⟩ := hl
    obtain ⟨⟨tl, t1, t2, t3, t4⟩, r2, r3, ⟨c, o1, o2, o3, o4⟩⟩ := hR
    obtain ⟨gn, g1, g2, g3, g4⟩ := l6
    unfold abM abX
    rw [l3.1, l4.1, l3.2.1, l4.2.1, l5.2.1, l5.2.2.2.2.2.1, g3, r3.1, t3, l4.2.2.2.2.1, o3, l1.2.1, l2.1, l1.2.2.2.1, l2.2.2.1, l5.1, g2, t2, o2]
  rw [e] at k
  exact k
set_option maxRecDepth 100000 in
theorem c_Xlies_g {I : MI} {c k : Nat} (r : MR) (J : MJ) (e1 : I 80 4 = nI c) (hc : c ≤ 7) (hk : k < c) : Cq yX11_lies MX11_lies [.ref 0, .int (nI k)] I r J (Rt (some (.int (I 84 k))) I r J) := by
  refine cq_of [some (.ref 0), some (.int (nI k))] 0 (by decide +kernel) rfl rfl (Nat.le_of_ble_eq_true rfl) rfl ?_
  refine x_iload_n (q := 1) dX11_lies_0 rfl rfl ?_
  refine x_if_lt (t := 15) (q := 4) dX11_lies_1 (by decide) rfl (fun c1 => absurd c1 (nI_pos (by omega))) (fun c1 => ?_)
  refine x_iload_n (q := 5) dX11_lies_4 rfl rfl ?_
  refine x_aload_n (q := 6) dX11_lies_5 rfl rfl ?_
  refine q_gr (K := 8) (b := 80) (q := 9) dX11_lies_6 rfl cl_11 (by decide) tw_575 rfl rfl rfl ?_
  refine q_gi (K := 4) (q := 12) dX11_lies_9 rfl cl_3 (by decide) tw_492 rfl rfl ?_
  refine x_icmp_lt (t := 19) (q := 15) dX11_lies_12 (by decide) rfl (fun c12 => ?_) (fun c12 => absurd c12 (fun q => q (by rw [e1]; exact nI_lt hk (by omega))))
  refine x_aload_n (q := 20) dX11_lies_19 rfl rfl ?_
  refine q_gr (K := 8) (b := 80) (q := 23) dX11_lies_20 rfl cl_11 (by decide) tw_575 rfl rfl rfl ?_
  refine q_gr (K := 3) (b := 84) (q := 26) dX11_lies_23 rfl cl_3 (by decide) tw_490 rfl rfl rfl ?_
  refine x_iload_n (q := 27) dX11_lies_26 rfl rfl ?_
  refine q_iald (q := 28) dX11_lies_27 rfl rfl (vp_in_nI (by omega) (by decide)) ?_
  refine q_iret dX11_lies_28 rfl ?_
  rw [nI_clamp (by omega)]
  exact ⟨rfl, rfl, rfl, rfl⟩
set_option maxRecDepth 100000 in
theorem c_Xlies_b {I : MI} {c : Nat} {x : Int32} (r : MR) (J : MJ) (e1 : I 80 4 = nI c) (hc : c ≤ 7) (hno : ¬ ∃ k, k < c ∧ x = nI k) : Cq yX11_lies MX11_lies [.ref 0, .int x] I r J (Rt (some (.int (-1))) I r J) := by
  refine cq_of [some (.ref 0), some (.int x)] 0 (by decide +kernel) rfl rfl (Nat.le_of_ble_eq_true rfl) rfl ?_
  refine x_iload_n (q := 1) dX11_lies_0 rfl rfl ?_
  refine x_if_lt (t := 15) (q := 4) dX11_lies_1 (by decide) rfl (fun c1 => ?_) (fun c1 => ?_)
  · refine x_iconst (-1) (q := 16) dX11_lies_15 rfl (by decide) ?_
    refine x_goto (t := 28) dX11_lies_16 (by decide) ?_
    refine q_iret dX11_lies_28 rfl ?_
    exact ⟨rfl, rfl, rfl, rfl⟩
  · refine x_iload_n (q := 5) dX11_lies_4 rfl rfl ?_
    refine x_aload_n (q := 6) dX11_lies_5 rfl rfl ?_
    refine q_gr (K := 8) (b := 80) (q := 9) dX11_lies_6 rfl cl_11 (by decide) tw_575 rfl rfl rfl ?_
    refine q_gi (K := 4) (q := 12) dX11_lies_9 rfl cl_3 (by decide) tw_492 rfl rfl ?_
    refine x_icmp_lt (t := 19) (q := 15) dX11_lies_12 (by decide) rfl (fun c12 => ?_) (fun c12 => ?_)
    · exfalso
      rcases yd_no (by omega) hno with q | q
      · exact c1 q
      · rw [e1] at c12
        exact absurd c12 (Int32.not_lt.mpr q)
    · refine x_iconst (-1) (q := 16) dX11_lies_15 rfl (by decide) ?_
      refine x_goto (t := 28) dX11_lies_16 (by decide) ?_
      refine q_iret dX11_lies_28 rfl ?_
      exact ⟨rfl, rfl, rfl, rfl⟩
set_option maxRecDepth 100000 in
theorem c_Mlies_g {I : MI} {c k : Nat} (r : MR) (J : MJ) (e1 : I 100 61 = nI c) (hc : c ≤ 7) (hk : k < c) : Cq yX12_lies MX12_lies [.ref 100, .int (nI k)] I r J (Rt (some (.int (I 130 k))) I r J) := by
  refine cq_of [some (.ref 100), some (.int (nI k))] 0 (by decide +kernel) rfl rfl (Nat.le_of_ble_eq_true rfl) rfl ?_
  refine x_iload_n (q := 1) dX12_lies_0 rfl rfl ?_
  refine x_iconst (0) (q := 2) dX12_lies_1 rfl (by decide) ?_
  refine x_aload_n (q := 3) dX12_lies_2 rfl rfl ?_
  refine q_gi (K := 61) (q := 6) dX12_lies_3 rfl cl_12 (by decide) tw_1143 rfl rfl ?_
  refine x_iconst (1) (q := 7) dX12_lies_6 rfl (by decide) ?_
  refine x_isub (q := 8) dX12_lies_7 rfl ?_
  refine q_callS (As := [.int (nI k), .int 0, .int ((I 100 61) - 1)]) (rest := []) (q := 11) dX12_lies_8 rfl okX12_isIn tw_1450 (c_isIn_g I r J (nI_pos' (by omega)) (by rw [e1, nI_m1 (by omega)]; exact nI_le (by omega) (by omega))) rfl rfl (Nat.le_of_ble_eq_true rfl) ⟨by decide, by decide⟩ ⟨rfl, rfl⟩ (fun rv_ I_ r_ J_ hv_ => ?_)
  obtain ⟨a1_, a2_, a3_, a4_⟩ := hv_
  rw [a1_, a2_, a3_, a4_]
  show Wq MX12_lies 11 [some (.ref 100), some (.int (nI k))] [.int 1] I r J _
  refine x_if_eq (t := 23) (q := 14) dX12_lies_11 (by decide) rfl (fun c11 => absurd c11 ((by decide))) (fun c11 => ?_)
  refine x_aload_n (q := 15) dX12_lies_14 rfl rfl ?_
  refine q_gr (K := 60) (b := 130) (q := 18) dX12_lies_15 rfl cl_12 (by decide) tw_1142 rfl rfl rfl ?_
  refine x_iload_n (q := 19) dX12_lies_18 rfl rfl ?_
  refine q_iald (q := 20) dX12_lies_19 rfl rfl (vp_in_nI (by omega) (by decide)) ?_
  refine x_goto (t := 24) dX12_lies_20 (by decide) ?_
  refine q_iret dX12_lies_24 rfl ?_
  rw [nI_clamp (by omega)]
  exact ⟨rfl, rfl, rfl, rfl⟩
set_option maxRecDepth 100000 in
theorem c_Mlies_b {I : MI} {c : Nat} {x : Int32} (r : MR) (J : MJ) (e1 : I 100 61 = nI c) (hc : c ≤ 7) (hno : ¬ ∃ k, k < c ∧ x = nI k) : Cq yX12_lies MX12_lies [.ref 100, .int x] I r J (Rt (some (.int (-1))) I r J) := by
  refine cq_of [some (.ref 100), some (.int x)] 0 (by decide +kernel) rfl rfl (Nat.le_of_ble_eq_true rfl) rfl ?_
  refine x_iload_n (q := 1) dX12_lies_0 rfl rfl ?_
  refine x_iconst (0) (q := 2) dX12_lies_1 rfl (by decide) ?_
  refine x_aload_n (q := 3) dX12_lies_2 rfl rfl ?_
  refine q_gi (K := 61) (q := 6) dX12_lies_3 rfl cl_12 (by decide) tw_1143 rfl rfl ?_
  refine x_iconst (1) (q := 7) dX12_lies_6 rfl (by decide) ?_
  refine x_isub (q := 8) dX12_lies_7 rfl ?_
  refine q_callS (As := [.int x, .int 0, .int ((I 100 61) - 1)]) (rest := []) (q := 11) dX12_lies_8 rfl okX12_isIn tw_1450 (c_isIn_b I r J (by rw [e1]; exact in_no (by omega) hno)) rfl rfl (Nat.le_of_ble_eq_true rfl) ⟨by decide, by decide⟩ ⟨rfl, rfl⟩ (fun rv_ I_ r_ J_ hv_ => ?_)
  obtain ⟨a1_, a2_, a3_, a4_⟩ := hv_
  rw [a1_, a2_, a3_, a4_]
  show Wq MX12_lies 11 [some (.ref 100), some (.int x)] [.int 0] I r J _
  refine x_if_eq (t := 23) (q := 14) dX12_lies_11 (by decide) rfl (fun c11 => ?_) (fun c11 => absurd c11 ((by decide)))
  refine x_iconst (-1) (q := 24) dX12_lies_23 rfl (by decide) ?_
  refine q_iret dX12_lies_24 rfl ?_
  exact ⟨rfl, rfl, rfl, rfl⟩
theorem op_lies (x : Int32) : OpOk yX11_lies MX11_lies yX12_lies MX12_lies [.int x] := by
  intro I r J hrel
  have hre2 := hrel
  obtain ⟨b, yn, wn, hn, sn, st, hr, hl, hR, hJ⟩ := hrel
  obtain ⟨r1, r2, r3, ⟨c, o1, o2, o3, o4⟩⟩ := hR
  by_cases h1 : ∃ k, k < c ∧ x = nI k
  · obtain ⟨k, hk, rfl⟩ := h1
    refine op_put (c_Xlies_g r J o2 o1 hk) ?_ hre2
    have q := c_Mlies_g r J o3 o1 hk
    rw [o4 k hk] at q
    exact q
  · exact op_put (c_Xlies_b r J o2 o1 h1) (c_Mlies_b r J o3 o1 h1) hre2
