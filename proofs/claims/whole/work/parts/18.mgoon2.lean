set_option maxRecDepth 100000 in
theorem t_goOn179 (y : Nat) (hy : y < 8) {so la : Nat} (hs4 : so < 4) (h1 : 1 ≤ la) (h5 : la ≤ 5) (T fl rain tr : Int32) (I : MI) (htr : I 116 y = tr) (r : MR) (J : MJ) (G : GT) (h50 : 0 ≤ G 5 + rain) (h00 : ¬ G 5 + rain + (G 6 + (fl - rain)) + G 7 + 10 = 0) (hro : WHf so < meltG (fallG fl rain (warmG so la T G)) 5 ↔ ¬ meltG (fallG fl rain (warmG so la T G)) 5 - WHf so ≤ 0) (x2 x3 x4 : Option Value) : Wq MX12_goOn 179 [some (.ref 100), some (.int (nI y)), x2, x3, x4, some (.int T), some (.int fl), some (.int rain), some (.int (nI so)), some (.int (nI la)), some (.int 0), none] [] (mPut I (lastG so la T (topG so T G))) r J (Rt none (mPut I (stepR so la T fl rain tr G)) r J) := by
  have hk := l_goOn y (so := so) h1 h5 T fl rain I (lastG so la T (topG so T G)) r J x2 x3 x4 (Rt none (mPut I (stepR so la T fl rain tr G)) r J) (fun x10 x11 => ?_) (la - 1) 0 none (by omega)
  · exact hk
  · have e5 : warmG so la T G 5 = G 5 := warmG_hi T G h5 (by decide)
    have e6 : warmG so la T G 6 = G 6 := warmG_hi T G h5 (by decide)
    have e7 : warmG so la T G 7 = G 7 := warmG_hi T G h5 (by decide)
    exact t_goOn241 y hy hs4 h1 h5 T fl rain tr I htr r J (warmG so la T G) (by rw [e5]; exact h50) (by rw [e5, e6, e7]; exact h00) hro x2 x3 x4 x10 x11
set_option maxRecDepth 100000 in
theorem t_goOn138 (y : Nat) (hy : y < 8) {so la : Nat} (hs4 : so < 4) (h1 : 1 ≤ la) (h5 : la ≤ 5) (T fl rain tr : Int32) (I : MI) (htr : I 116 y = tr) (r : MR) (J : MJ) (G : GT) (h50 : 0 ≤ G 5 + rain) (h00 : ¬ G 5 + rain + (G 6 + (fl - rain)) + G 7 + 10 = 0) (hro : WHf so < meltG (fallG fl rain (warmG so la T G)) 5 ↔ ¬ meltG (fallG fl rain (warmG so la T G)) 5 - WHf so ≤ 0) (x2 x3 x4 : Option Value) : Wq MX12_goOn 138 [some (.ref 100), some (.int (nI y)), x2, x3, x4, some (.int T), some (.int fl), some (.int rain), some (.int (nI so)), some (.int (nI la)), none, none] [] (mPut I (topG so T G)) r J (Rt none (mPut I (stepR so la T fl rain tr G)) r J) := by
  have hla1 : nI la - 1 = nI (la - 1) := pk_sub (a := la) (b := 1) h1
  refine x_iload (q := 140) dX12_goOn_138 rfl rfl ?_
  refine x_iconst (2) (q := 141) dX12_goOn_140 rfl (by decide) ?_
  refine x_icmp_ne (t := 176) (q := 144) dX12_goOn_141 (by decide) rfl (fun c141 => ?_) (fun c141 => ?_)
  · refine x_iconst (0) (q := 177) dX12_goOn_176 rfl (by decide) ?_
    refine x_istore (L2 := [some (.ref 100), some (.int (nI y)), x2, x3, x4, some (.int T), some (.int fl), some (.int rain), some (.int (nI so)), some (.int (nI la)), some (.int 0), none]) (q := 179) dX12_goOn_177 rfl (by decide) rfl rfl ?_
    have hcl : (nI (la - 1)).toNatClampNeg = la - 1 := nI_clamp (by omega)
    have e9 : lastG so la T (topG so T G) = topG so T G := if_neg (fun q => c141 (by rw [q.1]; rfl))
    have k9 := t_goOn179 y hy hs4 h1 h5 T fl rain tr I htr r J G h50 h00 hro x2 x3 x4
    rw [e9] at k9
    exact k9
  · refine x_iload (q := 146) dX12_goOn_144 rfl rfl ?_
    refine x_iconst (1) (q := 147) dX12_goOn_146 rfl (by decide) ?_
    refine x_icmp_le (t := 176) (q := 150) dX12_goOn_147 (by decide) rfl (fun c147 => ?_) (fun c147 => ?_)
    · refine x_iconst (0) (q := 177) dX12_goOn_176 rfl (by decide) ?_
      refine x_istore (L2 := [some (.ref 100), some (.int (nI y)), x2, x3, x4, some (.int T), some (.int fl), some (.int rain), some (.int (nI so)), some (.int (nI la)), some (.int 0), none]) (q := 179) dX12_goOn_177 rfl (by decide) rfl rfl ?_
      have hcl : (nI (la - 1)).toNatClampNeg = la - 1 := nI_clamp (by omega)
      have e9 : lastG so la T (topG so T G) = topG so T G := if_neg (fun q => absurd ((nI_leI (b := 1) (by omega) (by omega)).mp c147) (by omega))
      have k9 := t_goOn179 y hy hs4 h1 h5 T fl rain tr I htr r J G h50 h00 hro x2 x3 x4
      rw [e9] at k9
      exact k9
    · refine x_aload_n (q := 151) dX12_goOn_150 rfl rfl ?_
      refine q_gr (K := 48) (b := 125) (q := 154) dX12_goOn_151 rfl cl_12 (by decide) tw_1130 rfl rfl rfl ?_
      refine x_iload (q := 156) dX12_goOn_154 rfl rfl ?_
      refine x_iconst (1) (q := 157) dX12_goOn_156 rfl (by decide) ?_
      refine x_isub (q := 158) dX12_goOn_157 rfl ?_
      refine x_dup2 (q := 159) dX12_goOn_158 rfl rfl rfl ?_
      refine q_iald (q := 160) dX12_goOn_159 rfl rfl (by rw [hla1]; exact vp_in_nI (by omega) (by decide)) ?_
      refine x_iload (q := 162) dX12_goOn_160 rfl rfl ?_
      refine x_aload_n (q := 163) dX12_goOn_162 rfl rfl ?_
      refine q_gr (K := 48) (b := 125) (q := 166) dX12_goOn_163 rfl cl_12 (by decide) tw_1130 rfl rfl rfl ?_
      refine x_iload (q := 168) dX12_goOn_166 rfl rfl ?_
      refine x_iconst (1) (q := 169) dX12_goOn_168 rfl (by decide) ?_
      refine x_isub (q := 170) dX12_goOn_169 rfl ?_
      refine q_iald (q := 171) dX12_goOn_170 rfl rfl (by rw [hla1]; exact vp_in_nI (by omega) (by decide)) ?_
      refine x_isub (q := 172) dX12_goOn_171 rfl ?_
      refine x_iconst (4) (q := 173) dX12_goOn_172 rfl (by decide) ?_
      refine x_idiv (q := 174) dX12_goOn_173 rfl (by decide) ?_
      refine x_iadd (q := 175) dX12_goOn_174 rfl ?_
      refine q_iast (q := 176) dX12_goOn_175 rfl rfl (by rw [hla1]; exact vp_in_nI (by omega) (by decide)) (fun I1 eI1 => ?_)
      refine x_iconst (0) (q := 177) dX12_goOn_176 rfl (by decide) ?_
      refine x_istore (L2 := [some (.ref 100), some (.int (nI y)), x2, x3, x4, some (.int T), some (.int fl), some (.int rain), some (.int (nI so)), some (.int (nI la)), some (.int 0), none]) (q := 179) dX12_goOn_177 rfl (by decide) rfl rfl ?_
      have hcl : (nI (la - 1)).toNatClampNeg = la - 1 := nI_clamp (by omega)
      have e9 : I1 = mPut I (lastG so la T (topG so T G)) := by
        rw [eI1, hla1]
        simp only [hcl, mPut_w _ _ (la - 1) (show la - 1 < 5 by omega), mPut_uw _ _ (la - 1) _ (show la - 1 < 5 by omega)]
        refine congrArg (mPut I) (Eq.symm (if_pos ⟨?_, ?_⟩))
        · exact (nI_eq (b := 2) (by omega) (by omega)).mp c141
        · have c148 : ¬ (la ≤ 1) := fun q => c147 ((nI_leI (b := 1) (by omega) (by omega)).mpr q)
          omega
      rw [e9]
      exact t_goOn179 y hy hs4 h1 h5 T fl rain tr I htr r J G h50 h00 hro x2 x3 x4
set_option maxRecDepth 100000 in
theorem t_goOn99 (y : Nat) (hy : y < 8) {so la : Nat} (hs4 : so < 4) (h1 : 1 ≤ la) (h5 : la ≤ 5) (T fl rain tr : Int32) (I : MI) (htr : I 116 y = tr) (r : MR) (J : MJ) (G : GT) (h50 : 0 ≤ G 5 + rain) (h00 : ¬ G 5 + rain + (G 6 + (fl - rain)) + G 7 + 10 = 0) (hro : WHf so < meltG (fallG fl rain (warmG so la T G)) 5 ↔ ¬ meltG (fallG fl rain (warmG so la T G)) 5 - WHf so ≤ 0) (x2 x3 x4 : Option Value) : Wq MX12_goOn 99 [some (.ref 100), some (.int (nI y)), x2, x3, x4, some (.int T), some (.int fl), some (.int rain), some (.int (nI so)), some (.int (nI la)), none, none] [] (mPut I G) r J (Rt none (mPut I (stepR so la T fl rain tr G)) r J) := by
  refine x_aload_n (q := 100) dX12_goOn_99 rfl rfl ?_
  refine q_gr (K := 48) (b := 125) (q := 103) dX12_goOn_100 rfl cl_12 (by decide) tw_1130 rfl rfl rfl ?_
  refine x_iconst (0) (q := 104) dX12_goOn_103 rfl (by decide) ?_
  refine x_dup2 (q := 105) dX12_goOn_104 rfl rfl rfl ?_
  refine q_iald (q := 106) dX12_goOn_105 rfl rfl (vin (by decide)) ?_
  refine x_iload (q := 108) dX12_goOn_106 rfl rfl ?_
  refine x_aload_n (q := 109) dX12_goOn_108 rfl rfl ?_
  refine q_gr (K := 48) (b := 125) (q := 112) dX12_goOn_109 rfl cl_12 (by decide) tw_1130 rfl rfl rfl ?_
  refine x_iconst (0) (q := 113) dX12_goOn_112 rfl (by decide) ?_
  refine q_iald (q := 114) dX12_goOn_113 rfl rfl (vin (by decide)) ?_
  refine x_isub (q := 115) dX12_goOn_114 rfl ?_
  refine x_iload (q := 117) dX12_goOn_115 rfl rfl ?_
  refine x_if_ne (t := 124) (q := 120) dX12_goOn_117 (by decide) rfl (fun c117 => ?_) (fun c117 => ?_)
  · refine x_iload (q := 126) dX12_goOn_124 rfl rfl ?_
    refine x_iconst (3) (q := 127) dX12_goOn_126 rfl (by decide) ?_
    refine x_icmp_ne (t := 134) (q := 130) dX12_goOn_127 (by decide) rfl (fun c127 => ?_) (fun c127 => ?_)
    · refine x_iconst (4) (q := 135) dX12_goOn_134 rfl (by decide) ?_
      have e0 : ¬ so = 0 := fun q => c117 (by rw [q]; rfl)
      have e3 : ¬ so = 3 := fun q => c127 (by rw [q]; rfl)
      have e : so = 1 ∨ so = 2 := by omega
      refine x_idiv (q := 136) dX12_goOn_135 rfl (by decide) ?_
      refine x_iadd (q := 137) dX12_goOn_136 rfl ?_
      refine q_iast (q := 138) dX12_goOn_137 rfl rfl (vin (by decide)) (fun I51 eI51 => ?_)
      have e9 : I51 = mPut I (topG so T G) := by
        rw [eI51]
        simp only [mPut_49, mPut_50, mPut_51, mPut_52, mPut_u49, mPut_u50, mPut_u51, mPut_u52, mPut_w0, mPut_u0, cl_lit0]
        rcases e with rfl | rfl <;> rfl
      rw [e9]
      exact t_goOn138 y hy hs4 h1 h5 T fl rain tr I htr r J G h50 h00 hro x2 x3 x4
    · refine x_iconst (3) (q := 131) dX12_goOn_130 rfl (by decide) ?_
      refine x_goto (t := 135) dX12_goOn_131 (by decide) ?_
      have e : so = 3 := (nI_eq (b := 3) (by omega) (by omega)).mp c127
      refine x_idiv (q := 136) dX12_goOn_135 rfl (by decide) ?_
      refine x_iadd (q := 137) dX12_goOn_136 rfl ?_
      refine q_iast (q := 138) dX12_goOn_137 rfl rfl (vin (by decide)) (fun I51 eI51 => ?_)
      have e9 : I51 = mPut I (topG so T G) := by
        rw [eI51]
        simp only [mPut_49, mPut_50, mPut_51, mPut_52, mPut_u49, mPut_u50, mPut_u51, mPut_u52, mPut_w0, mPut_u0, cl_lit0]
        subst e
        rfl
      rw [e9]
      exact t_goOn138 y hy hs4 h1 h5 T fl rain tr I htr r J G h50 h00 hro x2 x3 x4
  · refine x_iconst (2) (q := 121) dX12_goOn_120 rfl (by decide) ?_
    refine x_goto (t := 135) dX12_goOn_121 (by decide) ?_
    have e : so = 0 := (nI_eq (b := 0) (by omega) (by omega)).mp c117
    refine x_idiv (q := 136) dX12_goOn_135 rfl (by decide) ?_
    refine x_iadd (q := 137) dX12_goOn_136 rfl ?_
    refine q_iast (q := 138) dX12_goOn_137 rfl rfl (vin (by decide)) (fun I51 eI51 => ?_)
    have e9 : I51 = mPut I (topG so T G) := by
      rw [eI51]
      simp only [mPut_49, mPut_50, mPut_51, mPut_52, mPut_u49, mPut_u50, mPut_u51, mPut_u52, mPut_w0, mPut_u0, cl_lit0]
      subst e
      rfl
    rw [e9]
    exact t_goOn138 y hy hs4 h1 h5 T fl rain tr I htr r J G h50 h00 hro x2 x3 x4
def mT (I : MI) (hn hh : Nat) : Int32 := if hn = 0 then 0 else I 121 hh
def mF (I : MI) (hn hh : Nat) : Int32 := if hn = 0 then 0 else I 120 hh
def mW (I : MI) (hn hh : Nat) : Int32 := if hn = 0 then 0 else I 122 hh
set_option maxRecDepth 100000 in
theorem c_goOn (y : Nat) (hy : y < 8) {so la hn hh : Nat} (hs4 : so < 4) (h1 : 1 ≤ la) (h5 : la ≤ 5) (step sh : Int32) (I : MI) (hso : I 114 y = nI so) (hla : I 117 y = nI la) (hhn : I 100 43 = nI hn) (hn12 : hn ≤ 12) (hhr : ¬ hn = 0 → lesF (step / 6) (nI hn - 1) = nI hh) (hh12 : hh < 12) (G : GT) (h50 : 0 ≤ G 5 + mF I hn hh * mW I hn hh / 10) (h00 : ¬ G 5 + mF I hn hh * mW I hn hh / 10 + (G 6 + (mF I hn hh - mF I hn hh * mW I hn hh / 10)) + G 7 + 10 = 0) (hro : WHf so < meltG (fallG (mF I hn hh) (mF I hn hh * mW I hn hh / 10) (warmG so la (mT I hn hh + sh) G)) 5 ↔ ¬ meltG (fallG (mF I hn hh) (mF I hn hh * mW I hn hh / 10) (warmG so la (mT I hn hh + sh) G)) 5 - WHf so ≤ 0) (r : MR) (J : MJ) : Cq yX12_goOn MX12_goOn [.ref 100, .int (nI y), .int step, .int sh] (mPut I G) r J (Rt none (mPut I (stepG so la (mT I hn hh + sh) (mF I hn hh) (mW I hn hh) (I 116 y) G)) r J) := by
  have e43 : mPut I G 100 43 = nI hn := by rw [mPut_g _ _ _ (by decide)]; exact hhn
  have hcy : (nI y).toNatClampNeg = y := nI_clamp (by omega)
  have hch : (nI hh).toNatClampNeg = hh := nI_clamp (by omega)
  have hm : ∀ b j, b ≠ 125 → b ≠ 100 → mPut I G b j = I b j := fun b j q1 q2 => mPut_o _ _ _ _ q1 q2
  refine cq_of [some (.ref 100), some (.int (nI y)), some (.int step), some (.int sh), none, none, none, none, none, none, none, none] 8 (by decide +kernel) rfl rfl (Nat.le_of_ble_eq_true rfl) rfl ?_
  refine x_iload_n (q := 1) dX12_goOn_0 rfl rfl ?_
  refine x_bipush (6) (q := 3) dX12_goOn_1 rfl (by decide) ?_
  refine x_idiv (q := 4) dX12_goOn_3 rfl (by decide) ?_
  refine x_aload_n (q := 5) dX12_goOn_4 rfl rfl ?_
  refine q_gi (K := 43) (q := 8) dX12_goOn_5 rfl cl_12 (by decide) tw_1125 rfl rfl ?_
  refine x_iconst (1) (q := 9) dX12_goOn_8 rfl (by decide) ?_
  refine x_isub (q := 10) dX12_goOn_9 rfl ?_
  refine q_callS (As := [.int (step / 6), .int (((mPut I G) 100 43) - 1)]) (rest := []) (q := 13) dX12_goOn_10 rfl okX12_lesser tw_1461 (c_lesser _ _ _ _ _) rfl rfl (Nat.le_of_ble_eq_true rfl) ⟨by decide, by decide⟩ ⟨rfl, rfl⟩ (fun rv_ I_ r_ J_ hv_ => ?_)
  obtain ⟨a1_, a2_, a3_, a4_⟩ := hv_
  rw [a1_, a2_, a3_, a4_]
  show Wq MX12_goOn 13 [some (.ref 100), some (.int (nI y)), some (.int step), some (.int sh), none, none, none, none, none, none, none, none] [.int (lesF (step / 6) (((mPut I G) 100 43) - 1))] (mPut I G) r J _
  refine x_nmi (fun v1 ev1 => ?_)
  refine x_istore (L2 := [some (.ref 100), some (.int (nI y)), some (.int step), some (.int sh), some (.int v1), none, none, none, none, none, none, none]) (q := 15) dX12_goOn_13 rfl (by decide) rfl rfl ?_
  by_cases z0 : hn = 0
  · refine x_aload_n (q := 16) dX12_goOn_15 rfl rfl ?_
    refine q_gi (K := 43) (q := 19) dX12_goOn_16 rfl cl_12 (by decide) tw_1125 rfl rfl ?_
    refine x_if_ne (t := 26) (q := 22) dX12_goOn_19 (by decide) rfl (fun c19 => absurd c19 (fun q => q (by rw [e43, z0]; rfl))) (fun c19 => ?_)
    refine x_iconst (0) (q := 23) dX12_goOn_22 rfl (by decide) ?_
    refine x_goto (t := 33) dX12_goOn_23 (by decide) ?_
    refine x_iload_n (q := 34) dX12_goOn_33 rfl rfl ?_
    refine x_iadd (q := 35) dX12_goOn_34 rfl ?_
    refine x_nmi (fun v2 ev2 => ?_)
    refine x_istore (L2 := [some (.ref 100), some (.int (nI y)), some (.int step), some (.int sh), some (.int v1), some (.int v2), none, none, none, none, none, none]) (q := 37) dX12_goOn_35 rfl (by decide) rfl rfl ?_
    refine x_aload_n (q := 38) dX12_goOn_37 rfl rfl ?_
    refine q_gi (K := 43) (q := 41) dX12_goOn_38 rfl cl_12 (by decide) tw_1125 rfl rfl ?_
    refine x_if_ne (t := 48) (q := 44) dX12_goOn_41 (by decide) rfl (fun c41 => absurd c41 (fun q => q (by rw [e43, z0]; rfl))) (fun c41 => ?_)
    refine x_iconst (0) (q := 45) dX12_goOn_44 rfl (by decide) ?_
    refine x_goto (t := 55) dX12_goOn_45 (by decide) ?_
    refine x_istore (L2 := [some (.ref 100), some (.int (nI y)), some (.int step), some (.int sh), some (.int v1), some (.int v2), some (.int 0), none, none, none, none, none]) (q := 57) dX12_goOn_55 rfl (by decide) rfl rfl ?_
    refine x_aload_n (q := 58) dX12_goOn_57 rfl rfl ?_
    refine q_gi (K := 43) (q := 61) dX12_goOn_58 rfl cl_12 (by decide) tw_1125 rfl rfl ?_
    refine x_if_ne (t := 68) (q := 64) dX12_goOn_61 (by decide) rfl (fun c61 => absurd c61 (fun q => q (by rw [e43, z0]; rfl))) (fun c61 => ?_)
    refine x_iconst (0) (q := 65) dX12_goOn_64 rfl (by decide) ?_
    refine x_goto (t := 81) dX12_goOn_65 (by decide) ?_
    refine x_istore (L2 := [some (.ref 100), some (.int (nI y)), some (.int step), some (.int sh), some (.int v1), some (.int v2), some (.int 0), some (.int 0), none, none, none, none]) (q := 83) dX12_goOn_81 rfl (by decide) rfl rfl ?_
    refine x_aload_n (q := 84) dX12_goOn_83 rfl rfl ?_
    refine q_gr (K := 22) (b := 114) (q := 87) dX12_goOn_84 rfl cl_12 (by decide) tw_1104 rfl rfl rfl ?_
    refine x_iload_n (q := 88) dX12_goOn_87 rfl rfl ?_
    refine q_iald (q := 89) dX12_goOn_88 rfl rfl (vp_in_nI hy (by decide)) ?_
    refine x_nmi (fun v3 ev3 => ?_)
    refine x_istore (L2 := [some (.ref 100), some (.int (nI y)), some (.int step), some (.int sh), some (.int v1), some (.int v2), some (.int 0), some (.int 0), some (.int v3), none, none, none]) (q := 91) dX12_goOn_89 rfl (by decide) rfl rfl ?_
    refine x_aload_n (q := 92) dX12_goOn_91 rfl rfl ?_
    refine q_gr (K := 25) (b := 117) (q := 95) dX12_goOn_92 rfl cl_12 (by decide) tw_1107 rfl rfl rfl ?_
    refine x_iload_n (q := 96) dX12_goOn_95 rfl rfl ?_
    refine q_iald (q := 97) dX12_goOn_96 rfl rfl (vp_in_nI hy (by decide)) ?_
    refine x_nmi (fun v4 ev4 => ?_)
    refine x_istore (L2 := [some (.ref 100), some (.int (nI y)), some (.int step), some (.int sh), some (.int v1), some (.int v2), some (.int 0), some (.int 0), some (.int v3), some (.int v4), none, none]) (q := 99) dX12_goOn_97 rfl (by decide) rfl rfl ?_
    have q8 : v3 = nI so := by rw [ev3, hcy, hm 114 _ (by decide) (by decide)]; exact hso
    have q9 : v4 = nI la := by rw [ev4, hcy, hm 117 _ (by decide) (by decide)]; exact hla
    have q5 : v2 = mT I hn hh + sh := by rw [ev2]; simp [mT, z0]
    have q6 : (0 : Int32) = mF I hn hh := by simp [mF, z0]
    have q7 : (0 : Int32) = mF I hn hh * mW I hn hh / 10 := by simp [mF, mW, z0]
    rw [q5, q8, q9]
    have k9 := t_goOn99 y hy hs4 h1 h5 (mT I hn hh + sh) (mF I hn hh) (mF I hn hh * mW I hn hh / 10) (I 116 y) I rfl r J G h50 h00 hro (some (.int step)) (some (.int sh)) (some (.int v1))
    have q66 : mF I hn hh = 0 := by simp [mF, z0]
    have q77 : mF I hn hh * mW I hn hh / 10 = 0 := by simp [mF, mW, z0]
    have k8 : Wq MX12_goOn 99 [some (.ref 100), some (.int (nI y)), some (.int step), some (.int sh), some (.int v1), some (.int (mT I hn hh + sh)), some (.int (mF I hn hh)), some (.int (mF I hn hh * mW I hn hh / 10)), some (.int (nI so)), some (.int (nI la)), none, none] [] (mPut I G) r J (Rt none (mPut I (stepG so la (mT I hn hh + sh) (mF I hn hh) (mW I hn hh) (I 116 y) G)) r J) := by
      exact k9
    have e0 : ([some (.ref 100), some (.int (nI y)), some (.int step), some (.int sh), some (.int v1), some (.int (mT I hn hh + sh)), some (.int (mF I hn hh)), some (.int (mF I hn hh * mW I hn hh / 10)), some (.int (nI so)), some (.int (nI la)), none, none] : List (Option Value)) = [some (.ref 100), some (.int (nI y)), some (.int step), some (.int sh), some (.int v1), some (.int (mT I hn hh + sh)), some (.int 0), some (.int 0), some (.int (nI so)), some (.int (nI la)), none, none] := by rw [q77, q66]
    exact e0 ▸ k8
  · have hv1 : v1 = nI hh := by
      rw [ev1, e43]
      exact hhr z0
    refine x_aload_n (q := 16) dX12_goOn_15 rfl rfl ?_
    refine q_gi (K := 43) (q := 19) dX12_goOn_16 rfl cl_12 (by decide) tw_1125 rfl rfl ?_
    refine x_if_ne (t := 26) (q := 22) dX12_goOn_19 (by decide) rfl (fun c19 => ?_) (fun c19 => absurd c19 (fun q => z0 ((nI_eq (b := 0) (by omega) (by omega)).mp (by rw [← e43]; exact q))))
    refine x_aload_n (q := 27) dX12_goOn_26 rfl rfl ?_
    refine q_gr (K := 29) (b := 121) (q := 30) dX12_goOn_27 rfl cl_12 (by decide) tw_1111 rfl rfl rfl ?_
    refine x_iload (q := 32) dX12_goOn_30 rfl rfl ?_
    refine q_iald (q := 33) dX12_goOn_32 rfl rfl (by rw [hv1]; exact vp_in_nI hh12 (by decide)) ?_
    refine x_iload_n (q := 34) dX12_goOn_33 rfl rfl ?_
    refine x_iadd (q := 35) dX12_goOn_34 rfl ?_
    refine x_nmi (fun v2 ev2 => ?_)
    refine x_istore (L2 := [some (.ref 100), some (.int (nI y)), some (.int step), some (.int sh), some (.int v1), some (.int v2), none, none, none, none, none, none]) (q := 37) dX12_goOn_35 rfl (by decide) rfl rfl ?_
    refine x_aload_n (q := 38) dX12_goOn_37 rfl rfl ?_
    refine q_gi (K := 43) (q := 41) dX12_goOn_38 rfl cl_12 (by decide) tw_1125 rfl rfl ?_
    refine x_if_ne (t := 48) (q := 44) dX12_goOn_41 (by decide) rfl (fun c41 => ?_) (fun c41 => absurd c41 (fun q => z0 ((nI_eq (b := 0) (by omega) (by omega)).mp (by rw [← e43]; exact q))))
    refine x_aload_n (q := 49) dX12_goOn_48 rfl rfl ?_
    refine q_gr (K := 28) (b := 120) (q := 52) dX12_goOn_49 rfl cl_12 (by decide) tw_1110 rfl rfl rfl ?_
    refine x_iload (q := 54) dX12_goOn_52 rfl rfl ?_
    refine q_iald (q := 55) dX12_goOn_54 rfl rfl (by rw [hv1]; exact vp_in_nI hh12 (by decide)) ?_
    refine x_nmi (fun v3 ev3 => ?_)
    refine x_istore (L2 := [some (.ref 100), some (.int (nI y)), some (.int step), some (.int sh), some (.int v1), some (.int v2), some (.int v3), none, none, none, none, none]) (q := 57) dX12_goOn_55 rfl (by decide) rfl rfl ?_
    refine x_aload_n (q := 58) dX12_goOn_57 rfl rfl ?_
    refine q_gi (K := 43) (q := 61) dX12_goOn_58 rfl cl_12 (by decide) tw_1125 rfl rfl ?_
    refine x_if_ne (t := 68) (q := 64) dX12_goOn_61 (by decide) rfl (fun c61 => ?_) (fun c61 => absurd c61 (fun q => z0 ((nI_eq (b := 0) (by omega) (by omega)).mp (by rw [← e43]; exact q))))
    refine x_iload (q := 70) dX12_goOn_68 rfl rfl ?_
    refine x_aload_n (q := 71) dX12_goOn_70 rfl rfl ?_
    refine q_gr (K := 30) (b := 122) (q := 74) dX12_goOn_71 rfl cl_12 (by decide) tw_1112 rfl rfl rfl ?_
    refine x_iload (q := 76) dX12_goOn_74 rfl rfl ?_
    refine q_iald (q := 77) dX12_goOn_76 rfl rfl (by rw [hv1]; exact vp_in_nI hh12 (by decide)) ?_
    refine x_imul (q := 78) dX12_goOn_77 rfl ?_
    refine x_bipush (10) (q := 80) dX12_goOn_78 rfl (by decide) ?_
    refine x_idiv (q := 81) dX12_goOn_80 rfl (by decide) ?_
    refine x_nmi (fun v4 ev4 => ?_)
    refine x_istore (L2 := [some (.ref 100), some (.int (nI y)), some (.int step), some (.int sh), some (.int v1), some (.int v2), some (.int v3), some (.int v4), none, none, none, none]) (q := 83) dX12_goOn_81 rfl (by decide) rfl rfl ?_
    refine x_aload_n (q := 84) dX12_goOn_83 rfl rfl ?_
    refine q_gr (K := 22) (b := 114) (q := 87) dX12_goOn_84 rfl cl_12 (by decide) tw_1104 rfl rfl rfl ?_
    refine x_iload_n (q := 88) dX12_goOn_87 rfl rfl ?_
    refine q_iald (q := 89) dX12_goOn_88 rfl rfl (vp_in_nI hy (by decide)) ?_
    refine x_nmi (fun v5 ev5 => ?_)
    refine x_istore (L2 := [some (.ref 100), some (.int (nI y)), some (.int step), some (.int sh), some (.int v1), some (.int v2), some (.int v3), some (.int v4), some (.int v5), none, none, none]) (q := 91) dX12_goOn_89 rfl (by decide) rfl rfl ?_
    refine x_aload_n (q := 92) dX12_goOn_91 rfl rfl ?_
    refine q_gr (K := 25) (b := 117) (q := 95) dX12_goOn_92 rfl cl_12 (by decide) tw_1107 rfl rfl rfl ?_
    refine x_iload_n (q := 96) dX12_goOn_95 rfl rfl ?_
    refine q_iald (q := 97) dX12_goOn_96 rfl rfl (vp_in_nI hy (by decide)) ?_
    refine x_nmi (fun v6 ev6 => ?_)
    refine x_istore (L2 := [some (.ref 100), some (.int (nI y)), some (.int step), some (.int sh), some (.int v1), some (.int v2), some (.int v3), some (.int v4), some (.int v5), some (.int v6), none, none]) (q := 99) dX12_goOn_97 rfl (by decide) rfl rfl ?_
    have q8 : v5 = nI so := by rw [ev5, hcy, hm 114 _ (by decide) (by decide)]; exact hso
    have q9 : v6 = nI la := by rw [ev6, hcy, hm 117 _ (by decide) (by decide)]; exact hla
    have q5 : v2 = mT I hn hh + sh := by rw [ev2, hv1, hch, hm 121 _ (by decide) (by decide)]; simp [mT, z0]
    have q6 : v3 = mF I hn hh := by rw [ev3, hv1, hch, hm 120 _ (by decide) (by decide)]; simp [mF, z0]
    have q7 : v4 = mF I hn hh * mW I hn hh / 10 := by rw [ev4, q6, hv1, hch, hm 122 _ (by decide) (by decide)]; simp [mW, z0]
    rw [q5, q6, q7, q8, q9]
    exact t_goOn99 y hy hs4 h1 h5 _ _ _ (I 116 y) I rfl r J G h50 h00 hro _ _ _
