set_option maxRecDepth 100000 in
theorem l_lc93 (r : MR) (J : MJ) (V : MI) (post : Option Value → MI → MR → MJ → Prop) (kx : ∀ Y : MI, (∀ j, j < 8 → Y 114 j = V 103 j ∧ Y 115 j = V 104 j ∧ Y 116 j = V 105 j ∧ Y 117 j = V 106 j) → (∀ c, c ≠ 114 → c ≠ 115 → c ≠ 116 → c ≠ 117 → Y c = V c) → Wq MX12_land 153 [some (.ref 100), some (.int (nI 8))] [] Y r J post) : ∀ (f : Nat) (k : Nat) (Y : MI) (_ : k + f = 8) (_ : ∀ j, j < k → Y 114 j = V 103 j ∧ Y 115 j = V 104 j ∧ Y 116 j = V 105 j ∧ Y 117 j = V 106 j) (_ : ∀ c, c ≠ 114 → c ≠ 115 → c ≠ 116 → c ≠ 117 → Y c = V c), Wq MX12_land 93 [some (.ref 100), some (.int (nI k))] [] Y r J (post) := by
  intro f
  induction f with
  | zero =>
    intro k Y hkf h1 h2
    refine x_iload_n (q := 94) dX12_land_93 rfl rfl ?_
    refine x_bipush (8) (q := 96) dX12_land_94 rfl (by decide) ?_
    refine x_icmp_ge (t := 153) (q := 99) dX12_land_96 (by decide) rfl (fun c96 => ?_) (fun c96 => absurd c96 (fun q => q (nI_le (a := 8) (by omega) (by omega))))
    obtain rfl : k = 8 := by omega
    exact kx Y h1 h2
  | succ f ih =>
    intro k Y hkf h1 h2
    refine x_iload_n (q := 94) dX12_land_93 rfl rfl ?_
    refine x_bipush (8) (q := 96) dX12_land_94 rfl (by decide) ?_
    refine x_icmp_ge (t := 153) (q := 99) dX12_land_96 (by decide) rfl (fun c96 => absurd c96 (nI_ge (b := 8) (by omega) (by decide))) (fun c96 => ?_)
    refine x_aload_n (q := 100) dX12_land_99 rfl rfl ?_
    refine q_gr (K := 22) (b := 114) (q := 103) dX12_land_100 rfl cl_12 (by decide) tw_1104 rfl rfl rfl ?_
    refine x_iload_n (q := 104) dX12_land_103 rfl rfl ?_
    refine x_aload_n (q := 105) dX12_land_104 rfl rfl ?_
    refine q_gr (K := 11) (b := 103) (q := 108) dX12_land_105 rfl cl_12 (by decide) tw_1093 rfl rfl rfl ?_
    refine x_iload_n (q := 109) dX12_land_108 rfl rfl ?_
    refine q_iald (q := 110) dX12_land_109 rfl rfl (vp_in_nI (by omega) (by decide)) ?_
    refine q_iast (q := 111) dX12_land_110 rfl rfl (vp_in_nI (by omega) (by decide)) (fun I1 eI1 => ?_)
    refine x_aload_n (q := 112) dX12_land_111 rfl rfl ?_
    refine q_gr (K := 23) (b := 115) (q := 115) dX12_land_112 rfl cl_12 (by decide) tw_1105 rfl rfl rfl ?_
    refine x_iload_n (q := 116) dX12_land_115 rfl rfl ?_
    refine x_aload_n (q := 117) dX12_land_116 rfl rfl ?_
    refine q_gr (K := 12) (b := 104) (q := 120) dX12_land_117 rfl cl_12 (by decide) tw_1094 rfl rfl rfl ?_
    refine x_iload_n (q := 121) dX12_land_120 rfl rfl ?_
    refine q_iald (q := 122) dX12_land_121 rfl rfl (vp_in_nI (by omega) (by decide)) ?_
    refine q_iast (q := 123) dX12_land_122 rfl rfl (vp_in_nI (by omega) (by decide)) (fun I2 eI2 => ?_)
    refine x_aload_n (q := 124) dX12_land_123 rfl rfl ?_
    refine q_gr (K := 24) (b := 116) (q := 127) dX12_land_124 rfl cl_12 (by decide) tw_1106 rfl rfl rfl ?_
    refine x_iload_n (q := 128) dX12_land_127 rfl rfl ?_
    refine x_aload_n (q := 129) dX12_land_128 rfl rfl ?_
    refine q_gr (K := 13) (b := 105) (q := 132) dX12_land_129 rfl cl_12 (by decide) tw_1095 rfl rfl rfl ?_
    refine x_iload_n (q := 133) dX12_land_132 rfl rfl ?_
    refine q_iald (q := 134) dX12_land_133 rfl rfl (vp_in_nI (by omega) (by decide)) ?_
    refine q_iast (q := 135) dX12_land_134 rfl rfl (vp_in_nI (by omega) (by decide)) (fun I3 eI3 => ?_)
    refine x_aload_n (q := 136) dX12_land_135 rfl rfl ?_
    refine q_gr (K := 25) (b := 117) (q := 139) dX12_land_136 rfl cl_12 (by decide) tw_1107 rfl rfl rfl ?_
    refine x_iload_n (q := 140) dX12_land_139 rfl rfl ?_
    refine x_aload_n (q := 141) dX12_land_140 rfl rfl ?_
    refine q_gr (K := 14) (b := 106) (q := 144) dX12_land_141 rfl cl_12 (by decide) tw_1096 rfl rfl rfl ?_
    refine x_iload_n (q := 145) dX12_land_144 rfl rfl ?_
    refine q_iald (q := 146) dX12_land_145 rfl rfl (vp_in_nI (by omega) (by decide)) ?_
    refine q_iast (q := 147) dX12_land_146 rfl rfl (vp_in_nI (by omega) (by decide)) (fun I4 eI4 => ?_)
    obtain ⟨v5, ev5⟩ : ∃ y_ : Int32, y_ = (nI k) + 1 := ⟨_, rfl⟩
    refine x_iinc (v := v5) (L2 := [some (.ref 100), some (.int v5)]) (q := 150) dX12_land_147 rfl (by decide) rfl rfl (by rw [ev5]; rfl) rfl ?_
    refine x_goto (t := 93) dX12_land_150 (by decide) ?_
    rw [nI_clamp (by omega)] at eI1
    rw [nI_clamp (by omega)] at eI2
    rw [nI_clamp (by omega)] at eI3
    rw [nI_clamp (by omega)] at eI4
    rw [show v5 = nI (k + 1) by rw [ev5, nI_p1]]
    have h3 : ∀ c, c ≠ 114 → c ≠ 115 → c ≠ 116 → c ≠ 117 → I4 c = V c := fun c q0 q1 q2 q3 => by rw [eI4, upc q3, eI3, upc q2, eI2, upc q1, eI1, upc q0]; exact h2 c q0 q1 q2 q3
    refine ih (k + 1) I4 (by omega) (fun j hj => ?_) h3
    by_cases e : j = k
    · rw [e]; exact ⟨by rw [eI4, upc (by decide), eI3, upc (by decide), eI2, upc (by decide), eI1, upq, h2 103 (by decide) (by decide) (by decide) (by decide)], by rw [eI4, upc (by decide), eI3, upc (by decide), eI2, upq, eI1, upc (by decide), h2 104 (by decide) (by decide) (by decide) (by decide)], by rw [eI4, upc (by decide), eI3, upq, eI2, upc (by decide), eI1, upc (by decide), h2 105 (by decide) (by decide) (by decide) (by decide)], by rw [eI4, upq, eI3, upc (by decide), eI2, upc (by decide), eI1, upc (by decide), h2 106 (by decide) (by decide) (by decide) (by decide)]⟩
    · have g := h1 j (by omega)
      exact ⟨by rw [eI4, upc (by decide), eI3, upc (by decide), eI2, upc (by decide), eI1, ups e]; exact g.1, by rw [eI4, upc (by decide), eI3, upc (by decide), eI2, ups e, eI1, upc (by decide)]; exact g.2.1, by rw [eI4, upc (by decide), eI3, ups e, eI2, upc (by decide), eI1, upc (by decide)]; exact g.2.2.1, by rw [eI4, ups e, eI3, upc (by decide), eI2, upc (by decide), eI1, upc (by decide)]; exact g.2.2.2⟩
set_option maxRecDepth 100000 in
theorem l_lc155 (r : MR) (J : MJ) (V : MI) (post : Option Value → MI → MR → MJ → Prop) (kx : ∀ Y : MI, (∀ j, j < 40 → Y 118 j = V 107 j) → (∀ c, c ≠ 118 → Y c = V c) → Wq MX12_land 179 [some (.ref 100), some (.int (nI 40))] [] Y r J post) : ∀ (f : Nat) (k : Nat) (Y : MI) (_ : k + f = 40) (_ : ∀ j, j < k → Y 118 j = V 107 j) (_ : ∀ c, c ≠ 118 → Y c = V c), Wq MX12_land 155 [some (.ref 100), some (.int (nI k))] [] Y r J (post) := by
  intro f
  induction f with
  | zero =>
    intro k Y hkf h1 h2
    refine x_iload_n (q := 156) dX12_land_155 rfl rfl ?_
    refine x_bipush (40) (q := 158) dX12_land_156 rfl (by decide) ?_
    refine x_icmp_ge (t := 179) (q := 161) dX12_land_158 (by decide) rfl (fun c158 => ?_) (fun c158 => absurd c158 (fun q => q (nI_le (a := 40) (by omega) (by omega))))
    obtain rfl : k = 40 := by omega
    exact kx Y h1 h2
  | succ f ih =>
    intro k Y hkf h1 h2
    refine x_iload_n (q := 156) dX12_land_155 rfl rfl ?_
    refine x_bipush (40) (q := 158) dX12_land_156 rfl (by decide) ?_
    refine x_icmp_ge (t := 179) (q := 161) dX12_land_158 (by decide) rfl (fun c158 => absurd c158 (nI_ge (b := 40) (by omega) (by decide))) (fun c158 => ?_)
    refine x_aload_n (q := 162) dX12_land_161 rfl rfl ?_
    refine q_gr (K := 26) (b := 118) (q := 165) dX12_land_162 rfl cl_12 (by decide) tw_1108 rfl rfl rfl ?_
    refine x_iload_n (q := 166) dX12_land_165 rfl rfl ?_
    refine x_aload_n (q := 167) dX12_land_166 rfl rfl ?_
    refine q_gr (K := 15) (b := 107) (q := 170) dX12_land_167 rfl cl_12 (by decide) tw_1097 rfl rfl rfl ?_
    refine x_iload_n (q := 171) dX12_land_170 rfl rfl ?_
    refine q_iald (q := 172) dX12_land_171 rfl rfl (vp_in_nI (by omega) (by decide)) ?_
    refine q_iast (q := 173) dX12_land_172 rfl rfl (vp_in_nI (by omega) (by decide)) (fun I1 eI1 => ?_)
    obtain ⟨v2, ev2⟩ : ∃ y_ : Int32, y_ = (nI k) + 1 := ⟨_, rfl⟩
    refine x_iinc (v := v2) (L2 := [some (.ref 100), some (.int v2)]) (q := 176) dX12_land_173 rfl (by decide) rfl rfl (by rw [ev2]; rfl) rfl ?_
    refine x_goto (t := 155) dX12_land_176 (by decide) ?_
    rw [nI_clamp (by omega)] at eI1
    rw [show v2 = nI (k + 1) by rw [ev2, nI_p1]]
    have h3 : ∀ c, c ≠ 118 → I1 c = V c := fun c q0 => by rw [eI1, upc q0]; exact h2 c q0
    refine ih (k + 1) I1 (by omega) (fun j hj => ?_) h3
    by_cases e : j = k
    · rw [e]; exact by rw [eI1, upq, h2 107 (by decide)]
    · have g := h1 j (by omega)
      exact by rw [eI1, ups e]; exact g
set_option maxRecDepth 100000 in
theorem l_lc181 (r : MR) (J : MJ) (V : MI) (post : Option Value → MI → MR → MJ → Prop) (kx : ∀ Y : MI, (∀ j, j < 64 → Y 119 j = V 108 j) → (∀ c, c ≠ 119 → Y c = V c) → Wq MX12_land 205 [some (.ref 100), some (.int (nI 64))] [] Y r J post) : ∀ (f : Nat) (k : Nat) (Y : MI) (_ : k + f = 64) (_ : ∀ j, j < k → Y 119 j = V 108 j) (_ : ∀ c, c ≠ 119 → Y c = V c), Wq MX12_land 181 [some (.ref 100), some (.int (nI k))] [] Y r J (post) := by
  intro f
  induction f with
  | zero =>
    intro k Y hkf h1 h2
    refine x_iload_n (q := 182) dX12_land_181 rfl rfl ?_
    refine x_bipush (64) (q := 184) dX12_land_182 rfl (by decide) ?_
    refine x_icmp_ge (t := 205) (q := 187) dX12_land_184 (by decide) rfl (fun c184 => ?_) (fun c184 => absurd c184 (fun q => q (nI_le (a := 64) (by omega) (by omega))))
    obtain rfl : k = 64 := by omega
    exact kx Y h1 h2
  | succ f ih =>
    intro k Y hkf h1 h2
    refine x_iload_n (q := 182) dX12_land_181 rfl rfl ?_
    refine x_bipush (64) (q := 184) dX12_land_182 rfl (by decide) ?_
    refine x_icmp_ge (t := 205) (q := 187) dX12_land_184 (by decide) rfl (fun c184 => absurd c184 (nI_ge (b := 64) (by omega) (by decide))) (fun c184 => ?_)
    refine x_aload_n (q := 188) dX12_land_187 rfl rfl ?_
    refine q_gr (K := 27) (b := 119) (q := 191) dX12_land_188 rfl cl_12 (by decide) tw_1109 rfl rfl rfl ?_
    refine x_iload_n (q := 192) dX12_land_191 rfl rfl ?_
    refine x_aload_n (q := 193) dX12_land_192 rfl rfl ?_
    refine q_gr (K := 16) (b := 108) (q := 196) dX12_land_193 rfl cl_12 (by decide) tw_1098 rfl rfl rfl ?_
    refine x_iload_n (q := 197) dX12_land_196 rfl rfl ?_
    refine q_iald (q := 198) dX12_land_197 rfl rfl (vp_in_nI (by omega) (by decide)) ?_
    refine q_iast (q := 199) dX12_land_198 rfl rfl (vp_in_nI (by omega) (by decide)) (fun I1 eI1 => ?_)
    obtain ⟨v2, ev2⟩ : ∃ y_ : Int32, y_ = (nI k) + 1 := ⟨_, rfl⟩
    refine x_iinc (v := v2) (L2 := [some (.ref 100), some (.int v2)]) (q := 202) dX12_land_199 rfl (by decide) rfl rfl (by rw [ev2]; rfl) rfl ?_
    refine x_goto (t := 181) dX12_land_202 (by decide) ?_
    rw [nI_clamp (by omega)] at eI1
    rw [show v2 = nI (k + 1) by rw [ev2, nI_p1]]
    have h3 : ∀ c, c ≠ 119 → I1 c = V c := fun c q0 => by rw [eI1, upc q0]; exact h2 c q0
    refine ih (k + 1) I1 (by omega) (fun j hj => ?_) h3
    by_cases e : j = k
    · rw [e]; exact by rw [eI1, upq, h2 108 (by decide)]
    · have g := h1 j (by omega)
      exact by rw [eI1, ups e]; exact g
set_option maxRecDepth 100000 in
theorem l_lc207 (r : MR) (J : MJ) (V : MI) (post : Option Value → MI → MR → MJ → Prop) (kx : ∀ Y : MI, (∀ j, j < 12 → Y 120 j = V 109 j ∧ Y 121 j = V 110 j ∧ Y 122 j = V 111 j) → (∀ c, c ≠ 120 → c ≠ 121 → c ≠ 122 → Y c = V c) → Wq MX12_land 255 [some (.ref 100), some (.int (nI 12))] [] Y r J post) : ∀ (f : Nat) (k : Nat) (Y : MI) (_ : k + f = 12) (_ : ∀ j, j < k → Y 120 j = V 109 j ∧ Y 121 j = V 110 j ∧ Y 122 j = V 111 j) (_ : ∀ c, c ≠ 120 → c ≠ 121 → c ≠ 122 → Y c = V c), Wq MX12_land 207 [some (.ref 100), some (.int (nI k))] [] Y r J (post) := by
  intro f
  induction f with
  | zero =>
    intro k Y hkf h1 h2
    refine x_iload_n (q := 208) dX12_land_207 rfl rfl ?_
    refine x_bipush (12) (q := 210) dX12_land_208 rfl (by decide) ?_
    refine x_icmp_ge (t := 255) (q := 213) dX12_land_210 (by decide) rfl (fun c210 => ?_) (fun c210 => absurd c210 (fun q => q (nI_le (a := 12) (by omega) (by omega))))
    obtain rfl : k = 12 := by omega
    exact kx Y h1 h2
  | succ f ih =>
    intro k Y hkf h1 h2
    refine x_iload_n (q := 208) dX12_land_207 rfl rfl ?_
    refine x_bipush (12) (q := 210) dX12_land_208 rfl (by decide) ?_
    refine x_icmp_ge (t := 255) (q := 213) dX12_land_210 (by decide) rfl (fun c210 => absurd c210 (nI_ge (b := 12) (by omega) (by decide))) (fun c210 => ?_)
    refine x_aload_n (q := 214) dX12_land_213 rfl rfl ?_
    refine q_gr (K := 28) (b := 120) (q := 217) dX12_land_214 rfl cl_12 (by decide) tw_1110 rfl rfl rfl ?_
    refine x_iload_n (q := 218) dX12_land_217 rfl rfl ?_
    refine x_aload_n (q := 219) dX12_land_218 rfl rfl ?_
    refine q_gr (K := 17) (b := 109) (q := 222) dX12_land_219 rfl cl_12 (by decide) tw_1099 rfl rfl rfl ?_
    refine x_iload_n (q := 223) dX12_land_222 rfl rfl ?_
    refine q_iald (q := 224) dX12_land_223 rfl rfl (vp_in_nI (by omega) (by decide)) ?_
    refine q_iast (q := 225) dX12_land_224 rfl rfl (vp_in_nI (by omega) (by decide)) (fun I1 eI1 => ?_)
    refine x_aload_n (q := 226) dX12_land_225 rfl rfl ?_
    refine q_gr (K := 29) (b := 121) (q := 229) dX12_land_226 rfl cl_12 (by decide) tw_1111 rfl rfl rfl ?_
    refine x_iload_n (q := 230) dX12_land_229 rfl rfl ?_
    refine x_aload_n (q := 231) dX12_land_230 rfl rfl ?_
    refine q_gr (K := 18) (b := 110) (q := 234) dX12_land_231 rfl cl_12 (by decide) tw_1100 rfl rfl rfl ?_
    refine x_iload_n (q := 235) dX12_land_234 rfl rfl ?_
    refine q_iald (q := 236) dX12_land_235 rfl rfl (vp_in_nI (by omega) (by decide)) ?_
    refine q_iast (q := 237) dX12_land_236 rfl rfl (vp_in_nI (by omega) (by decide)) (fun I2 eI2 => ?_)
    refine x_aload_n (q := 238) dX12_land_237 rfl rfl ?_
    refine q_gr (K := 30) (b := 122) (q := 241) dX12_land_238 rfl cl_12 (by decide) tw_1112 rfl rfl rfl ?_
    refine x_iload_n (q := 242) dX12_land_241 rfl rfl ?_
    refine x_aload_n (q := 243) dX12_land_242 rfl rfl ?_
    refine q_gr (K := 19) (b := 111) (q := 246) dX12_land_243 rfl cl_12 (by decide) tw_1101 rfl rfl rfl ?_
    refine x_iload_n (q := 247) dX12_land_246 rfl rfl ?_
    refine q_iald (q := 248) dX12_land_247 rfl rfl (vp_in_nI (by omega) (by decide)) ?_
    refine q_iast (q := 249) dX12_land_248 rfl rfl (vp_in_nI (by omega) (by decide)) (fun I3 eI3 => ?_)
    obtain ⟨v4, ev4⟩ : ∃ y_ : Int32, y_ = (nI k) + 1 := ⟨_, rfl⟩
    refine x_iinc (v := v4) (L2 := [some (.ref 100), some (.int v4)]) (q := 252) dX12_land_249 rfl (by decide) rfl rfl (by rw [ev4]; rfl) rfl ?_
    refine x_goto (t := 207) dX12_land_252 (by decide) ?_
    rw [nI_clamp (by omega)] at eI1
    rw [nI_clamp (by omega)] at eI2
    rw [nI_clamp (by omega)] at eI3
    rw [show v4 = nI (k + 1) by rw [ev4, nI_p1]]
    have h3 : ∀ c, c ≠ 120 → c ≠ 121 → c ≠ 122 → I3 c = V c := fun c q0 q1 q2 => by rw [eI3, upc q2, eI2, upc q1, eI1, upc q0]; exact h2 c q0 q1 q2
    refine ih (k + 1) I3 (by omega) (fun j hj => ?_) h3
    by_cases e : j = k
    · rw [e]; exact ⟨by rw [eI3, upc (by decide), eI2, upc (by decide), eI1, upq, h2 109 (by decide) (by decide) (by decide)], by rw [eI3, upc (by decide), eI2, upq, eI1, upc (by decide), h2 110 (by decide) (by decide) (by decide)], by rw [eI3, upq, eI2, upc (by decide), eI1, upc (by decide), h2 111 (by decide) (by decide) (by decide)]⟩
    · have g := h1 j (by omega)
      exact ⟨by rw [eI3, upc (by decide), eI2, upc (by decide), eI1, ups e]; exact g.1, by rw [eI3, upc (by decide), eI2, ups e, eI1, upc (by decide)]; exact g.2.1, by rw [eI3, ups e, eI2, upc (by decide), eI1, upc (by decide)]; exact g.2.2⟩
set_option maxRecDepth 100000 in
theorem l_lc257 (r : MR) (J : MJ) (V : MI) (post : Option Value → MI → MR → MJ → Prop) (kx : ∀ Y : MI, (∀ j, j < 7 → Y 123 j = V 112 j ∧ Y 124 j = V 113 j) → (∀ c, c ≠ 123 → c ≠ 124 → Y c = V c) → Wq MX12_land 293 [some (.ref 100), some (.int (nI 7))] [] Y r J post) : ∀ (f : Nat) (k : Nat) (Y : MI) (_ : k + f = 7) (_ : ∀ j, j < k → Y 123 j = V 112 j ∧ Y 124 j = V 113 j) (_ : ∀ c, c ≠ 123 → c ≠ 124 → Y c = V c), Wq MX12_land 257 [some (.ref 100), some (.int (nI k))] [] Y r J (post) := by
  intro f
  induction f with
  | zero =>
    intro k Y hkf h1 h2
    refine x_iload_n (q := 258) dX12_land_257 rfl rfl ?_
    refine x_bipush (7) (q := 260) dX12_land_258 rfl (by decide) ?_
    refine x_icmp_ge (t := 293) (q := 263) dX12_land_260 (by decide) rfl (fun c260 => ?_) (fun c260 => absurd c260 (fun q => q (nI_le (a := 7) (by omega) (by omega))))
    obtain rfl : k = 7 := by omega
    exact kx Y h1 h2
  | succ f ih =>
    intro k Y hkf h1 h2
    refine x_iload_n (q := 258) dX12_land_257 rfl rfl ?_
    refine x_bipush (7) (q := 260) dX12_land_258 rfl (by decide) ?_
    refine x_icmp_ge (t := 293) (q := 263) dX12_land_260 (by decide) rfl (fun c260 => absurd c260 (nI_ge (b := 7) (by omega) (by decide))) (fun c260 => ?_)
    refine x_aload_n (q := 264) dX12_land_263 rfl rfl ?_
    refine q_gr (K := 31) (b := 123) (q := 267) dX12_land_264 rfl cl_12 (by decide) tw_1113 rfl rfl rfl ?_
    refine x_iload_n (q := 268) dX12_land_267 rfl rfl ?_
    refine x_aload_n (q := 269) dX12_land_268 rfl rfl ?_
    refine q_gr (K := 20) (b := 112) (q := 272) dX12_land_269 rfl cl_12 (by decide) tw_1102 rfl rfl rfl ?_
    refine x_iload_n (q := 273) dX12_land_272 rfl rfl ?_
    refine q_iald (q := 274) dX12_land_273 rfl rfl (vp_in_nI (by omega) (by decide)) ?_
    refine q_iast (q := 275) dX12_land_274 rfl rfl (vp_in_nI (by omega) (by decide)) (fun I1 eI1 => ?_)
    refine x_aload_n (q := 276) dX12_land_275 rfl rfl ?_
    refine q_gr (K := 32) (b := 124) (q := 279) dX12_land_276 rfl cl_12 (by decide) tw_1114 rfl rfl rfl ?_
    refine x_iload_n (q := 280) dX12_land_279 rfl rfl ?_
    refine x_aload_n (q := 281) dX12_land_280 rfl rfl ?_
    refine q_gr (K := 21) (b := 113) (q := 284) dX12_land_281 rfl cl_12 (by decide) tw_1103 rfl rfl rfl ?_
    refine x_iload_n (q := 285) dX12_land_284 rfl rfl ?_
    refine q_iald (q := 286) dX12_land_285 rfl rfl (vp_in_nI (by omega) (by decide)) ?_
    refine q_iast (q := 287) dX12_land_286 rfl rfl (vp_in_nI (by omega) (by decide)) (fun I2 eI2 => ?_)
    obtain ⟨v3, ev3⟩ : ∃ y_ : Int32, y_ = (nI k) + 1 := ⟨_, rfl⟩
    refine x_iinc (v := v3) (L2 := [some (.ref 100), some (.int v3)]) (q := 290) dX12_land_287 rfl (by decide) rfl rfl (by rw [ev3]; rfl) rfl ?_
    refine x_goto (t := 257) dX12_land_290 (by decide) ?_
    rw [nI_clamp (by omega)] at eI1
    rw [nI_clamp (by omega)] at eI2
    rw [show v3 = nI (k + 1) by rw [ev3, nI_p1]]
    have h3 : ∀ c, c ≠ 123 → c ≠ 124 → I2 c = V c := fun c q0 q1 => by rw [eI2, upc q1, eI1, upc q0]; exact h2 c q0 q1
    refine ih (k + 1) I2 (by omega) (fun j hj => ?_) h3
    by_cases e : j = k
    · rw [e]; exact ⟨by rw [eI2, upc (by decide), eI1, upq, h2 112 (by decide) (by decide)], by rw [eI2, upq, eI1, upc (by decide), h2 113 (by decide) (by decide)]⟩
    · have g := h1 j (by omega)
      exact ⟨by rw [eI2, upc (by decide), eI1, ups e]; exact g.1, by rw [eI2, ups e, eI1, upc (by decide)]; exact g.2⟩
set_option maxRecDepth 100000 in
theorem l_lc295 (r : MR) (J : MJ) (V : MI) (post : Option Value → MI → MR → MJ → Prop) (kx : ∀ Y : MI, (∀ j, j < 40 → Y 126 j = V 118 j) → (∀ c, c ≠ 126 → Y c = V c) → Wq MX12_land 319 [some (.ref 100), some (.int (nI 40))] [] Y r J post) : ∀ (f : Nat) (k : Nat) (Y : MI) (_ : k + f = 40) (_ : ∀ j, j < k → Y 126 j = V 118 j) (_ : ∀ c, c ≠ 126 → Y c = V c), Wq MX12_land 295 [some (.ref 100), some (.int (nI k))] [] Y r J (post) := by
  intro f
  induction f with
  | zero =>
    intro k Y hkf h1 h2
    refine x_iload_n (q := 296) dX12_land_295 rfl rfl ?_
    refine x_bipush (40) (q := 298) dX12_land_296 rfl (by decide) ?_
    refine x_icmp_ge (t := 319) (q := 301) dX12_land_298 (by decide) rfl (fun c298 => ?_) (fun c298 => absurd c298 (fun q => q (nI_le (a := 40) (by omega) (by omega))))
    obtain rfl : k = 40 := by omega
    exact kx Y h1 h2
  | succ f ih =>
    intro k Y hkf h1 h2
    refine x_iload_n (q := 296) dX12_land_295 rfl rfl ?_
    refine x_bipush (40) (q := 298) dX12_land_296 rfl (by decide) ?_
    refine x_icmp_ge (t := 319) (q := 301) dX12_land_298 (by decide) rfl (fun c298 => absurd c298 (nI_ge (b := 40) (by omega) (by decide))) (fun c298 => ?_)
    refine x_aload_n (q := 302) dX12_land_301 rfl rfl ?_
    refine q_gr (K := 53) (b := 126) (q := 305) dX12_land_302 rfl cl_12 (by decide) tw_1135 rfl rfl rfl ?_
    refine x_iload_n (q := 306) dX12_land_305 rfl rfl ?_
    refine x_aload_n (q := 307) dX12_land_306 rfl rfl ?_
    refine q_gr (K := 26) (b := 118) (q := 310) dX12_land_307 rfl cl_12 (by decide) tw_1108 rfl rfl rfl ?_
    refine x_iload_n (q := 311) dX12_land_310 rfl rfl ?_
    refine q_iald (q := 312) dX12_land_311 rfl rfl (vp_in_nI (by omega) (by decide)) ?_
    refine q_iast (q := 313) dX12_land_312 rfl rfl (vp_in_nI (by omega) (by decide)) (fun I1 eI1 => ?_)
    obtain ⟨v2, ev2⟩ : ∃ y_ : Int32, y_ = (nI k) + 1 := ⟨_, rfl⟩
    refine x_iinc (v := v2) (L2 := [some (.ref 100), some (.int v2)]) (q := 316) dX12_land_313 rfl (by decide) rfl rfl (by rw [ev2]; rfl) rfl ?_
    refine x_goto (t := 295) dX12_land_316 (by decide) ?_
    rw [nI_clamp (by omega)] at eI1
    rw [show v2 = nI (k + 1) by rw [ev2, nI_p1]]
    have h3 : ∀ c, c ≠ 126 → I1 c = V c := fun c q0 => by rw [eI1, upc q0]; exact h2 c q0
    refine ih (k + 1) I1 (by omega) (fun j hj => ?_) h3
    by_cases e : j = k
    · rw [e]; exact by rw [eI1, upq, h2 118 (by decide)]
    · have g := h1 j (by omega)
      exact by rw [eI1, ups e]; exact g
set_option maxRecDepth 100000 in
theorem l_lc321 (r : MR) (J : MJ) (V : MI) (post : Option Value → MI → MR → MJ → Prop) (kx : ∀ Y : MI, (∀ j, j < 32 → Y 127 j = 0) → (∀ c, c ≠ 127 → Y c = V c) → Wq MX12_land 340 [some (.ref 100), some (.int (nI 32))] [] Y r J post) : ∀ (f : Nat) (k : Nat) (Y : MI) (_ : k + f = 32) (_ : ∀ j, j < k → Y 127 j = 0) (_ : ∀ c, c ≠ 127 → Y c = V c), Wq MX12_land 321 [some (.ref 100), some (.int (nI k))] [] Y r J (post) := by
  intro f
  induction f with
  | zero =>
    intro k Y hkf h1 h2
    refine x_iload_n (q := 322) dX12_land_321 rfl rfl ?_
    refine x_bipush (32) (q := 324) dX12_land_322 rfl (by decide) ?_
    refine x_icmp_ge (t := 340) (q := 327) dX12_land_324 (by decide) rfl (fun c324 => ?_) (fun c324 => absurd c324 (fun q => q (nI_le (a := 32) (by omega) (by omega))))
    obtain rfl : k = 32 := by omega
    exact kx Y h1 h2
  | succ f ih =>
    intro k Y hkf h1 h2
    refine x_iload_n (q := 322) dX12_land_321 rfl rfl ?_
    refine x_bipush (32) (q := 324) dX12_land_322 rfl (by decide) ?_
    refine x_icmp_ge (t := 340) (q := 327) dX12_land_324 (by decide) rfl (fun c324 => absurd c324 (nI_ge (b := 32) (by omega) (by decide))) (fun c324 => ?_)
    refine x_aload_n (q := 328) dX12_land_327 rfl rfl ?_
    refine q_gr (K := 54) (b := 127) (q := 331) dX12_land_328 rfl cl_12 (by decide) tw_1136 rfl rfl rfl ?_
    refine x_iload_n (q := 332) dX12_land_331 rfl rfl ?_
    refine x_iconst (0) (q := 333) dX12_land_332 rfl (by decide) ?_
    refine q_iast (q := 334) dX12_land_333 rfl rfl (vp_in_nI (by omega) (by decide)) (fun I1 eI1 => ?_)
    obtain ⟨v2, ev2⟩ : ∃ y_ : Int32, y_ = (nI k) + 1 := ⟨_, rfl⟩
    refine x_iinc (v := v2) (L2 := [some (.ref 100), some (.int v2)]) (q := 337) dX12_land_334 rfl (by decide) rfl rfl (by rw [ev2]; rfl) rfl ?_
    refine x_goto (t := 321) dX12_land_337 (by decide) ?_
    rw [nI_clamp (by omega)] at eI1
    rw [show v2 = nI (k + 1) by rw [ev2, nI_p1]]
    have h3 : ∀ c, c ≠ 127 → I1 c = V c := fun c q0 => by rw [eI1, upc q0]; exact h2 c q0
    refine ih (k + 1) I1 (by omega) (fun j hj => ?_) h3
    by_cases e : j = k
    · rw [e]; exact by rw [eI1, upq]
    · have g := h1 j (by omega)
      exact by rw [eI1, ups e]; exact g
set_option maxRecDepth 100000 in
theorem l_lc383 (r : MR) (J : MJ) (V : MI) (post : Option Value → MI → MR → MJ → Prop) (kx : ∀ Y : MI, (∀ j, j < 3 → Y 142 j = 0) → (∀ c, c ≠ 142 → Y c = V c) → Wq MX12_land 401 [some (.ref 100), some (.int (nI 3))] [] Y r J post) : ∀ (f : Nat) (k : Nat) (Y : MI) (_ : k + f = 3) (_ : ∀ j, j < k → Y 142 j = 0) (_ : ∀ c, c ≠ 142 → Y c = V c), Wq MX12_land 383 [some (.ref 100), some (.int (nI k))] [] Y r J (post) := by
  intro f
  induction f with
  | zero =>
    intro k Y hkf h1 h2
    refine x_iload_n (q := 384) dX12_land_383 rfl rfl ?_
    refine x_iconst (3) (q := 385) dX12_land_384 rfl (by decide) ?_
    refine x_icmp_ge (t := 401) (q := 388) dX12_land_385 (by decide) rfl (fun c385 => ?_) (fun c385 => absurd c385 (fun q => q (nI_le (a := 3) (by omega) (by omega))))
    obtain rfl : k = 3 := by omega
    exact kx Y h1 h2
  | succ f ih =>
    intro k Y hkf h1 h2
    refine x_iload_n (q := 384) dX12_land_383 rfl rfl ?_
    refine x_iconst (3) (q := 385) dX12_land_384 rfl (by decide) ?_
    refine x_icmp_ge (t := 401) (q := 388) dX12_land_385 (by decide) rfl (fun c385 => absurd c385 (nI_ge (b := 3) (by omega) (by decide))) (fun c385 => ?_)
    refine x_aload_n (q := 389) dX12_land_388 rfl rfl ?_
    refine q_gr (K := 75) (b := 142) (q := 392) dX12_land_389 rfl cl_12 (by decide) tw_1157 rfl rfl rfl ?_
    refine x_iload_n (q := 393) dX12_land_392 rfl rfl ?_
    refine x_iconst (0) (q := 394) dX12_land_393 rfl (by decide) ?_
    refine q_zast (q := 395) dX12_land_394 rfl (by decide) rfl (vp_in_nI (by omega) (by decide)) (fun I1 eI1 => ?_)
    obtain ⟨v2, ev2⟩ : ∃ y_ : Int32, y_ = (nI k) + 1 := ⟨_, rfl⟩
    refine x_iinc (v := v2) (L2 := [some (.ref 100), some (.int v2)]) (q := 398) dX12_land_395 rfl (by decide) rfl rfl (by rw [ev2]; rfl) rfl ?_
    refine x_goto (t := 383) dX12_land_398 (by decide) ?_
    rw [nI_clamp (by omega)] at eI1
    rw [show v2 = nI (k + 1) by rw [ev2, nI_p1]]
    have h3 : ∀ c, c ≠ 142 → I1 c = V c := fun c q0 => by rw [eI1, upc q0]; exact h2 c q0
    refine ih (k + 1) I1 (by omega) (fun j hj => ?_) h3
    by_cases e : j = k
    · rw [e]; exact by rw [eI1, upq]
    · have g := h1 j (by omega)
      exact by rw [eI1, ups e]; exact g
def CP (V Y : MI) : Prop := (∀ j, j < 8 → Y 114 j = V 103 j ∧ Y 115 j = V 104 j ∧ Y 116 j = V 105 j ∧ Y 117 j = V 106 j) ∧ (∀ j, j < 40 → Y 118 j = V 107 j) ∧ (∀ j, j < 64 → Y 119 j = V 108 j) ∧ (∀ j, j < 12 → Y 120 j = V 109 j ∧ Y 121 j = V 110 j ∧ Y 122 j = V 111 j) ∧ (∀ j, j < 7 → Y 123 j = V 112 j ∧ Y 124 j = V 113 j) ∧ (∀ j, j < 40 → Y 126 j = V 107 j) ∧ (∀ j, j < 32 → Y 127 j = 0) ∧ (∀ j, j < 3 → Y 142 j = 0)
def FX (A : MI) (y w h c : Nat) (Y : MI) : Prop := Y 100 41 = nI y ∧ Y 100 42 = nI w ∧ Y 100 43 = nI h ∧ Y 100 44 = nI c ∧ Y 100 45 = A 0 13 ∧ Y 100 46 = A 0 14 ∧ Y 100 47 = A 0 15 ∧ Y 100 55 = 0 ∧ Y 100 56 = 0 ∧ Y 100 57 = A 0 16 ∧ Y 100 72 = 0 ∧ Y 100 61 = 0
def FRm (M : MI) (J : MJ) (Y : MI) (K : MJ) : Prop := (∀ c, c ≠ 100 → ¬ (102 ≤ c ∧ c ≤ 124) → c ≠ 126 → c ≠ 127 → c ≠ 142 → Y c = M c) ∧ Y 100 73 = M 100 73 ∧ (∀ c k, c ≠ 102 → ¬ (c = 100 ∧ k = 9) → K c k = J c k) ∧ Y 100 1 = 0 ∧ Y 100 2 = 0 ∧ Y 100 3 = -1
def LG (T : Nat → Nat) (n : Nat) (A M : MI) (J : MJ) (r : MR) : Option Value → MI → MR → MJ → Prop := fun v Y r' K => ∃ (y w h c : Nat) (V : MI), v = some (.int (nI y)) ∧ r' = r ∧ MD T n A y w h c V K ∧ CP V Y ∧ FX A y w h c Y ∧ FRm M J Y K
theorem oM_v {A M : MI} {tb k j a : Nat} {d : Int32} (h : oM A M tb k j a d) (e : M 100 j = -1 ∨ True) : (M 100 j < 0 → A 0 a = d) ∧ (¬ M 100 j < 0 → A 0 a = M 100 j) := by
  by_cases z : tb.testBit k = true
  · obtain ⟨v, v1, v2, v3⟩ := h.2 z
    exact ⟨fun w => absurd w (by rw [v3]; exact nI_ge0 (by omega)), fun _ => by rw [v2, v3]⟩
  · have g := h.1 (eq_false_of_ne_true z)
    exact ⟨fun _ => g.2, fun w => absurd (by rw [g.1]; decide) w⟩
set_option maxRecDepth 100000 in
theorem c_Mland_b {T : Nat → Nat} {n : Nat} (r : MR) {M : MI} (J : MJ) (hT : TXM T n M) (h1 : M 100 1 = nI n) {A : MI} (hA : A 0 1 = 0 ∧ A 0 5 = 0 ∧ A 0 9 = 0 ∧ A 0 12 = 0 ∧ A 0 13 = 0 ∧ A 0 14 = 0 ∧ A 0 15 = -1 ∧ A 0 16 = 999 ∧ A 0 17 = 0 ∧ A 5 0 = 0 ∧ A 6 0 = 0 ∧ A 7 0 = 0) {R : (Nat × Nat × Nat) × MI} (hR : R = pF T n (n + 1) (0, 0, 0) A) (hf : ¬ R.1.1 = 0) : Cq yX12_land MX12_land [.ref 100] M r J (fun v Y r' K => v = some (.int (-1)) ∧ PM T n R.1 Y K ∧ FA M J Y K ∧ r' = r) := by
  refine cq_of [some (.ref 100), none] 1 (by decide +kernel) rfl rfl (Nat.le_of_ble_eq_true rfl) rfl ?_
  refine x_aload_n (q := 1) dX12_land_0 rfl rfl ?_
  refine q_callV (ci := 12) (N := 79) (T := TX12) (As := []) (rest := []) (q := 4) dX12_land_1 rfl okX12_readAll tw_1336 rfl rfl (c_ra r J hT h1 hA) rfl rfl (Nat.le_of_ble_eq_true rfl) ⟨by decide, by decide⟩ ⟨rfl, rfl⟩ (fun rv_ V r_ K hv_ => ?_)
  obtain ⟨a1_, pm0, fa0, md0, a3_⟩ := hv_
  rw [a1_, a3_]
  rw [← hR] at pm0 md0
  show Wq MX12_land 4 [some (.ref 100), none] [] V r K _
  refine x_aload_n (q := 5) dX12_land_4 rfl rfl ?_
  refine q_gi (K := 2) (q := 8) dX12_land_5 rfl cl_12 (by decide) tw_1084 rfl rfl ?_
  refine x_if_le (t := 13) (q := 11) dX12_land_8 (by decide) rfl (fun c8 => absurd c8 (fun z => hf ((f_le pm0.2.2.1 pm0.2.2.2.2.2.1).mp z))) (fun c8 => ?_)
  refine x_iconst (-1) (q := 12) dX12_land_11 rfl (by decide) ?_
  refine q_iret dX12_land_12 rfl ?_
  exact ⟨rfl, pm0, fa0, rfl⟩
set_option maxRecDepth 100000 in
theorem c_Mland_g {T : Nat → Nat} {n : Nat} (r : MR) {M : MI} (J : MJ) (hT : TXM T n M) (h1 : M 100 1 = nI n) {A : MI} (hA : A 0 1 = 0 ∧ A 0 5 = 0 ∧ A 0 9 = 0 ∧ A 0 12 = 0 ∧ A 0 13 = 0 ∧ A 0 14 = 0 ∧ A 0 15 = -1 ∧ A 0 16 = 999 ∧ A 0 17 = 0 ∧ A 5 0 = 0 ∧ A 6 0 = 0 ∧ A 7 0 = 0) {R : (Nat × Nat × Nat) × MI} (hR : R = pF T n (n + 1) (0, 0, 0) A) (hf : R.1.1 = 0) : Cq yX12_land MX12_land [.ref 100] M r J (LG T n R.2 M J r) := by
  refine cq_of [some (.ref 100), none] 1 (by decide +kernel) rfl rfl (Nat.le_of_ble_eq_true rfl) rfl ?_
  refine x_aload_n (q := 1) dX12_land_0 rfl rfl ?_
  refine q_callV (ci := 12) (N := 79) (T := TX12) (As := []) (rest := []) (q := 4) dX12_land_1 rfl okX12_readAll tw_1336 rfl rfl (c_ra r J hT h1 hA) rfl rfl (Nat.le_of_ble_eq_true rfl) ⟨by decide, by decide⟩ ⟨rfl, rfl⟩ (fun rv_ V r_ K hv_ => ?_)
  obtain ⟨a1_, pm0, fa0, md0, a3_⟩ := hv_
  rw [a1_, a3_]
  rw [← hR] at pm0 md0
  show Wq MX12_land 4 [some (.ref 100), none] [] V r K _
  refine x_aload_n (q := 5) dX12_land_4 rfl rfl ?_
  refine q_gi (K := 2) (q := 8) dX12_land_5 rfl cl_12 (by decide) tw_1084 rfl rfl ?_
  refine x_if_le (t := 13) (q := 11) dX12_land_8 (by decide) rfl (fun c8 => ?_) (fun c8 => absurd c8 (fun z => z ((f_le pm0.2.2.1 pm0.2.2.2.2.2.1).mpr hf)))
  have zf := hf
  obtain ⟨y, w, h, c, hD⟩ := md0 hf
  obtain ⟨⟨k1, k5, k9, k12⟩, ⟨y8, w16, h12, s7⟩, ⟨m33, m34, m35, m36⟩, hMN, hMy, hMh, hMs, hMw, tb, t256, k17, o4, o5, o6, o7, o8⟩ := id hD
  refine x_aload_n (q := 14) dX12_land_13 rfl rfl ?_
  refine x_aload_n (q := 15) dX12_land_14 rfl rfl ?_
  refine q_gi (K := 33) (q := 18) dX12_land_15 rfl cl_12 (by decide) tw_1115 rfl rfl ?_
  refine q_pi (K := 41) (q := 21) dX12_land_18 rfl cl_12 (by decide) tw_1123 rfl rfl rfl rfl (fun I1 eI1 => ?_)
  refine x_aload_n (q := 22) dX12_land_21 rfl rfl ?_
  refine x_aload_n (q := 23) dX12_land_22 rfl rfl ?_
  refine q_gi (K := 34) (q := 26) dX12_land_23 rfl cl_12 (by decide) tw_1116 rfl rfl ?_
  refine q_pi (K := 42) (q := 29) dX12_land_26 rfl cl_12 (by decide) tw_1124 rfl rfl rfl rfl (fun I2 eI2 => ?_)
  refine x_aload_n (q := 30) dX12_land_29 rfl rfl ?_
  refine x_aload_n (q := 31) dX12_land_30 rfl rfl ?_
  refine q_gi (K := 35) (q := 34) dX12_land_31 rfl cl_12 (by decide) tw_1117 rfl rfl ?_
  refine q_pi (K := 43) (q := 37) dX12_land_34 rfl cl_12 (by decide) tw_1125 rfl rfl rfl rfl (fun I3 eI3 => ?_)
  refine x_aload_n (q := 38) dX12_land_37 rfl rfl ?_
  refine x_aload_n (q := 39) dX12_land_38 rfl rfl ?_
  refine q_gi (K := 36) (q := 42) dX12_land_39 rfl cl_12 (by decide) tw_1118 rfl rfl ?_
  refine q_pi (K := 44) (q := 45) dX12_land_42 rfl cl_12 (by decide) tw_1126 rfl rfl rfl rfl (fun I4 eI4 => ?_)
  have g41 : I4 100 41 = nI y := by rw [eI4, ups (by decide), eI3, ups (by decide), eI2, ups (by decide), eI1, upq]; exact m33
  have g42 : I4 100 42 = nI w := by rw [eI4, ups (by decide), eI3, ups (by decide), eI2, upq, eI1, ups (by decide)]; exact m34
  have g43 : I4 100 43 = nI h := by rw [eI4, ups (by decide), eI3, upq, eI2, ups (by decide), eI1, ups (by decide)]; exact m35
  have g44 : I4 100 44 = nI c := by rw [eI4, upq, eI3, ups (by decide), eI2, ups (by decide), eI1, ups (by decide)]; exact m36
  have o4_ : ∀ j, ¬ (41 ≤ j ∧ j ≤ 44) → I4 100 j = V 100 j := fun j q => by rw [eI4, ups (by omega), eI3, ups (by omega), eI2, ups (by omega), eI1, ups (by omega)]
  have c4_ : ∀ d, d ≠ 100 → I4 d = V d := fun d q => by rw [eI4, upc q, eI3, upc q, eI2, upc q, eI1, upc q]
  have key61 : ∀ x : Int32, x = R.2 0 13 → Wq MX12_land 61 [some (.ref 100), none] [.int x, .ref 100] I4 r K (LG T n R.2 M J r) := by
    intro x hx
    refine q_pi (K := 45) (q := 64) dX12_land_61 rfl cl_12 (by decide) tw_1127 rfl rfl rfl rfl (fun I21 eI21 => ?_)
    have o5_ : ∀ j, ¬ (41 ≤ j ∧ j ≤ 45) → I21 100 j = V 100 j := fun j q => by rw [eI21, ups (by omega)]; exact o4_ j (by omega)
    have c5_ : ∀ d, d ≠ 100 → I21 d = V d := fun d q => by rw [eI21, upc q]; exact c4_ d q
    have g5 : I21 100 41 = nI y ∧ I21 100 42 = nI w ∧ I21 100 43 = nI h ∧ I21 100 44 = nI c ∧ I21 100 45 = R.2 0 13 := ⟨by rw [eI21, ups (by decide)]; exact g41, by rw [eI21, ups (by decide)]; exact g42, by rw [eI21, ups (by decide)]; exact g43, by rw [eI21, ups (by decide)]; exact g44, by rw [eI21, upq]; exact hx⟩
    have key80 : ∀ x' : Int32, x' = R.2 0 14 → Wq MX12_land 80 [some (.ref 100), none] [.int x', .ref 100] I21 r K (LG T n R.2 M J r) := by
      intro x' hx'
      refine q_pi (K := 46) (q := 83) dX12_land_80 rfl cl_12 (by decide) tw_1128 rfl rfl rfl rfl (fun I41 eI41 => ?_)
      refine x_aload_n (q := 84) dX12_land_83 rfl rfl ?_
      refine x_aload_n (q := 85) dX12_land_84 rfl rfl ?_
      refine q_gi (K := 39) (q := 88) dX12_land_85 rfl cl_12 (by decide) tw_1121 rfl rfl ?_
      refine q_pi (K := 47) (q := 91) dX12_land_88 rfl cl_12 (by decide) tw_1129 rfl rfl rfl rfl (fun I42 eI42 => ?_)
      have o7_ : ∀ j, ¬ (41 ≤ j ∧ j ≤ 47) → I42 100 j = V 100 j := fun j q => by rw [eI42, ups (by omega), eI41, ups (by omega)]; exact o5_ j (by omega)
      have c7_ : ∀ d, d ≠ 100 → I42 d = V d := fun d q => by rw [eI42, upc q, eI41, upc q]; exact c5_ d q
      have h39 : V 100 39 = R.2 0 15 := by
        have q := oM_v o6 (Or.inr trivial)
        by_cases z : tb.testBit 6 = true
        · obtain ⟨v, v1, v2, v3⟩ := o6.2 z
          rw [v2, v3]
        · have g := o6.1 (eq_false_of_ne_true z)
          rw [g.1, g.2]
      have g7 : I42 100 41 = nI y ∧ I42 100 42 = nI w ∧ I42 100 43 = nI h ∧ I42 100 44 = nI c ∧ I42 100 45 = R.2 0 13 ∧ I42 100 46 = R.2 0 14 ∧ I42 100 47 = R.2 0 15 := ⟨by rw [eI42, ups (by decide), eI41, ups (by decide)]; exact g5.1, by rw [eI42, ups (by decide), eI41, ups (by decide)]; exact g5.2.1, by rw [eI42, ups (by decide), eI41, ups (by decide)]; exact g5.2.2.1, by rw [eI42, ups (by decide), eI41, ups (by decide)]; exact g5.2.2.2.1, by rw [eI42, ups (by decide), eI41, ups (by decide)]; exact g5.2.2.2.2, by rw [eI42, ups (by decide), eI41, upq]; exact hx', by rw [eI42, upq, eI41, ups (by decide), o5_ 39 (by decide)]; exact h39⟩
      refine x_iconst (0) (q := 92) dX12_land_91 rfl (by decide) ?_
      refine x_istore_n (L2 := [some (.ref 100), some (.int 0)]) (q := 93) dX12_land_92 rfl (by decide) rfl rfl ?_
      refine l_lc93 r K I42 _ (fun Y1 a1 b1 => ?_) 8 0 I42 (by omega) (fun j z => by omega) (fun _ _ _ _ _ => rfl)
      refine x_iconst (0) (q := 154) dX12_land_153 rfl (by decide) ?_
      refine x_istore_n (L2 := [some (.ref 100), some (.int 0)]) (q := 155) dX12_land_154 rfl (by decide) rfl rfl ?_
      refine l_lc155 r K Y1 _ (fun Y2 a2 b2 => ?_) 40 0 Y1 (by omega) (fun j z => by omega) (fun _ _ => rfl)
      refine x_iconst (0) (q := 180) dX12_land_179 rfl (by decide) ?_
      refine x_istore_n (L2 := [some (.ref 100), some (.int 0)]) (q := 181) dX12_land_180 rfl (by decide) rfl rfl ?_
      refine l_lc181 r K Y2 _ (fun Y3 a3 b3 => ?_) 64 0 Y2 (by omega) (fun j z => by omega) (fun _ _ => rfl)
      refine x_iconst (0) (q := 206) dX12_land_205 rfl (by decide) ?_
      refine x_istore_n (L2 := [some (.ref 100), some (.int 0)]) (q := 207) dX12_land_206 rfl (by decide) rfl rfl ?_
      refine l_lc207 r K Y3 _ (fun Y4 a4 b4 => ?_) 12 0 Y3 (by omega) (fun j z => by omega) (fun _ _ _ _ => rfl)
      refine x_iconst (0) (q := 256) dX12_land_255 rfl (by decide) ?_
      refine x_istore_n (L2 := [some (.ref 100), some (.int 0)]) (q := 257) dX12_land_256 rfl (by decide) rfl rfl ?_
      refine l_lc257 r K Y4 _ (fun Y5 a5 b5 => ?_) 7 0 Y4 (by omega) (fun j z => by omega) (fun _ _ _ => rfl)
      refine x_iconst (0) (q := 294) dX12_land_293 rfl (by decide) ?_
      refine x_istore_n (L2 := [some (.ref 100), some (.int 0)]) (q := 295) dX12_land_294 rfl (by decide) rfl rfl ?_
      refine l_lc295 r K Y5 _ (fun Y6 a6 b6 => ?_) 40 0 Y5 (by omega) (fun j z => by omega) (fun _ _ => rfl)
      refine x_iconst (0) (q := 320) dX12_land_319 rfl (by decide) ?_
      refine x_istore_n (L2 := [some (.ref 100), some (.int 0)]) (q := 321) dX12_land_320 rfl (by decide) rfl rfl ?_
      refine l_lc321 r K Y6 _ (fun Y7 a7 b7 => ?_) 32 0 Y6 (by omega) (fun j z => by omega) (fun _ _ => rfl)
      have f7 : ∀ j, Y7 100 j = I42 100 j := fun j => by rw [b7 100 (by decide), b6 100 (by decide), b5 100 (by decide) (by decide), b4 100 (by decide) (by decide) (by decide), b3 100 (by decide), b2 100 (by decide), b1 100 (by decide) (by decide) (by decide) (by decide)]
      refine x_aload_n (q := 341) dX12_land_340 rfl rfl ?_
      refine x_iconst (0) (q := 342) dX12_land_341 rfl (by decide) ?_
      refine q_pi (K := 55) (q := 345) dX12_land_342 rfl cl_12 (by decide) tw_1137 rfl rfl rfl rfl (fun I71 eI71 => ?_)
      refine x_aload_n (q := 346) dX12_land_345 rfl rfl ?_
      refine x_iconst (0) (q := 347) dX12_land_346 rfl (by decide) ?_
      refine q_pi (K := 56) (q := 350) dX12_land_347 rfl cl_12 (by decide) tw_1138 rfl rfl rfl rfl (fun I72 eI72 => ?_)
      have o8_ : ∀ j, j ≠ 55 → j ≠ 56 → I72 100 j = I42 100 j := fun j q1 q2 => by rw [eI72, ups q2, eI71, ups q1]; exact f7 j
      have c8_ : ∀ d, d ≠ 100 → I72 d = Y7 d := fun d q => by rw [eI72, upc q, eI71, upc q]
      have h55 : I72 100 55 = 0 ∧ I72 100 56 = 0 := ⟨by rw [eI72, ups (by decide), eI71, upq], by rw [eI72, upq]⟩
      have h40 : I72 100 40 = V 100 40 := by rw [o8_ 40 (by decide) (by decide)]; exact o7_ 40 (by decide)
      have key368 : ∀ x2 : Int32, x2 = R.2 0 16 → Wq MX12_land 368 [some (.ref 100), some (.int (nI 32))] [.int x2, .ref 100] I72 r K (LG T n R.2 M J r) := by
        intro x2 hx2
        refine q_pi (K := 57) (q := 371) dX12_land_368 rfl cl_12 (by decide) tw_1139 rfl rfl rfl rfl (fun I91 eI91 => ?_)
        refine x_aload_n (q := 372) dX12_land_371 rfl rfl ?_
        refine x_iconst (0) (q := 373) dX12_land_372 rfl (by decide) ?_
        refine q_pi (K := 72) (q := 376) dX12_land_373 rfl cl_12 (by decide) tw_1154 rfl rfl rfl rfl (fun I92 eI92 => ?_)
        refine x_aload_n (q := 377) dX12_land_376 rfl rfl ?_
        refine x_iconst (0) (q := 378) dX12_land_377 rfl (by decide) ?_
        refine q_pi (K := 61) (q := 381) dX12_land_378 rfl cl_12 (by decide) tw_1143 rfl rfl rfl rfl (fun I93 eI93 => ?_)
        have o9_ : ∀ j, j ≠ 57 → j ≠ 72 → j ≠ 61 → I93 100 j = I72 100 j := fun j q1 q2 q3 => by rw [eI93, ups q3, eI92, ups q2, eI91, ups q1]
        have c9_ : ∀ d, d ≠ 100 → I93 d = Y7 d := fun d q => by rw [eI93, upc q, eI92, upc q, eI91, upc q]; exact c8_ d q
        have h57 : I93 100 57 = R.2 0 16 ∧ I93 100 72 = 0 ∧ I93 100 61 = 0 := ⟨by rw [eI93, ups (by decide), eI92, ups (by decide), eI91, upq]; exact hx2, by rw [eI93, ups (by decide), eI92, upq], by rw [eI93, upq]⟩
        refine x_iconst (0) (q := 382) dX12_land_381 rfl (by decide) ?_
        refine x_istore_n (L2 := [some (.ref 100), some (.int 0)]) (q := 383) dX12_land_382 rfl (by decide) rfl rfl ?_
        refine l_lc383 r K I93 _ (fun Y8 a8 b8 => ?_) 3 0 I93 (by omega) (fun j z => by omega) (fun _ _ => rfl)
        refine x_aload_n (q := 402) dX12_land_401 rfl rfl ?_
        refine q_gi (K := 41) (q := 405) dX12_land_402 rfl cl_12 (by decide) tw_1123 rfl rfl ?_
        refine q_iret dX12_land_405 rfl ?_
        have f8 : ∀ j, Y8 100 j = I93 100 j := fun j => by rw [b8 100 (by decide)]
        have fo : ∀ j, ¬ (41 ≤ j ∧ j ≤ 47) → j ≠ 55 → j ≠ 56 → j ≠ 57 → j ≠ 72 → j ≠ 61 → Y8 100 j = V 100 j := fun j q0 q1 q2 q3 q4 q5 => by rw [f8, o9_ j q3 q4 q5, o8_ j q1 q2]; exact o7_ j q0
        have fk : ∀ j, 41 ≤ j → j ≤ 47 → Y8 100 j = I42 100 j := fun j q1 q2 => by rw [f8, o9_ j (by omega) (by omega) (by omega), o8_ j (by omega) (by omega)]
        refine ⟨y, w, h, c, V, ?_, rfl, hD, ⟨?_, ?_, ?_, ?_, ?_, ?_, ?_, ?_⟩, ?_, ?_⟩
        · rw [fk 41 (by decide) (by decide), g7.1]
        · exact fun j hj => ⟨by rw [show Y8 114 = Y1 114 from by rw [b8 114 (by decide), c9_ 114 (by decide), b7 114 (by decide), b6 114 (by decide), b5 114 (by decide) (by decide), b4 114 (by decide) (by decide) (by decide), b3 114 (by decide), b2 114 (by decide)], (a1 j hj).1, show I42 103 = V 103 from by rw [c7_ 103 (by decide)]], by rw [show Y8 115 = Y1 115 from by rw [b8 115 (by decide), c9_ 115 (by decide), b7 115 (by decide), b6 115 (by decide), b5 115 (by decide) (by decide), b4 115 (by decide) (by decide) (by decide), b3 115 (by decide), b2 115 (by decide)], (a1 j hj).2.1, show I42 104 = V 104 from by rw [c7_ 104 (by decide)]], by rw [show Y8 116 = Y1 116 from by rw [b8 116 (by decide), c9_ 116 (by decide), b7 116 (by decide), b6 116 (by decide), b5 116 (by decide) (by decide), b4 116 (by decide) (by decide) (by decide), b3 116 (by decide), b2 116 (by decide)], (a1 j hj).2.2.1, show I42 105 = V 105 from by rw [c7_ 105 (by decide)]], by rw [show Y8 117 = Y1 117 from by rw [b8 117 (by decide), c9_ 117 (by decide), b7 117 (by decide), b6 117 (by decide), b5 117 (by decide) (by decide), b4 117 (by decide) (by decide) (by decide), b3 117 (by decide), b2 117 (by decide)], (a1 j hj).2.2.2, show I42 106 = V 106 from by rw [c7_ 106 (by decide)]]⟩
        · exact fun j hj => by rw [show Y8 118 = Y2 118 from by rw [b8 118 (by decide), c9_ 118 (by decide), b7 118 (by decide), b6 118 (by decide), b5 118 (by decide) (by decide), b4 118 (by decide) (by decide) (by decide), b3 118 (by decide)], (a2 j hj), show Y1 107 = V 107 from by rw [b1 107 (by decide) (by decide) (by decide) (by decide), c7_ 107 (by decide)]]
        · exact fun j hj => by rw [show Y8 119 = Y3 119 from by rw [b8 119 (by decide), c9_ 119 (by decide), b7 119 (by decide), b6 119 (by decide), b5 119 (by decide) (by decide), b4 119 (by decide) (by decide) (by decide)], (a3 j hj), show Y2 108 = V 108 from by rw [b2 108 (by decide), b1 108 (by decide) (by decide) (by decide) (by decide), c7_ 108 (by decide)]]
        · exact fun j hj => ⟨by rw [show Y8 120 = Y4 120 from by rw [b8 120 (by decide), c9_ 120 (by decide), b7 120 (by decide), b6 120 (by decide), b5 120 (by decide) (by decide)], (a4 j hj).1, show Y3 109 = V 109 from by rw [b3 109 (by decide), b2 109 (by decide), b1 109 (by decide) (by decide) (by decide) (by decide), c7_ 109 (by decide)]], by rw [show Y8 121 = Y4 121 from by rw [b8 121 (by decide), c9_ 121 (by decide), b7 121 (by decide), b6 121 (by decide), b5 121 (by decide) (by decide)], (a4 j hj).2.1, show Y3 110 = V 110 from by rw [b3 110 (by decide), b2 110 (by decide), b1 110 (by decide) (by decide) (by decide) (by decide), c7_ 110 (by decide)]], by rw [show Y8 122 = Y4 122 from by rw [b8 122 (by decide), c9_ 122 (by decide), b7 122 (by decide), b6 122 (by decide), b5 122 (by decide) (by decide)], (a4 j hj).2.2, show Y3 111 = V 111 from by rw [b3 111 (by decide), b2 111 (by decide), b1 111 (by decide) (by decide) (by decide) (by decide), c7_ 111 (by decide)]]⟩
        · exact fun j hj => ⟨by rw [show Y8 123 = Y5 123 from by rw [b8 123 (by decide), c9_ 123 (by decide), b7 123 (by decide), b6 123 (by decide)], (a5 j hj).1, show Y4 112 = V 112 from by rw [b4 112 (by decide) (by decide) (by decide), b3 112 (by decide), b2 112 (by decide), b1 112 (by decide) (by decide) (by decide) (by decide), c7_ 112 (by decide)]], by rw [show Y8 124 = Y5 124 from by rw [b8 124 (by decide), c9_ 124 (by decide), b7 124 (by decide), b6 124 (by decide)], (a5 j hj).2, show Y4 113 = V 113 from by rw [b4 113 (by decide) (by decide) (by decide), b3 113 (by decide), b2 113 (by decide), b1 113 (by decide) (by decide) (by decide) (by decide), c7_ 113 (by decide)]]⟩
        · exact fun j hj => by rw [show Y8 126 = Y6 126 from by rw [b8 126 (by decide), c9_ 126 (by decide), b7 126 (by decide)]]; rw [a6 j hj, show Y5 118 = Y2 118 by rw [b5 118 (by decide) (by decide), b4 118 (by decide) (by decide) (by decide), b3 118 (by decide)], a2 j hj, show Y1 107 = V 107 by rw [b1 107 (by decide) (by decide) (by decide) (by decide), c7_ 107 (by decide)]]
        · exact fun j hj => by rw [show Y8 127 = Y7 127 by rw [b8 127 (by decide), c9_ 127 (by decide)]]; exact a7 j hj
        · exact fun j hj => a8 j hj
        · refine ⟨by rw [fk 41 (by decide) (by decide)]; exact g7.1, by rw [fk 42 (by decide) (by decide)]; exact g7.2.1, by rw [fk 43 (by decide) (by decide)]; exact g7.2.2.1, by rw [fk 44 (by decide) (by decide)]; exact g7.2.2.2.1, by rw [fk 45 (by decide) (by decide)]; exact g7.2.2.2.2.1, by rw [fk 46 (by decide) (by decide)]; exact g7.2.2.2.2.2.1, by rw [fk 47 (by decide) (by decide)]; exact g7.2.2.2.2.2.2, by rw [f8, o9_ 55 (by decide) (by decide) (by decide)]; exact h55.1, by rw [f8, o9_ 56 (by decide) (by decide) (by decide)]; exact h55.2, by rw [f8]; exact h57.1, by rw [f8]; exact h57.2.1, by rw [f8]; exact h57.2.2⟩
        · refine ⟨fun d q0 q1 q2 q3 q4 => ?_, ?_, fa0.2.2.1, ?_, ?_, ?_⟩
          · rw [b8 d q4, c9_ d q0, b7 d q3, b6 d q2, b5 d (by omega) (by omega), b4 d (by omega) (by omega) (by omega), b3 d (by omega), b2 d (by omega), b1 d (by omega) (by omega) (by omega) (by omega), c7_ d q0]
            exact fa0.1 d q0 (by omega)
          · rw [fo 73 (by decide) (by decide) (by decide) (by decide) (by decide) (by decide)]; exact fa0.2.1 73 (by decide) (by decide)
          · rw [fo 1 (by decide) (by decide) (by decide) (by decide) (by decide) (by decide)]; exact fa0.2.2.2
          · rw [fo 2 (by decide) (by decide) (by decide) (by decide) (by decide) (by decide), pm0.2.2.1, zf]; rfl
          · rw [fo 3 (by decide) (by decide) (by decide) (by decide) (by decide) (by decide), pm0.2.2.2.1, if_pos zf]
      refine x_aload_n (q := 351) dX12_land_350 rfl rfl ?_
      refine x_aload_n (q := 352) dX12_land_351 rfl rfl ?_
      refine q_gi (K := 40) (q := 355) dX12_land_352 rfl cl_12 (by decide) tw_1122 rfl rfl ?_
      refine x_if_ge (t := 364) (q := 358) dX12_land_355 (by decide) rfl (fun c355 => ?_) (fun c355 => ?_)
      · refine x_aload_n (q := 365) dX12_land_364 rfl rfl ?_
        refine q_gi (K := 40) (q := 368) dX12_land_365 rfl cl_12 (by decide) tw_1122 rfl rfl ?_
        exact key368 _ (by rw [h40, (oM_v o7 (Or.inr trivial)).2 (by rw [h40] at c355; exact fun q => absurd c355 (Int32.not_le.mpr q))])
      · refine x_sipush (999) (q := 361) dX12_land_358 rfl (by decide) ?_
        refine x_goto (t := 368) dX12_land_361 (by decide) ?_
        exact key368 _ (by rw [(oM_v o7 (Or.inr trivial)).1 (by rw [h40] at c355; exact Int32.not_le.mp c355)])
    refine x_aload_n (q := 65) dX12_land_64 rfl rfl ?_
    refine x_aload_n (q := 66) dX12_land_65 rfl rfl ?_
    refine q_gi (K := 38) (q := 69) dX12_land_66 rfl cl_12 (by decide) tw_1120 rfl rfl ?_
    refine x_if_ge (t := 76) (q := 72) dX12_land_69 (by decide) rfl (fun c69 => ?_) (fun c69 => ?_)
    · refine x_aload_n (q := 77) dX12_land_76 rfl rfl ?_
      refine q_gi (K := 38) (q := 80) dX12_land_77 rfl cl_12 (by decide) tw_1120 rfl rfl ?_
      exact key80 _ (by rw [o5_ 38 (by decide), (oM_v o5 (Or.inr trivial)).2 (by rw [o5_ 38 (by decide)] at c69; exact fun q => absurd c69 (Int32.not_le.mpr q))])
    · refine x_iconst (0) (q := 73) dX12_land_72 rfl (by decide) ?_
      refine x_goto (t := 80) dX12_land_73 (by decide) ?_
      exact key80 _ (by rw [(oM_v o5 (Or.inr trivial)).1 (by rw [o5_ 38 (by decide)] at c69; exact Int32.not_le.mp c69)])
  refine x_aload_n (q := 46) dX12_land_45 rfl rfl ?_
  refine x_aload_n (q := 47) dX12_land_46 rfl rfl ?_
  refine q_gi (K := 37) (q := 50) dX12_land_47 rfl cl_12 (by decide) tw_1119 rfl rfl ?_
  refine x_if_ge (t := 57) (q := 53) dX12_land_50 (by decide) rfl (fun c50 => ?_) (fun c50 => ?_)
  · refine x_aload_n (q := 58) dX12_land_57 rfl rfl ?_
    refine q_gi (K := 37) (q := 61) dX12_land_58 rfl cl_12 (by decide) tw_1119 rfl rfl ?_
    exact key61 _ (by rw [o4_ 37 (by decide), (oM_v o4 (Or.inr trivial)).2 (by rw [o4_ 37 (by decide)] at c50; exact fun q => absurd c50 (Int32.not_le.mpr q))])
  · refine x_iconst (0) (q := 54) dX12_land_53 rfl (by decide) ?_
    refine x_goto (t := 61) dX12_land_54 (by decide) ?_
    exact key61 _ (by rw [(oM_v o4 (Or.inr trivial)).1 (by rw [o4_ 37 (by decide)] at c50; exact Int32.not_le.mp c50)])
