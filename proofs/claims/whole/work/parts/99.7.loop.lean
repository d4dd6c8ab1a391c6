set_option maxRecDepth 100000 in
theorem law_c0 {b Ln : Nat} {xs : Nat → Int32} {i k z : Nat} (hL : Ln ≤ 3072) (hi6 : i + 6 ≤ Ln) {I : MI} {r : MR} {J : MJ} (hrel : Rel I r J) (ih : ∀ (I : MI) (r : MR) (J : MJ), Rel I r J → Wl b Ln xs 18 [some (.ref 1000005), some (.ref 0), some (.ref 100), some (.int (nI (i + 6)))] [] 146 (hp I r J) k z) (hk : k ≤ 600000) (hkz : z ≤ 7302250) : Wl b Ln xs 152 [some (.ref 1000005), some (.ref 0), some (.ref 100), some (.int (nI i))] [] 146 (hp I r J) k z := by
  obtain ⟨res, hop⟩ := (op_feed (xs (nI i + 1).toNatClampNeg) (xs (nI i + 2).toNatClampNeg) (xs (nI i + 3).toNatClampNeg) (xs (nI i + 4).toNatClampNeg) (xs (nI i + 5).toNatClampNeg)) I r J hrel
  refine y_aload_n (q := 153) dL_law_152 rfl rfl ?_
  refine y_aload_n (q := 154) dL_law_153 rfl rfl ?_
  refine y_iload_n (q := 155) dL_law_154 rfl rfl ?_
  refine y_iconst (1) (q := 156) dL_law_155 rfl (by decide) ?_
  refine y_iadd (q := 157) dL_law_156 rfl ?_
  refine y_sld (q := 158) dL_law_157 rfl (by rw [show nI i + (1 : Int32) = nI (i + 1) from nI_add i 1]; exact vp_in_nI (by omega) (by omega)) ?_
  refine y_aload_n (q := 159) dL_law_158 rfl rfl ?_
  refine y_iload_n (q := 160) dL_law_159 rfl rfl ?_
  refine y_iconst (2) (q := 161) dL_law_160 rfl (by decide) ?_
  refine y_iadd (q := 162) dL_law_161 rfl ?_
  refine y_sld (q := 163) dL_law_162 rfl (by rw [show nI i + (2 : Int32) = nI (i + 2) from nI_add i 2]; exact vp_in_nI (by omega) (by omega)) ?_
  refine y_aload_n (q := 164) dL_law_163 rfl rfl ?_
  refine y_iload_n (q := 165) dL_law_164 rfl rfl ?_
  refine y_iconst (3) (q := 166) dL_law_165 rfl (by decide) ?_
  refine y_iadd (q := 167) dL_law_166 rfl ?_
  refine y_sld (q := 168) dL_law_167 rfl (by rw [show nI i + (3 : Int32) = nI (i + 3) from nI_add i 3]; exact vp_in_nI (by omega) (by omega)) ?_
  refine y_aload_n (q := 169) dL_law_168 rfl rfl ?_
  refine y_iload_n (q := 170) dL_law_169 rfl rfl ?_
  refine y_iconst (4) (q := 171) dL_law_170 rfl (by decide) ?_
  refine y_iadd (q := 172) dL_law_171 rfl ?_
  refine y_sld (q := 173) dL_law_172 rfl (by rw [show nI i + (4 : Int32) = nI (i + 4) from nI_add i 4]; exact vp_in_nI (by omega) (by omega)) ?_
  refine y_aload_n (q := 174) dL_law_173 rfl rfl ?_
  refine y_iload_n (q := 175) dL_law_174 rfl rfl ?_
  refine y_iconst (5) (q := 176) dL_law_175 rfl (by decide) ?_
  refine y_iadd (q := 177) dL_law_176 rfl ?_
  refine y_sld (q := 178) dL_law_177 rfl (by rw [show nI i + (5 : Int32) = nI (i + 5) from nI_add i 5]; exact vp_in_nI (by omega) (by omega)) ?_
  refine y_callV (a := 0) (ci := 11) (As := [.int (xs (nI i + 1).toNatClampNeg), .int (xs (nI i + 2).toNatClampNeg), .int (xs (nI i + 3).toNatClampNeg), .int (xs (nI i + 4).toNatClampNeg), .int (xs (nI i + 5).toNatClampNeg)]) (rest := []) (T := TX11) (N := 14) (q := 181) dL_law_178 rfl okX11_feed tw_611 hop (hp_O (ci := 11) rfl) (by decide) cl_11.1 rfl rfl (Nat.le_of_ble_eq_true rfl) ⟨by decide, by decide⟩ ⟨by show k + 0 ≤ _; exact hk, by show z + 0 ≤ _; exact hkz⟩ (fun rv_ n_ h_ hv_ => ?_)
  obtain ⟨I1, r1, J1, en_, eh_, ev_, hop2⟩ := hv_
  rw [ev_, en_, eh_]
  show Wl b Ln xs 181 [some (.ref 1000005), some (.ref 0), some (.ref 100), some (.int (nI i))] [.int res] 146 (hp I1 r1 J1) k z
  refine y_aload_n (q := 182) dL_law_181 rfl rfl ?_
  refine y_aload_n (q := 183) dL_law_182 rfl rfl ?_
  refine y_iload_n (q := 184) dL_law_183 rfl rfl ?_
  refine y_iconst (1) (q := 185) dL_law_184 rfl (by decide) ?_
  refine y_iadd (q := 186) dL_law_185 rfl ?_
  refine y_sld (q := 187) dL_law_186 rfl (by rw [show nI i + (1 : Int32) = nI (i + 1) from nI_add i 1]; exact vp_in_nI (by omega) (by omega)) ?_
  refine y_aload_n (q := 188) dL_law_187 rfl rfl ?_
  refine y_iload_n (q := 189) dL_law_188 rfl rfl ?_
  refine y_iconst (2) (q := 190) dL_law_189 rfl (by decide) ?_
  refine y_iadd (q := 191) dL_law_190 rfl ?_
  refine y_sld (q := 192) dL_law_191 rfl (by rw [show nI i + (2 : Int32) = nI (i + 2) from nI_add i 2]; exact vp_in_nI (by omega) (by omega)) ?_
  refine y_aload_n (q := 193) dL_law_192 rfl rfl ?_
  refine y_iload_n (q := 194) dL_law_193 rfl rfl ?_
  refine y_iconst (3) (q := 195) dL_law_194 rfl (by decide) ?_
  refine y_iadd (q := 196) dL_law_195 rfl ?_
  refine y_sld (q := 197) dL_law_196 rfl (by rw [show nI i + (3 : Int32) = nI (i + 3) from nI_add i 3]; exact vp_in_nI (by omega) (by omega)) ?_
  refine y_aload_n (q := 198) dL_law_197 rfl rfl ?_
  refine y_iload_n (q := 199) dL_law_198 rfl rfl ?_
  refine y_iconst (4) (q := 200) dL_law_199 rfl (by decide) ?_
  refine y_iadd (q := 201) dL_law_200 rfl ?_
  refine y_sld (q := 202) dL_law_201 rfl (by rw [show nI i + (4 : Int32) = nI (i + 4) from nI_add i 4]; exact vp_in_nI (by omega) (by omega)) ?_
  refine y_aload_n (q := 203) dL_law_202 rfl rfl ?_
  refine y_iload_n (q := 204) dL_law_203 rfl rfl ?_
  refine y_iconst (5) (q := 205) dL_law_204 rfl (by decide) ?_
  refine y_iadd (q := 206) dL_law_205 rfl ?_
  refine y_sld (q := 207) dL_law_206 rfl (by rw [show nI i + (5 : Int32) = nI (i + 5) from nI_add i 5]; exact vp_in_nI (by omega) (by omega)) ?_
  refine y_callV (a := 100) (ci := 12) (As := [.int (xs (nI i + 1).toNatClampNeg), .int (xs (nI i + 2).toNatClampNeg), .int (xs (nI i + 3).toNatClampNeg), .int (xs (nI i + 4).toNatClampNeg), .int (xs (nI i + 5).toNatClampNeg)]) (rest := [.int res]) (T := TX12) (N := 79) (q := 210) dL_law_207 rfl okX12_feed tw_1320 hop2 (hp_O (ci := 12) rfl) (by decide) cl_12.1 rfl rfl (Nat.le_of_ble_eq_true rfl) ⟨by decide, by decide⟩ ⟨by show k + 0 ≤ _; exact hk, by show z + 0 ≤ _; exact hkz⟩ (fun rv_ n_ h_ hv_ => ?_)
  obtain ⟨I2, r2, J2, en_, eh_, ev_, hrel2⟩ := hv_
  rw [ev_, en_, eh_]
  show Wl b Ln xs 210 [some (.ref 1000005), some (.ref 0), some (.ref 100), some (.int (nI i))] [.int res, .int res] 146 (hp I2 r2 J2) k z
  refine y_icmp_eq (t := 1020) (q := 213) dL_law_210 (by decide) rfl (fun _ => ?_) (fun c_ => absurd rfl c_)
  refine y_iinc (v := nI (i + 6)) (L2 := [some (.ref 1000005), some (.ref 0), some (.ref 100), some (.int (nI (i + 6)))]) (q := 1023) dL_law_1020 rfl (by decide) rfl rfl (by show _ + (6 : Int32) = _; exact nI_add i 6) rfl ?_
  refine y_goto (t := 18) dL_law_1023 (by decide) ?_
  exact ih I2 r2 J2 hrel2
set_option maxRecDepth 100000 in
theorem law_c1 {b Ln : Nat} {xs : Nat → Int32} {i k z : Nat} (hL : Ln ≤ 3072) (hi6 : i + 6 ≤ Ln) {I : MI} {r : MR} {J : MJ} (hrel : Rel I r J) (ih : ∀ (I : MI) (r : MR) (J : MJ), Rel I r J → Wl b Ln xs 18 [some (.ref 1000005), some (.ref 0), some (.ref 100), some (.int (nI (i + 6)))] [] 146 (hp I r J) k z) (hk : k ≤ 600000) (hkz : z ≤ 7302250) : Wl b Ln xs 215 [some (.ref 1000005), some (.ref 0), some (.ref 100), some (.int (nI i))] [] 146 (hp I r J) k z := by
  obtain ⟨res, hop⟩ := (op_end (xs (nI i + 1).toNatClampNeg)) I r J hrel
  refine y_aload_n (q := 216) dL_law_215 rfl rfl ?_
  refine y_aload_n (q := 217) dL_law_216 rfl rfl ?_
  refine y_iload_n (q := 218) dL_law_217 rfl rfl ?_
  refine y_iconst (1) (q := 219) dL_law_218 rfl (by decide) ?_
  refine y_iadd (q := 220) dL_law_219 rfl ?_
  refine y_sld (q := 221) dL_law_220 rfl (by rw [show nI i + (1 : Int32) = nI (i + 1) from nI_add i 1]; exact vp_in_nI (by omega) (by omega)) ?_
  refine y_callV (a := 0) (ci := 11) (As := [.int (xs (nI i + 1).toNatClampNeg)]) (rest := []) (T := TX11) (N := 14) (q := 224) dL_law_221 rfl okX11_end tw_619 hop (hp_O (ci := 11) rfl) (by decide) cl_11.1 rfl rfl (Nat.le_of_ble_eq_true rfl) ⟨by decide, by decide⟩ ⟨by show k + 0 ≤ _; exact hk, by show z + 0 ≤ _; exact hkz⟩ (fun rv_ n_ h_ hv_ => ?_)
  obtain ⟨I1, r1, J1, en_, eh_, ev_, hop2⟩ := hv_
  rw [ev_, en_, eh_]
  show Wl b Ln xs 224 [some (.ref 1000005), some (.ref 0), some (.ref 100), some (.int (nI i))] [.int res] 146 (hp I1 r1 J1) k z
  refine y_aload_n (q := 225) dL_law_224 rfl rfl ?_
  refine y_aload_n (q := 226) dL_law_225 rfl rfl ?_
  refine y_iload_n (q := 227) dL_law_226 rfl rfl ?_
  refine y_iconst (1) (q := 228) dL_law_227 rfl (by decide) ?_
  refine y_iadd (q := 229) dL_law_228 rfl ?_
  refine y_sld (q := 230) dL_law_229 rfl (by rw [show nI i + (1 : Int32) = nI (i + 1) from nI_add i 1]; exact vp_in_nI (by omega) (by omega)) ?_
  refine y_callV (a := 100) (ci := 12) (As := [.int (xs (nI i + 1).toNatClampNeg)]) (rest := [.int res]) (T := TX12) (N := 79) (q := 233) dL_law_230 rfl okX12_end tw_1328 hop2 (hp_O (ci := 12) rfl) (by decide) cl_12.1 rfl rfl (Nat.le_of_ble_eq_true rfl) ⟨by decide, by decide⟩ ⟨by show k + 0 ≤ _; exact hk, by show z + 0 ≤ _; exact hkz⟩ (fun rv_ n_ h_ hv_ => ?_)
  obtain ⟨I2, r2, J2, en_, eh_, ev_, hrel2⟩ := hv_
  rw [ev_, en_, eh_]
  show Wl b Ln xs 233 [some (.ref 1000005), some (.ref 0), some (.ref 100), some (.int (nI i))] [.int res, .int res] 146 (hp I2 r2 J2) k z
  refine y_icmp_eq (t := 1020) (q := 236) dL_law_233 (by decide) rfl (fun _ => ?_) (fun c_ => absurd rfl c_)
  refine y_iinc (v := nI (i + 6)) (L2 := [some (.ref 1000005), some (.ref 0), some (.ref 100), some (.int (nI (i + 6)))]) (q := 1023) dL_law_1020 rfl (by decide) rfl rfl (by show _ + (6 : Int32) = _; exact nI_add i 6) rfl ?_
  refine y_goto (t := 18) dL_law_1023 (by decide) ?_
  exact ih I2 r2 J2 hrel2
set_option maxRecDepth 100000 in
theorem law_c2 {b Ln : Nat} {xs : Nat → Int32} {i k z : Nat} (hL : Ln ≤ 3072) (hi6 : i + 6 ≤ Ln) {I : MI} {r : MR} {J : MJ} (hrel : Rel I r J) (ih : ∀ (I : MI) (r : MR) (J : MJ), Rel I r J → Wl b Ln xs 18 [some (.ref 1000005), some (.ref 0), some (.ref 100), some (.int (nI (i + 6)))] [] 146 (hp I r J) k z) (hk : k ≤ 600000) (hkz : z ≤ 7302250) : Wl b Ln xs 238 [some (.ref 1000005), some (.ref 0), some (.ref 100), some (.int (nI i))] [] 146 (hp I r J) k z := by
  obtain ⟨res, hop⟩ := op_land I r J hrel
  refine y_aload_n (q := 239) dL_law_238 rfl rfl ?_
  refine y_callV (a := 0) (ci := 11) (As := []) (rest := []) (T := TX11) (N := 14) (q := 242) dL_law_239 rfl okX11_land tw_623 hop (hp_O (ci := 11) rfl) (by decide) cl_11.1 rfl rfl (Nat.le_of_ble_eq_true rfl) ⟨by decide, by decide⟩ ⟨by show k + 0 ≤ _; exact hk, by show z + 0 ≤ _; exact hkz⟩ (fun rv_ n_ h_ hv_ => ?_)
  obtain ⟨I1, r1, J1, en_, eh_, ev_, hop2⟩ := hv_
  rw [ev_, en_, eh_]
  show Wl b Ln xs 242 [some (.ref 1000005), some (.ref 0), some (.ref 100), some (.int (nI i))] [.int res] 146 (hp I1 r1 J1) k z
  refine y_aload_n (q := 243) dL_law_242 rfl rfl ?_
  refine y_callV (a := 100) (ci := 12) (As := []) (rest := [.int res]) (T := TX12) (N := 79) (q := 246) dL_law_243 rfl okX12_land tw_1332 hop2 (hp_O (ci := 12) rfl) (by decide) cl_12.1 rfl rfl (Nat.le_of_ble_eq_true rfl) ⟨by decide, by decide⟩ ⟨by show k + 0 ≤ _; exact hk, by show z + 0 ≤ _; exact hkz⟩ (fun rv_ n_ h_ hv_ => ?_)
  obtain ⟨I2, r2, J2, en_, eh_, ev_, hrel2⟩ := hv_
  rw [ev_, en_, eh_]
  show Wl b Ln xs 246 [some (.ref 1000005), some (.ref 0), some (.ref 100), some (.int (nI i))] [.int res, .int res] 146 (hp I2 r2 J2) k z
  refine y_icmp_eq (t := 1020) (q := 249) dL_law_246 (by decide) rfl (fun _ => ?_) (fun c_ => absurd rfl c_)
  refine y_iinc (v := nI (i + 6)) (L2 := [some (.ref 1000005), some (.ref 0), some (.ref 100), some (.int (nI (i + 6)))]) (q := 1023) dL_law_1020 rfl (by decide) rfl rfl (by show _ + (6 : Int32) = _; exact nI_add i 6) rfl ?_
  refine y_goto (t := 18) dL_law_1023 (by decide) ?_
  exact ih I2 r2 J2 hrel2
set_option maxRecDepth 100000 in
theorem law_c3 {b Ln : Nat} {xs : Nat → Int32} {i k z : Nat} (hL : Ln ≤ 3072) (hi6 : i + 6 ≤ Ln) {I : MI} {r : MR} {J : MJ} (hrel : Rel I r J) (ih : ∀ (I : MI) (r : MR) (J : MJ), Rel I r J → Wl b Ln xs 18 [some (.ref 1000005), some (.ref 0), some (.ref 100), some (.int (nI (i + 6)))] [] 146 (hp I r J) k z) (hk : k ≤ 600000) (hkz : z ≤ 7302250) : Wl b Ln xs 251 [some (.ref 1000005), some (.ref 0), some (.ref 100), some (.int (nI i))] [] 146 (hp I r J) k z := by
  obtain ⟨res, hop⟩ := (op_fault (xs (nI i + 1).toNatClampNeg)) I r J hrel
  refine y_aload_n (q := 252) dL_law_251 rfl rfl ?_
  refine y_aload_n (q := 253) dL_law_252 rfl rfl ?_
  refine y_iload_n (q := 254) dL_law_253 rfl rfl ?_
  refine y_iconst (1) (q := 255) dL_law_254 rfl (by decide) ?_
  refine y_iadd (q := 256) dL_law_255 rfl ?_
  refine y_sld (q := 257) dL_law_256 rfl (by rw [show nI i + (1 : Int32) = nI (i + 1) from nI_add i 1]; exact vp_in_nI (by omega) (by omega)) ?_
  refine y_callV (a := 0) (ci := 11) (As := [.int (xs (nI i + 1).toNatClampNeg)]) (rest := []) (T := TX11) (N := 14) (q := 260) dL_law_257 rfl okX11_fault tw_757 hop (hp_O (ci := 11) rfl) (by decide) cl_11.1 rfl rfl (Nat.le_of_ble_eq_true rfl) ⟨by decide, by decide⟩ ⟨by show k + 0 ≤ _; exact hk, by show z + 0 ≤ _; exact hkz⟩ (fun rv_ n_ h_ hv_ => ?_)
  obtain ⟨I1, r1, J1, en_, eh_, ev_, hop2⟩ := hv_
  rw [ev_, en_, eh_]
  show Wl b Ln xs 260 [some (.ref 1000005), some (.ref 0), some (.ref 100), some (.int (nI i))] [.int res] 146 (hp I1 r1 J1) k z
  refine y_aload_n (q := 261) dL_law_260 rfl rfl ?_
  refine y_aload_n (q := 262) dL_law_261 rfl rfl ?_
  refine y_iload_n (q := 263) dL_law_262 rfl rfl ?_
  refine y_iconst (1) (q := 264) dL_law_263 rfl (by decide) ?_
  refine y_iadd (q := 265) dL_law_264 rfl ?_
  refine y_sld (q := 266) dL_law_265 rfl (by rw [show nI i + (1 : Int32) = nI (i + 1) from nI_add i 1]; exact vp_in_nI (by omega) (by omega)) ?_
  refine y_callV (a := 100) (ci := 12) (As := [.int (xs (nI i + 1).toNatClampNeg)]) (rest := [.int res]) (T := TX12) (N := 79) (q := 269) dL_law_266 rfl okX12_fault tw_1442 hop2 (hp_O (ci := 12) rfl) (by decide) cl_12.1 rfl rfl (Nat.le_of_ble_eq_true rfl) ⟨by decide, by decide⟩ ⟨by show k + 0 ≤ _; exact hk, by show z + 0 ≤ _; exact hkz⟩ (fun rv_ n_ h_ hv_ => ?_)
  obtain ⟨I2, r2, J2, en_, eh_, ev_, hrel2⟩ := hv_
  rw [ev_, en_, eh_]
  show Wl b Ln xs 269 [some (.ref 1000005), some (.ref 0), some (.ref 100), some (.int (nI i))] [.int res, .int res] 146 (hp I2 r2 J2) k z
  refine y_icmp_eq (t := 1020) (q := 272) dL_law_269 (by decide) rfl (fun _ => ?_) (fun c_ => absurd rfl c_)
  refine y_iinc (v := nI (i + 6)) (L2 := [some (.ref 1000005), some (.ref 0), some (.ref 100), some (.int (nI (i + 6)))]) (q := 1023) dL_law_1020 rfl (by decide) rfl rfl (by show _ + (6 : Int32) = _; exact nI_add i 6) rfl ?_
  refine y_goto (t := 18) dL_law_1023 (by decide) ?_
  exact ih I2 r2 J2 hrel2
set_option maxRecDepth 100000 in
theorem law_c4 {b Ln : Nat} {xs : Nat → Int32} {i k z : Nat} (hL : Ln ≤ 3072) (hi6 : i + 6 ≤ Ln) {I : MI} {r : MR} {J : MJ} (hrel : Rel I r J) (ih : ∀ (I : MI) (r : MR) (J : MJ), Rel I r J → Wl b Ln xs 18 [some (.ref 1000005), some (.ref 0), some (.ref 100), some (.int (nI (i + 6)))] [] 146 (hp I r J) k z) (hk : k ≤ 600000) (hkz : z ≤ 7302250) : Wl b Ln xs 274 [some (.ref 1000005), some (.ref 0), some (.ref 100), some (.int (nI i))] [] 146 (hp I r J) k z := by
  obtain ⟨res, hop⟩ := (op_run (xs (nI i + 1).toNatClampNeg)) I r J hrel
  refine y_aload_n (q := 275) dL_law_274 rfl rfl ?_
  refine y_aload_n (q := 276) dL_law_275 rfl rfl ?_
  refine y_iload_n (q := 277) dL_law_276 rfl rfl ?_
  refine y_iconst (1) (q := 278) dL_law_277 rfl (by decide) ?_
  refine y_iadd (q := 279) dL_law_278 rfl ?_
  refine y_sld (q := 280) dL_law_279 rfl (by rw [show nI i + (1 : Int32) = nI (i + 1) from nI_add i 1]; exact vp_in_nI (by omega) (by omega)) ?_
  refine y_callV (a := 0) (ci := 11) (As := [.int (xs (nI i + 1).toNatClampNeg)]) (rest := []) (T := TX11) (N := 14) (q := 283) dL_law_280 rfl okX11_run tw_761 hop (hp_O (ci := 11) rfl) (by decide) cl_11.1 rfl rfl (Nat.le_of_ble_eq_true rfl) ⟨by decide, by decide⟩ ⟨by show k + 0 ≤ _; exact hk, by show z + 0 ≤ _; exact hkz⟩ (fun rv_ n_ h_ hv_ => ?_)
  obtain ⟨I1, r1, J1, en_, eh_, ev_, hop2⟩ := hv_
  rw [ev_, en_, eh_]
  show Wl b Ln xs 283 [some (.ref 1000005), some (.ref 0), some (.ref 100), some (.int (nI i))] [.int res] 146 (hp I1 r1 J1) k z
  refine y_aload_n (q := 284) dL_law_283 rfl rfl ?_
  refine y_aload_n (q := 285) dL_law_284 rfl rfl ?_
  refine y_iload_n (q := 286) dL_law_285 rfl rfl ?_
  refine y_iconst (1) (q := 287) dL_law_286 rfl (by decide) ?_
  refine y_iadd (q := 288) dL_law_287 rfl ?_
  refine y_sld (q := 289) dL_law_288 rfl (by rw [show nI i + (1 : Int32) = nI (i + 1) from nI_add i 1]; exact vp_in_nI (by omega) (by omega)) ?_
  refine y_callV (a := 100) (ci := 12) (As := [.int (xs (nI i + 1).toNatClampNeg)]) (rest := [.int res]) (T := TX12) (N := 79) (q := 292) dL_law_289 rfl okX12_run tw_1446 hop2 (hp_O (ci := 12) rfl) (by decide) cl_12.1 rfl rfl (Nat.le_of_ble_eq_true rfl) ⟨by decide, by decide⟩ ⟨by show k + 0 ≤ _; exact hk, by show z + 0 ≤ _; exact hkz⟩ (fun rv_ n_ h_ hv_ => ?_)
  obtain ⟨I2, r2, J2, en_, eh_, ev_, hrel2⟩ := hv_
  rw [ev_, en_, eh_]
  show Wl b Ln xs 292 [some (.ref 1000005), some (.ref 0), some (.ref 100), some (.int (nI i))] [.int res, .int res] 146 (hp I2 r2 J2) k z
  refine y_icmp_eq (t := 1020) (q := 295) dL_law_292 (by decide) rfl (fun _ => ?_) (fun c_ => absurd rfl c_)
  refine y_iinc (v := nI (i + 6)) (L2 := [some (.ref 1000005), some (.ref 0), some (.ref 100), some (.int (nI (i + 6)))]) (q := 1023) dL_law_1020 rfl (by decide) rfl rfl (by show _ + (6 : Int32) = _; exact nI_add i 6) rfl ?_
  refine y_goto (t := 18) dL_law_1023 (by decide) ?_
  exact ih I2 r2 J2 hrel2
set_option maxRecDepth 100000 in
theorem law_c5 {b Ln : Nat} {xs : Nat → Int32} {i k z : Nat} (hL : Ln ≤ 3072) (hi6 : i + 6 ≤ Ln) {I : MI} {r : MR} {J : MJ} (hrel : Rel I r J) (ih : ∀ (I : MI) (r : MR) (J : MJ), Rel I r J → Wl b Ln xs 18 [some (.ref 1000005), some (.ref 0), some (.ref 100), some (.int (nI (i + 6)))] [] 146 (hp I r J) k z) (hk : k ≤ 600000) (hkz : z ≤ 7302250) : Wl b Ln xs 297 [some (.ref 1000005), some (.ref 0), some (.ref 100), some (.int (nI i))] [] 146 (hp I r J) k z := by
  obtain ⟨res, hop⟩ := (op_shift (xs (nI i + 1).toNatClampNeg)) I r J hrel
  refine y_aload_n (q := 298) dL_law_297 rfl rfl ?_
  refine y_aload_n (q := 299) dL_law_298 rfl rfl ?_
  refine y_iload_n (q := 300) dL_law_299 rfl rfl ?_
  refine y_iconst (1) (q := 301) dL_law_300 rfl (by decide) ?_
  refine y_iadd (q := 302) dL_law_301 rfl ?_
  refine y_sld (q := 303) dL_law_302 rfl (by rw [show nI i + (1 : Int32) = nI (i + 1) from nI_add i 1]; exact vp_in_nI (by omega) (by omega)) ?_
  refine y_callV (a := 0) (ci := 11) (As := [.int (xs (nI i + 1).toNatClampNeg)]) (rest := []) (T := TX11) (N := 14) (q := 306) dL_law_303 rfl okX11_shift tw_799 hop (hp_O (ci := 11) rfl) (by decide) cl_11.1 rfl rfl (Nat.le_of_ble_eq_true rfl) ⟨by decide, by decide⟩ ⟨by show k + 0 ≤ _; exact hk, by show z + 0 ≤ _; exact hkz⟩ (fun rv_ n_ h_ hv_ => ?_)
  obtain ⟨I1, r1, J1, en_, eh_, ev_, hop2⟩ := hv_
  rw [ev_, en_, eh_]
  show Wl b Ln xs 306 [some (.ref 1000005), some (.ref 0), some (.ref 100), some (.int (nI i))] [.int res] 146 (hp I1 r1 J1) k z
  refine y_aload_n (q := 307) dL_law_306 rfl rfl ?_
  refine y_aload_n (q := 308) dL_law_307 rfl rfl ?_
  refine y_iload_n (q := 309) dL_law_308 rfl rfl ?_
  refine y_iconst (1) (q := 310) dL_law_309 rfl (by decide) ?_
  refine y_iadd (q := 311) dL_law_310 rfl ?_
  refine y_sld (q := 312) dL_law_311 rfl (by rw [show nI i + (1 : Int32) = nI (i + 1) from nI_add i 1]; exact vp_in_nI (by omega) (by omega)) ?_
  refine y_callV (a := 100) (ci := 12) (As := [.int (xs (nI i + 1).toNatClampNeg)]) (rest := [.int res]) (T := TX12) (N := 79) (q := 315) dL_law_312 rfl okX12_shift tw_1476 hop2 (hp_O (ci := 12) rfl) (by decide) cl_12.1 rfl rfl (Nat.le_of_ble_eq_true rfl) ⟨by decide, by decide⟩ ⟨by show k + 0 ≤ _; exact hk, by show z + 0 ≤ _; exact hkz⟩ (fun rv_ n_ h_ hv_ => ?_)
  obtain ⟨I2, r2, J2, en_, eh_, ev_, hrel2⟩ := hv_
  rw [ev_, en_, eh_]
  show Wl b Ln xs 315 [some (.ref 1000005), some (.ref 0), some (.ref 100), some (.int (nI i))] [.int res, .int res] 146 (hp I2 r2 J2) k z
  refine y_icmp_eq (t := 1020) (q := 318) dL_law_315 (by decide) rfl (fun _ => ?_) (fun c_ => absurd rfl c_)
  refine y_iinc (v := nI (i + 6)) (L2 := [some (.ref 1000005), some (.ref 0), some (.ref 100), some (.int (nI (i + 6)))]) (q := 1023) dL_law_1020 rfl (by decide) rfl rfl (by show _ + (6 : Int32) = _; exact nI_add i 6) rfl ?_
  refine y_goto (t := 18) dL_law_1023 (by decide) ?_
  exact ih I2 r2 J2 hrel2
set_option maxRecDepth 100000 in
theorem law_c6 {b Ln : Nat} {xs : Nat → Int32} {i k z : Nat} (hL : Ln ≤ 3072) (hi6 : i + 6 ≤ Ln) {I : MI} {r : MR} {J : MJ} (hrel : Rel I r J) (ih : ∀ (I : MI) (r : MR) (J : MJ), Rel I r J → Wl b Ln xs 18 [some (.ref 1000005), some (.ref 0), some (.ref 100), some (.int (nI (i + 6)))] [] 146 (hp I r J) k z) (hk : k ≤ 600000) (hkz : z ≤ 7302250) : Wl b Ln xs 320 [some (.ref 1000005), some (.ref 0), some (.ref 100), some (.int (nI i))] [] 146 (hp I r J) k z := by
  obtain ⟨res, hop⟩ := (op_spread (xs (nI i + 1).toNatClampNeg) (xs (nI i + 2).toNatClampNeg)) I r J hrel
  refine y_aload_n (q := 321) dL_law_320 rfl rfl ?_
  refine y_aload_n (q := 322) dL_law_321 rfl rfl ?_
  refine y_iload_n (q := 323) dL_law_322 rfl rfl ?_
  refine y_iconst (1) (q := 324) dL_law_323 rfl (by decide) ?_
  refine y_iadd (q := 325) dL_law_324 rfl ?_
  refine y_sld (q := 326) dL_law_325 rfl (by rw [show nI i + (1 : Int32) = nI (i + 1) from nI_add i 1]; exact vp_in_nI (by omega) (by omega)) ?_
  refine y_aload_n (q := 327) dL_law_326 rfl rfl ?_
  refine y_iload_n (q := 328) dL_law_327 rfl rfl ?_
  refine y_iconst (2) (q := 329) dL_law_328 rfl (by decide) ?_
  refine y_iadd (q := 330) dL_law_329 rfl ?_
  refine y_sld (q := 331) dL_law_330 rfl (by rw [show nI i + (2 : Int32) = nI (i + 2) from nI_add i 2]; exact vp_in_nI (by omega) (by omega)) ?_
  refine y_callV (a := 0) (ci := 11) (As := [.int (xs (nI i + 1).toNatClampNeg), .int (xs (nI i + 2).toNatClampNeg)]) (rest := []) (T := TX11) (N := 14) (q := 334) dL_law_331 rfl okX11_spread tw_807 hop (hp_O (ci := 11) rfl) (by decide) cl_11.1 rfl rfl (Nat.le_of_ble_eq_true rfl) ⟨by decide, by decide⟩ ⟨by show k + 0 ≤ _; exact hk, by show z + 0 ≤ _; exact hkz⟩ (fun rv_ n_ h_ hv_ => ?_)
  obtain ⟨I1, r1, J1, en_, eh_, ev_, hop2⟩ := hv_
  rw [ev_, en_, eh_]
  show Wl b Ln xs 334 [some (.ref 1000005), some (.ref 0), some (.ref 100), some (.int (nI i))] [.int res] 146 (hp I1 r1 J1) k z
  refine y_aload_n (q := 335) dL_law_334 rfl rfl ?_
  refine y_aload_n (q := 336) dL_law_335 rfl rfl ?_
  refine y_iload_n (q := 337) dL_law_336 rfl rfl ?_
  refine y_iconst (1) (q := 338) dL_law_337 rfl (by decide) ?_
  refine y_iadd (q := 339) dL_law_338 rfl ?_
  refine y_sld (q := 340) dL_law_339 rfl (by rw [show nI i + (1 : Int32) = nI (i + 1) from nI_add i 1]; exact vp_in_nI (by omega) (by omega)) ?_
  refine y_aload_n (q := 341) dL_law_340 rfl rfl ?_
  refine y_iload_n (q := 342) dL_law_341 rfl rfl ?_
  refine y_iconst (2) (q := 343) dL_law_342 rfl (by decide) ?_
  refine y_iadd (q := 344) dL_law_343 rfl ?_
  refine y_sld (q := 345) dL_law_344 rfl (by rw [show nI i + (2 : Int32) = nI (i + 2) from nI_add i 2]; exact vp_in_nI (by omega) (by omega)) ?_
  refine y_callV (a := 100) (ci := 12) (As := [.int (xs (nI i + 1).toNatClampNeg), .int (xs (nI i + 2).toNatClampNeg)]) (rest := [.int res]) (T := TX12) (N := 79) (q := 348) dL_law_345 rfl okX12_spread tw_1481 hop2 (hp_O (ci := 12) rfl) (by decide) cl_12.1 rfl rfl (Nat.le_of_ble_eq_true rfl) ⟨by decide, by decide⟩ ⟨by show k + 0 ≤ _; exact hk, by show z + 0 ≤ _; exact hkz⟩ (fun rv_ n_ h_ hv_ => ?_)
  obtain ⟨I2, r2, J2, en_, eh_, ev_, hrel2⟩ := hv_
  rw [ev_, en_, eh_]
  show Wl b Ln xs 348 [some (.ref 1000005), some (.ref 0), some (.ref 100), some (.int (nI i))] [.int res, .int res] 146 (hp I2 r2 J2) k z
  refine y_icmp_eq (t := 1020) (q := 351) dL_law_348 (by decide) rfl (fun _ => ?_) (fun c_ => absurd rfl c_)
  refine y_iinc (v := nI (i + 6)) (L2 := [some (.ref 1000005), some (.ref 0), some (.ref 100), some (.int (nI (i + 6)))]) (q := 1023) dL_law_1020 rfl (by decide) rfl rfl (by show _ + (6 : Int32) = _; exact nI_add i 6) rfl ?_
  refine y_goto (t := 18) dL_law_1023 (by decide) ?_
  exact ih I2 r2 J2 hrel2
set_option maxRecDepth 100000 in
theorem law_c7 {b Ln : Nat} {xs : Nat → Int32} {i k z : Nat} (hL : Ln ≤ 3072) (hi6 : i + 6 ≤ Ln) {I : MI} {r : MR} {J : MJ} (hrel : Rel I r J) (ih : ∀ (I : MI) (r : MR) (J : MJ), Rel I r J → Wl b Ln xs 18 [some (.ref 1000005), some (.ref 0), some (.ref 100), some (.int (nI (i + 6)))] [] 146 (hp I r J) k z) (hk : k ≤ 600000) (hkz : z ≤ 7302250) : Wl b Ln xs 353 [some (.ref 1000005), some (.ref 0), some (.ref 100), some (.int (nI i))] [] 146 (hp I r J) k z := by
  obtain ⟨res, hop⟩ := (op_yard (xs (nI i + 1).toNatClampNeg) (xs (nI i + 2).toNatClampNeg)) I r J hrel
  refine y_aload_n (q := 354) dL_law_353 rfl rfl ?_
  refine y_aload_n (q := 355) dL_law_354 rfl rfl ?_
  refine y_iload_n (q := 356) dL_law_355 rfl rfl ?_
  refine y_iconst (1) (q := 357) dL_law_356 rfl (by decide) ?_
  refine y_iadd (q := 358) dL_law_357 rfl ?_
  refine y_sld (q := 359) dL_law_358 rfl (by rw [show nI i + (1 : Int32) = nI (i + 1) from nI_add i 1]; exact vp_in_nI (by omega) (by omega)) ?_
  refine y_aload_n (q := 360) dL_law_359 rfl rfl ?_
  refine y_iload_n (q := 361) dL_law_360 rfl rfl ?_
  refine y_iconst (2) (q := 362) dL_law_361 rfl (by decide) ?_
  refine y_iadd (q := 363) dL_law_362 rfl ?_
  refine y_sld (q := 364) dL_law_363 rfl (by rw [show nI i + (2 : Int32) = nI (i + 2) from nI_add i 2]; exact vp_in_nI (by omega) (by omega)) ?_
  refine y_callV (a := 0) (ci := 11) (As := [.int (xs (nI i + 1).toNatClampNeg), .int (xs (nI i + 2).toNatClampNeg)]) (rest := []) (T := TX11) (N := 14) (q := 367) dL_law_364 rfl okX11_yard tw_819 hop (hp_O (ci := 11) rfl) (by decide) cl_11.1 rfl rfl (Nat.le_of_ble_eq_true rfl) ⟨by decide, by decide⟩ ⟨by show k + 0 ≤ _; exact hk, by show z + 0 ≤ _; exact hkz⟩ (fun rv_ n_ h_ hv_ => ?_)
  obtain ⟨I1, r1, J1, en_, eh_, ev_, hop2⟩ := hv_
  rw [ev_, en_, eh_]
  show Wl b Ln xs 367 [some (.ref 1000005), some (.ref 0), some (.ref 100), some (.int (nI i))] [.int res] 146 (hp I1 r1 J1) k z
  refine y_aload_n (q := 368) dL_law_367 rfl rfl ?_
  refine y_aload_n (q := 369) dL_law_368 rfl rfl ?_
  refine y_iload_n (q := 370) dL_law_369 rfl rfl ?_
  refine y_iconst (1) (q := 371) dL_law_370 rfl (by decide) ?_
  refine y_iadd (q := 372) dL_law_371 rfl ?_
  refine y_sld (q := 373) dL_law_372 rfl (by rw [show nI i + (1 : Int32) = nI (i + 1) from nI_add i 1]; exact vp_in_nI (by omega) (by omega)) ?_
  refine y_aload_n (q := 374) dL_law_373 rfl rfl ?_
  refine y_iload_n (q := 375) dL_law_374 rfl rfl ?_
  refine y_iconst (2) (q := 376) dL_law_375 rfl (by decide) ?_
  refine y_iadd (q := 377) dL_law_376 rfl ?_
  refine y_sld (q := 378) dL_law_377 rfl (by rw [show nI i + (2 : Int32) = nI (i + 2) from nI_add i 2]; exact vp_in_nI (by omega) (by omega)) ?_
  refine y_callV (a := 100) (ci := 12) (As := [.int (xs (nI i + 1).toNatClampNeg), .int (xs (nI i + 2).toNatClampNeg)]) (rest := [.int res]) (T := TX12) (N := 79) (q := 381) dL_law_378 rfl okX12_yard tw_1489 hop2 (hp_O (ci := 12) rfl) (by decide) cl_12.1 rfl rfl (Nat.le_of_ble_eq_true rfl) ⟨by decide, by decide⟩ ⟨by show k + 0 ≤ _; exact hk, by show z + 0 ≤ _; exact hkz⟩ (fun rv_ n_ h_ hv_ => ?_)
  obtain ⟨I2, r2, J2, en_, eh_, ev_, hrel2⟩ := hv_
  rw [ev_, en_, eh_]
  show Wl b Ln xs 381 [some (.ref 1000005), some (.ref 0), some (.ref 100), some (.int (nI i))] [.int res, .int res] 146 (hp I2 r2 J2) k z
  refine y_icmp_eq (t := 1020) (q := 384) dL_law_381 (by decide) rfl (fun _ => ?_) (fun c_ => absurd rfl c_)
  refine y_iinc (v := nI (i + 6)) (L2 := [some (.ref 1000005), some (.ref 0), some (.ref 100), some (.int (nI (i + 6)))]) (q := 1023) dL_law_1020 rfl (by decide) rfl rfl (by show _ + (6 : Int32) = _; exact nI_add i 6) rfl ?_
  refine y_goto (t := 18) dL_law_1023 (by decide) ?_
  exact ih I2 r2 J2 hrel2
set_option maxRecDepth 100000 in
theorem law_c8 {b Ln : Nat} {xs : Nat → Int32} {i k z : Nat} (hL : Ln ≤ 3072) (hi6 : i + 6 ≤ Ln) {I : MI} {r : MR} {J : MJ} (hrel : Rel I r J) (ih : ∀ (I : MI) (r : MR) (J : MJ), Rel I r J → Wl b Ln xs 18 [some (.ref 1000005), some (.ref 0), some (.ref 100), some (.int (nI (i + 6)))] [] 146 (hp I r J) k z) (hk : k ≤ 600000) (hkz : z ≤ 7302250) : Wl b Ln xs 386 [some (.ref 1000005), some (.ref 0), some (.ref 100), some (.int (nI i))] [] 146 (hp I r J) k z := by
  obtain ⟨res, hop⟩ := (op_warm (xs (nI i + 1).toNatClampNeg) (xs (nI i + 2).toNatClampNeg)) I r J hrel
  refine y_aload_n (q := 387) dL_law_386 rfl rfl ?_
  refine y_aload_n (q := 388) dL_law_387 rfl rfl ?_
  refine y_iload_n (q := 389) dL_law_388 rfl rfl ?_
  refine y_iconst (1) (q := 390) dL_law_389 rfl (by decide) ?_
  refine y_iadd (q := 391) dL_law_390 rfl ?_
  refine y_sld (q := 392) dL_law_391 rfl (by rw [show nI i + (1 : Int32) = nI (i + 1) from nI_add i 1]; exact vp_in_nI (by omega) (by omega)) ?_
  refine y_aload_n (q := 393) dL_law_392 rfl rfl ?_
  refine y_iload_n (q := 394) dL_law_393 rfl rfl ?_
  refine y_iconst (2) (q := 395) dL_law_394 rfl (by decide) ?_
  refine y_iadd (q := 396) dL_law_395 rfl ?_
  refine y_sld (q := 397) dL_law_396 rfl (by rw [show nI i + (2 : Int32) = nI (i + 2) from nI_add i 2]; exact vp_in_nI (by omega) (by omega)) ?_
  refine y_callV (a := 0) (ci := 11) (As := [.int (xs (nI i + 1).toNatClampNeg), .int (xs (nI i + 2).toNatClampNeg)]) (rest := []) (T := TX11) (N := 14) (q := 400) dL_law_397 rfl okX11_warm tw_831 hop (hp_O (ci := 11) rfl) (by decide) cl_11.1 rfl rfl (Nat.le_of_ble_eq_true rfl) ⟨by decide, by decide⟩ ⟨by show k + 0 ≤ _; exact hk, by show z + 0 ≤ _; exact hkz⟩ (fun rv_ n_ h_ hv_ => ?_)
  obtain ⟨I1, r1, J1, en_, eh_, ev_, hop2⟩ := hv_
  rw [ev_, en_, eh_]
  show Wl b Ln xs 400 [some (.ref 1000005), some (.ref 0), some (.ref 100), some (.int (nI i))] [.int res] 146 (hp I1 r1 J1) k z
  refine y_aload_n (q := 401) dL_law_400 rfl rfl ?_
  refine y_aload_n (q := 402) dL_law_401 rfl rfl ?_
  refine y_iload_n (q := 403) dL_law_402 rfl rfl ?_
  refine y_iconst (1) (q := 404) dL_law_403 rfl (by decide) ?_
  refine y_iadd (q := 405) dL_law_404 rfl ?_
  refine y_sld (q := 406) dL_law_405 rfl (by rw [show nI i + (1 : Int32) = nI (i + 1) from nI_add i 1]; exact vp_in_nI (by omega) (by omega)) ?_
  refine y_aload_n (q := 407) dL_law_406 rfl rfl ?_
  refine y_iload_n (q := 408) dL_law_407 rfl rfl ?_
  refine y_iconst (2) (q := 409) dL_law_408 rfl (by decide) ?_
  refine y_iadd (q := 410) dL_law_409 rfl ?_
  refine y_sld (q := 411) dL_law_410 rfl (by rw [show nI i + (2 : Int32) = nI (i + 2) from nI_add i 2]; exact vp_in_nI (by omega) (by omega)) ?_
  refine y_callV (a := 100) (ci := 12) (As := [.int (xs (nI i + 1).toNatClampNeg), .int (xs (nI i + 2).toNatClampNeg)]) (rest := [.int res]) (T := TX12) (N := 79) (q := 414) dL_law_411 rfl okX12_warm tw_1501 hop2 (hp_O (ci := 12) rfl) (by decide) cl_12.1 rfl rfl (Nat.le_of_ble_eq_true rfl) ⟨by decide, by decide⟩ ⟨by show k + 0 ≤ _; exact hk, by show z + 0 ≤ _; exact hkz⟩ (fun rv_ n_ h_ hv_ => ?_)
  obtain ⟨I2, r2, J2, en_, eh_, ev_, hrel2⟩ := hv_
  rw [ev_, en_, eh_]
  show Wl b Ln xs 414 [some (.ref 1000005), some (.ref 0), some (.ref 100), some (.int (nI i))] [.int res, .int res] 146 (hp I2 r2 J2) k z
  refine y_icmp_eq (t := 1020) (q := 417) dL_law_414 (by decide) rfl (fun _ => ?_) (fun c_ => absurd rfl c_)
  refine y_iinc (v := nI (i + 6)) (L2 := [some (.ref 1000005), some (.ref 0), some (.ref 100), some (.int (nI (i + 6)))]) (q := 1023) dL_law_1020 rfl (by decide) rfl rfl (by show _ + (6 : Int32) = _; exact nI_add i 6) rfl ?_
  refine y_goto (t := 18) dL_law_1023 (by decide) ?_
  exact ih I2 r2 J2 hrel2
set_option maxRecDepth 100000 in
theorem law_c9 {b Ln : Nat} {xs : Nat → Int32} {i k z : Nat} (hL : Ln ≤ 3072) (hi6 : i + 6 ≤ Ln) {I : MI} {r : MR} {J : MJ} (hrel : Rel I r J) (ih : ∀ (I : MI) (r : MR) (J : MJ), Rel I r J → Wl b Ln xs 18 [some (.ref 1000005), some (.ref 0), some (.ref 100), some (.int (nI (i + 6)))] [] 146 (hp I r J) k z) (hk : k ≤ 600000) (hkz : z ≤ 7302250) : Wl b Ln xs 419 [some (.ref 1000005), some (.ref 0), some (.ref 100), some (.int (nI i))] [] 146 (hp I r J) k z := by
  obtain ⟨res, hop⟩ := (op_when (xs (nI i + 1).toNatClampNeg) (xs (nI i + 2).toNatClampNeg)) I r J hrel
  refine y_aload_n (q := 420) dL_law_419 rfl rfl ?_
  refine y_aload_n (q := 421) dL_law_420 rfl rfl ?_
  refine y_iload_n (q := 422) dL_law_421 rfl rfl ?_
  refine y_iconst (1) (q := 423) dL_law_422 rfl (by decide) ?_
  refine y_iadd (q := 424) dL_law_423 rfl ?_
  refine y_sld (q := 425) dL_law_424 rfl (by rw [show nI i + (1 : Int32) = nI (i + 1) from nI_add i 1]; exact vp_in_nI (by omega) (by omega)) ?_
  refine y_aload_n (q := 426) dL_law_425 rfl rfl ?_
  refine y_iload_n (q := 427) dL_law_426 rfl rfl ?_
  refine y_iconst (2) (q := 428) dL_law_427 rfl (by decide) ?_
  refine y_iadd (q := 429) dL_law_428 rfl ?_
  refine y_sld (q := 430) dL_law_429 rfl (by rw [show nI i + (2 : Int32) = nI (i + 2) from nI_add i 2]; exact vp_in_nI (by omega) (by omega)) ?_
  refine y_callV (a := 0) (ci := 11) (As := [.int (xs (nI i + 1).toNatClampNeg), .int (xs (nI i + 2).toNatClampNeg)]) (rest := []) (T := TX11) (N := 14) (q := 433) dL_law_430 rfl okX11_when tw_839 hop (hp_O (ci := 11) rfl) (by decide) cl_11.1 rfl rfl (Nat.le_of_ble_eq_true rfl) ⟨by decide, by decide⟩ ⟨by show k + 0 ≤ _; exact hk, by show z + 0 ≤ _; exact hkz⟩ (fun rv_ n_ h_ hv_ => ?_)
  obtain ⟨I1, r1, J1, en_, eh_, ev_, hop2⟩ := hv_
  rw [ev_, en_, eh_]
  show Wl b Ln xs 433 [some (.ref 1000005), some (.ref 0), some (.ref 100), some (.int (nI i))] [.int res] 146 (hp I1 r1 J1) k z
  refine y_aload_n (q := 434) dL_law_433 rfl rfl ?_
  refine y_aload_n (q := 435) dL_law_434 rfl rfl ?_
  refine y_iload_n (q := 436) dL_law_435 rfl rfl ?_
  refine y_iconst (1) (q := 437) dL_law_436 rfl (by decide) ?_
  refine y_iadd (q := 438) dL_law_437 rfl ?_
  refine y_sld (q := 439) dL_law_438 rfl (by rw [show nI i + (1 : Int32) = nI (i + 1) from nI_add i 1]; exact vp_in_nI (by omega) (by omega)) ?_
  refine y_aload_n (q := 440) dL_law_439 rfl rfl ?_
  refine y_iload_n (q := 441) dL_law_440 rfl rfl ?_
  refine y_iconst (2) (q := 442) dL_law_441 rfl (by decide) ?_
  refine y_iadd (q := 443) dL_law_442 rfl ?_
  refine y_sld (q := 444) dL_law_443 rfl (by rw [show nI i + (2 : Int32) = nI (i + 2) from nI_add i 2]; exact vp_in_nI (by omega) (by omega)) ?_
  refine y_callV (a := 100) (ci := 12) (As := [.int (xs (nI i + 1).toNatClampNeg), .int (xs (nI i + 2).toNatClampNeg)]) (rest := [.int res]) (T := TX12) (N := 79) (q := 447) dL_law_444 rfl okX12_when tw_1505 hop2 (hp_O (ci := 12) rfl) (by decide) cl_12.1 rfl rfl (Nat.le_of_ble_eq_true rfl) ⟨by decide, by decide⟩ ⟨by show k + 0 ≤ _; exact hk, by show z + 0 ≤ _; exact hkz⟩ (fun rv_ n_ h_ hv_ => ?_)
  obtain ⟨I2, r2, J2, en_, eh_, ev_, hrel2⟩ := hv_
  rw [ev_, en_, eh_]
  show Wl b Ln xs 447 [some (.ref 1000005), some (.ref 0), some (.ref 100), some (.int (nI i))] [.int res, .int res] 146 (hp I2 r2 J2) k z
  refine y_icmp_eq (t := 1020) (q := 450) dL_law_447 (by decide) rfl (fun _ => ?_) (fun c_ => absurd rfl c_)
  refine y_iinc (v := nI (i + 6)) (L2 := [some (.ref 1000005), some (.ref 0), some (.ref 100), some (.int (nI (i + 6)))]) (q := 1023) dL_law_1020 rfl (by decide) rfl rfl (by show _ + (6 : Int32) = _; exact nI_add i 6) rfl ?_
  refine y_goto (t := 18) dL_law_1023 (by decide) ?_
  exact ih I2 r2 J2 hrel2
set_option maxRecDepth 100000 in
theorem law_c10 {b Ln : Nat} {xs : Nat → Int32} {i k z : Nat} (hL : Ln ≤ 3072) (hi6 : i + 6 ≤ Ln) {I : MI} {r : MR} {J : MJ} (hrel : Rel I r J) (ih : ∀ (I : MI) (r : MR) (J : MJ), Rel I r J → Wl b Ln xs 18 [some (.ref 1000005), some (.ref 0), some (.ref 100), some (.int (nI (i + 6)))] [] 146 (hp I r J) k z) (hk : k ≤ 600000) (hkz : z ≤ 7302250) : Wl b Ln xs 452 [some (.ref 1000005), some (.ref 0), some (.ref 100), some (.int (nI i))] [] 146 (hp I r J) k z := by
  obtain ⟨res, hop⟩ := (op_deep (xs (nI i + 1).toNatClampNeg) (xs (nI i + 2).toNatClampNeg) (xs (nI i + 3).toNatClampNeg)) I r J hrel
  refine y_aload_n (q := 453) dL_law_452 rfl rfl ?_
  refine y_aload_n (q := 454) dL_law_453 rfl rfl ?_
  refine y_iload_n (q := 455) dL_law_454 rfl rfl ?_
  refine y_iconst (1) (q := 456) dL_law_455 rfl (by decide) ?_
  refine y_iadd (q := 457) dL_law_456 rfl ?_
  refine y_sld (q := 458) dL_law_457 rfl (by rw [show nI i + (1 : Int32) = nI (i + 1) from nI_add i 1]; exact vp_in_nI (by omega) (by omega)) ?_
  refine y_aload_n (q := 459) dL_law_458 rfl rfl ?_
  refine y_iload_n (q := 460) dL_law_459 rfl rfl ?_
  refine y_iconst (2) (q := 461) dL_law_460 rfl (by decide) ?_
  refine y_iadd (q := 462) dL_law_461 rfl ?_
  refine y_sld (q := 463) dL_law_462 rfl (by rw [show nI i + (2 : Int32) = nI (i + 2) from nI_add i 2]; exact vp_in_nI (by omega) (by omega)) ?_
  refine y_aload_n (q := 464) dL_law_463 rfl rfl ?_
  refine y_iload_n (q := 465) dL_law_464 rfl rfl ?_
  refine y_iconst (3) (q := 466) dL_law_465 rfl (by decide) ?_
  refine y_iadd (q := 467) dL_law_466 rfl ?_
  refine y_sld (q := 468) dL_law_467 rfl (by rw [show nI i + (3 : Int32) = nI (i + 3) from nI_add i 3]; exact vp_in_nI (by omega) (by omega)) ?_
  refine y_callV (a := 0) (ci := 11) (As := [.int (xs (nI i + 1).toNatClampNeg), .int (xs (nI i + 2).toNatClampNeg), .int (xs (nI i + 3).toNatClampNeg)]) (rest := []) (T := TX11) (N := 14) (q := 471) dL_law_468 rfl okX11_deep tw_858 hop (hp_O (ci := 11) rfl) (by decide) cl_11.1 rfl rfl (Nat.le_of_ble_eq_true rfl) ⟨by decide, by decide⟩ ⟨by show k + 0 ≤ _; exact hk, by show z + 0 ≤ _; exact hkz⟩ (fun rv_ n_ h_ hv_ => ?_)
  obtain ⟨I1, r1, J1, en_, eh_, ev_, hop2⟩ := hv_
  rw [ev_, en_, eh_]
  show Wl b Ln xs 471 [some (.ref 1000005), some (.ref 0), some (.ref 100), some (.int (nI i))] [.int res] 146 (hp I1 r1 J1) k z
  refine y_aload_n (q := 472) dL_law_471 rfl rfl ?_
  refine y_aload_n (q := 473) dL_law_472 rfl rfl ?_
  refine y_iload_n (q := 474) dL_law_473 rfl rfl ?_
  refine y_iconst (1) (q := 475) dL_law_474 rfl (by decide) ?_
  refine y_iadd (q := 476) dL_law_475 rfl ?_
  refine y_sld (q := 477) dL_law_476 rfl (by rw [show nI i + (1 : Int32) = nI (i + 1) from nI_add i 1]; exact vp_in_nI (by omega) (by omega)) ?_
  refine y_aload_n (q := 478) dL_law_477 rfl rfl ?_
  refine y_iload_n (q := 479) dL_law_478 rfl rfl ?_
  refine y_iconst (2) (q := 480) dL_law_479 rfl (by decide) ?_
  refine y_iadd (q := 481) dL_law_480 rfl ?_
  refine y_sld (q := 482) dL_law_481 rfl (by rw [show nI i + (2 : Int32) = nI (i + 2) from nI_add i 2]; exact vp_in_nI (by omega) (by omega)) ?_
  refine y_aload_n (q := 483) dL_law_482 rfl rfl ?_
  refine y_iload_n (q := 484) dL_law_483 rfl rfl ?_
  refine y_iconst (3) (q := 485) dL_law_484 rfl (by decide) ?_
  refine y_iadd (q := 486) dL_law_485 rfl ?_
  refine y_sld (q := 487) dL_law_486 rfl (by rw [show nI i + (3 : Int32) = nI (i + 3) from nI_add i 3]; exact vp_in_nI (by omega) (by omega)) ?_
  refine y_callV (a := 100) (ci := 12) (As := [.int (xs (nI i + 1).toNatClampNeg), .int (xs (nI i + 2).toNatClampNeg), .int (xs (nI i + 3).toNatClampNeg)]) (rest := [.int res]) (T := TX12) (N := 79) (q := 490) dL_law_487 rfl okX12_deep tw_1516 hop2 (hp_O (ci := 12) rfl) (by decide) cl_12.1 rfl rfl (Nat.le_of_ble_eq_true rfl) ⟨by decide, by decide⟩ ⟨by show k + 0 ≤ _; exact hk, by show z + 0 ≤ _; exact hkz⟩ (fun rv_ n_ h_ hv_ => ?_)
  obtain ⟨I2, r2, J2, en_, eh_, ev_, hrel2⟩ := hv_
  rw [ev_, en_, eh_]
  show Wl b Ln xs 490 [some (.ref 1000005), some (.ref 0), some (.ref 100), some (.int (nI i))] [.int res, .int res] 146 (hp I2 r2 J2) k z
  refine y_icmp_eq (t := 1020) (q := 493) dL_law_490 (by decide) rfl (fun _ => ?_) (fun c_ => absurd rfl c_)
  refine y_iinc (v := nI (i + 6)) (L2 := [some (.ref 1000005), some (.ref 0), some (.ref 100), some (.int (nI (i + 6)))]) (q := 1023) dL_law_1020 rfl (by decide) rfl rfl (by show _ + (6 : Int32) = _; exact nI_add i 6) rfl ?_
  refine y_goto (t := 18) dL_law_1023 (by decide) ?_
  exact ih I2 r2 J2 hrel2
set_option maxRecDepth 100000 in
theorem law_c11 {b Ln : Nat} {xs : Nat → Int32} {i k z : Nat} (hL : Ln ≤ 3072) (hi6 : i + 6 ≤ Ln) {I : MI} {r : MR} {J : MJ} (hrel : Rel I r J) (ih : ∀ (I : MI) (r : MR) (J : MJ), Rel I r J → Wl b Ln xs 18 [some (.ref 1000005), some (.ref 0), some (.ref 100), some (.int (nI (i + 6)))] [] 146 (hp I r J) k z) (hk : k ≤ 600000) (hkz : z ≤ 7302250) : Wl b Ln xs 495 [some (.ref 1000005), some (.ref 0), some (.ref 100), some (.int (nI i))] [] 146 (hp I r J) k z := by
  obtain ⟨res, hop⟩ := (op_least (xs (nI i + 1).toNatClampNeg) (xs (nI i + 2).toNatClampNeg)) I r J hrel
  refine y_aload_n (q := 496) dL_law_495 rfl rfl ?_
  refine y_aload_n (q := 497) dL_law_496 rfl rfl ?_
  refine y_iload_n (q := 498) dL_law_497 rfl rfl ?_
  refine y_iconst (1) (q := 499) dL_law_498 rfl (by decide) ?_
  refine y_iadd (q := 500) dL_law_499 rfl ?_
  refine y_sld (q := 501) dL_law_500 rfl (by rw [show nI i + (1 : Int32) = nI (i + 1) from nI_add i 1]; exact vp_in_nI (by omega) (by omega)) ?_
  refine y_aload_n (q := 502) dL_law_501 rfl rfl ?_
  refine y_iload_n (q := 503) dL_law_502 rfl rfl ?_
  refine y_iconst (2) (q := 504) dL_law_503 rfl (by decide) ?_
  refine y_iadd (q := 505) dL_law_504 rfl ?_
  refine y_sld (q := 506) dL_law_505 rfl (by rw [show nI i + (2 : Int32) = nI (i + 2) from nI_add i 2]; exact vp_in_nI (by omega) (by omega)) ?_
  refine y_callV (a := 0) (ci := 11) (As := [.int (xs (nI i + 1).toNatClampNeg), .int (xs (nI i + 2).toNatClampNeg)]) (rest := []) (T := TX11) (N := 14) (q := 509) dL_law_506 rfl okX11_least tw_866 hop (hp_O (ci := 11) rfl) (by decide) cl_11.1 rfl rfl (Nat.le_of_ble_eq_true rfl) ⟨by decide, by decide⟩ ⟨by show k + 0 ≤ _; exact hk, by show z + 0 ≤ _; exact hkz⟩ (fun rv_ n_ h_ hv_ => ?_)
  obtain ⟨I1, r1, J1, en_, eh_, ev_, hop2⟩ := hv_
  rw [ev_, en_, eh_]
  show Wl b Ln xs 509 [some (.ref 1000005), some (.ref 0), some (.ref 100), some (.int (nI i))] [.int res] 146 (hp I1 r1 J1) k z
  refine y_aload_n (q := 510) dL_law_509 rfl rfl ?_
  refine y_aload_n (q := 511) dL_law_510 rfl rfl ?_
  refine y_iload_n (q := 512) dL_law_511 rfl rfl ?_
  refine y_iconst (1) (q := 513) dL_law_512 rfl (by decide) ?_
  refine y_iadd (q := 514) dL_law_513 rfl ?_
  refine y_sld (q := 515) dL_law_514 rfl (by rw [show nI i + (1 : Int32) = nI (i + 1) from nI_add i 1]; exact vp_in_nI (by omega) (by omega)) ?_
  refine y_aload_n (q := 516) dL_law_515 rfl rfl ?_
  refine y_iload_n (q := 517) dL_law_516 rfl rfl ?_
  refine y_iconst (2) (q := 518) dL_law_517 rfl (by decide) ?_
  refine y_iadd (q := 519) dL_law_518 rfl ?_
  refine y_sld (q := 520) dL_law_519 rfl (by rw [show nI i + (2 : Int32) = nI (i + 2) from nI_add i 2]; exact vp_in_nI (by omega) (by omega)) ?_
  refine y_callV (a := 100) (ci := 12) (As := [.int (xs (nI i + 1).toNatClampNeg), .int (xs (nI i + 2).toNatClampNeg)]) (rest := [.int res]) (T := TX12) (N := 79) (q := 523) dL_law_520 rfl okX12_least tw_1520 hop2 (hp_O (ci := 12) rfl) (by decide) cl_12.1 rfl rfl (Nat.le_of_ble_eq_true rfl) ⟨by decide, by decide⟩ ⟨by show k + 0 ≤ _; exact hk, by show z + 0 ≤ _; exact hkz⟩ (fun rv_ n_ h_ hv_ => ?_)
  obtain ⟨I2, r2, J2, en_, eh_, ev_, hrel2⟩ := hv_
  rw [ev_, en_, eh_]
  show Wl b Ln xs 523 [some (.ref 1000005), some (.ref 0), some (.ref 100), some (.int (nI i))] [.int res, .int res] 146 (hp I2 r2 J2) k z
  refine y_icmp_eq (t := 1020) (q := 526) dL_law_523 (by decide) rfl (fun _ => ?_) (fun c_ => absurd rfl c_)
  refine y_iinc (v := nI (i + 6)) (L2 := [some (.ref 1000005), some (.ref 0), some (.ref 100), some (.int (nI (i + 6)))]) (q := 1023) dL_law_1020 rfl (by decide) rfl rfl (by show _ + (6 : Int32) = _; exact nI_add i 6) rfl ?_
  refine y_goto (t := 18) dL_law_1023 (by decide) ?_
  exact ih I2 r2 J2 hrel2
set_option maxRecDepth 100000 in
theorem law_c12 {b Ln : Nat} {xs : Nat → Int32} {i k z : Nat} (hL : Ln ≤ 3072) (hi6 : i + 6 ≤ Ln) {I : MI} {r : MR} {J : MJ} (hrel : Rel I r J) (ih : ∀ (I : MI) (r : MR) (J : MJ), Rel I r J → Wl b Ln xs 18 [some (.ref 1000005), some (.ref 0), some (.ref 100), some (.int (nI (i + 6)))] [] 146 (hp I r J) k z) (hk : k ≤ 600000) (hkz : z ≤ 7302250) : Wl b Ln xs 528 [some (.ref 1000005), some (.ref 0), some (.ref 100), some (.int (nI i))] [] 146 (hp I r J) k z := by
  obtain ⟨res, hop⟩ := (op_latest (xs (nI i + 1).toNatClampNeg) (xs (nI i + 2).toNatClampNeg) (xs (nI i + 3).toNatClampNeg)) I r J hrel
  refine y_aload_n (q := 529) dL_law_528 rfl rfl ?_
  refine y_aload_n (q := 530) dL_law_529 rfl rfl ?_
  refine y_iload_n (q := 531) dL_law_530 rfl rfl ?_
  refine y_iconst (1) (q := 532) dL_law_531 rfl (by decide) ?_
  refine y_iadd (q := 533) dL_law_532 rfl ?_
  refine y_sld (q := 534) dL_law_533 rfl (by rw [show nI i + (1 : Int32) = nI (i + 1) from nI_add i 1]; exact vp_in_nI (by omega) (by omega)) ?_
  refine y_aload_n (q := 535) dL_law_534 rfl rfl ?_
  refine y_iload_n (q := 536) dL_law_535 rfl rfl ?_
  refine y_iconst (2) (q := 537) dL_law_536 rfl (by decide) ?_
  refine y_iadd (q := 538) dL_law_537 rfl ?_
  refine y_sld (q := 539) dL_law_538 rfl (by rw [show nI i + (2 : Int32) = nI (i + 2) from nI_add i 2]; exact vp_in_nI (by omega) (by omega)) ?_
  refine y_aload_n (q := 540) dL_law_539 rfl rfl ?_
  refine y_iload_n (q := 541) dL_law_540 rfl rfl ?_
  refine y_iconst (3) (q := 542) dL_law_541 rfl (by decide) ?_
  refine y_iadd (q := 543) dL_law_542 rfl ?_
  refine y_sld (q := 544) dL_law_543 rfl (by rw [show nI i + (3 : Int32) = nI (i + 3) from nI_add i 3]; exact vp_in_nI (by omega) (by omega)) ?_
  refine y_callV (a := 0) (ci := 11) (As := [.int (xs (nI i + 1).toNatClampNeg), .int (xs (nI i + 2).toNatClampNeg), .int (xs (nI i + 3).toNatClampNeg)]) (rest := []) (T := TX11) (N := 14) (q := 547) dL_law_544 rfl okX11_latest tw_870 hop (hp_O (ci := 11) rfl) (by decide) cl_11.1 rfl rfl (Nat.le_of_ble_eq_true rfl) ⟨by decide, by decide⟩ ⟨by show k + 0 ≤ _; exact hk, by show z + 0 ≤ _; exact hkz⟩ (fun rv_ n_ h_ hv_ => ?_)
  obtain ⟨I1, r1, J1, en_, eh_, ev_, hop2⟩ := hv_
  rw [ev_, en_, eh_]
  show Wl b Ln xs 547 [some (.ref 1000005), some (.ref 0), some (.ref 100), some (.int (nI i))] [.int res] 146 (hp I1 r1 J1) k z
  refine y_aload_n (q := 548) dL_law_547 rfl rfl ?_
  refine y_aload_n (q := 549) dL_law_548 rfl rfl ?_
  refine y_iload_n (q := 550) dL_law_549 rfl rfl ?_
  refine y_iconst (1) (q := 551) dL_law_550 rfl (by decide) ?_
  refine y_iadd (q := 552) dL_law_551 rfl ?_
  refine y_sld (q := 553) dL_law_552 rfl (by rw [show nI i + (1 : Int32) = nI (i + 1) from nI_add i 1]; exact vp_in_nI (by omega) (by omega)) ?_
  refine y_aload_n (q := 554) dL_law_553 rfl rfl ?_
  refine y_iload_n (q := 555) dL_law_554 rfl rfl ?_
  refine y_iconst (2) (q := 556) dL_law_555 rfl (by decide) ?_
  refine y_iadd (q := 557) dL_law_556 rfl ?_
  refine y_sld (q := 558) dL_law_557 rfl (by rw [show nI i + (2 : Int32) = nI (i + 2) from nI_add i 2]; exact vp_in_nI (by omega) (by omega)) ?_
  refine y_aload_n (q := 559) dL_law_558 rfl rfl ?_
  refine y_iload_n (q := 560) dL_law_559 rfl rfl ?_
  refine y_iconst (3) (q := 561) dL_law_560 rfl (by decide) ?_
  refine y_iadd (q := 562) dL_law_561 rfl ?_
  refine y_sld (q := 563) dL_law_562 rfl (by rw [show nI i + (3 : Int32) = nI (i + 3) from nI_add i 3]; exact vp_in_nI (by omega) (by omega)) ?_
  refine y_callV (a := 100) (ci := 12) (As := [.int (xs (nI i + 1).toNatClampNeg), .int (xs (nI i + 2).toNatClampNeg), .int (xs (nI i + 3).toNatClampNeg)]) (rest := [.int res]) (T := TX12) (N := 79) (q := 566) dL_law_563 rfl okX12_latest tw_1524 hop2 (hp_O (ci := 12) rfl) (by decide) cl_12.1 rfl rfl (Nat.le_of_ble_eq_true rfl) ⟨by decide, by decide⟩ ⟨by show k + 0 ≤ _; exact hk, by show z + 0 ≤ _; exact hkz⟩ (fun rv_ n_ h_ hv_ => ?_)
  obtain ⟨I2, r2, J2, en_, eh_, ev_, hrel2⟩ := hv_
  rw [ev_, en_, eh_]
  show Wl b Ln xs 566 [some (.ref 1000005), some (.ref 0), some (.ref 100), some (.int (nI i))] [.int res, .int res] 146 (hp I2 r2 J2) k z
  refine y_icmp_eq (t := 1020) (q := 569) dL_law_566 (by decide) rfl (fun _ => ?_) (fun c_ => absurd rfl c_)
  refine y_iinc (v := nI (i + 6)) (L2 := [some (.ref 1000005), some (.ref 0), some (.ref 100), some (.int (nI (i + 6)))]) (q := 1023) dL_law_1020 rfl (by decide) rfl rfl (by show _ + (6 : Int32) = _; exact nI_add i 6) rfl ?_
  refine y_goto (t := 18) dL_law_1023 (by decide) ?_
  exact ih I2 r2 J2 hrel2
set_option maxRecDepth 100000 in
theorem law_c13 {b Ln : Nat} {xs : Nat → Int32} {i k z : Nat} (hL : Ln ≤ 3072) (hi6 : i + 6 ≤ Ln) {I : MI} {r : MR} {J : MJ} (hrel : Rel I r J) (ih : ∀ (I : MI) (r : MR) (J : MJ), Rel I r J → Wl b Ln xs 18 [some (.ref 1000005), some (.ref 0), some (.ref 100), some (.int (nI (i + 6)))] [] 146 (hp I r J) k z) (hk : k ≤ 600000) (hkz : z ≤ 7302250) : Wl b Ln xs 571 [some (.ref 1000005), some (.ref 0), some (.ref 100), some (.int (nI i))] [] 146 (hp I r J) k z := by
  obtain ⟨res, hop⟩ := (op_odds (xs (nI i + 1).toNatClampNeg) (xs (nI i + 2).toNatClampNeg) (xs (nI i + 3).toNatClampNeg)) I r J hrel
  refine y_aload_n (q := 572) dL_law_571 rfl rfl ?_
  refine y_aload_n (q := 573) dL_law_572 rfl rfl ?_
  refine y_iload_n (q := 574) dL_law_573 rfl rfl ?_
  refine y_iconst (1) (q := 575) dL_law_574 rfl (by decide) ?_
  refine y_iadd (q := 576) dL_law_575 rfl ?_
  refine y_sld (q := 577) dL_law_576 rfl (by rw [show nI i + (1 : Int32) = nI (i + 1) from nI_add i 1]; exact vp_in_nI (by omega) (by omega)) ?_
  refine y_aload_n (q := 578) dL_law_577 rfl rfl ?_
  refine y_iload_n (q := 579) dL_law_578 rfl rfl ?_
  refine y_iconst (2) (q := 580) dL_law_579 rfl (by decide) ?_
  refine y_iadd (q := 581) dL_law_580 rfl ?_
  refine y_sld (q := 582) dL_law_581 rfl (by rw [show nI i + (2 : Int32) = nI (i + 2) from nI_add i 2]; exact vp_in_nI (by omega) (by omega)) ?_
  refine y_aload_n (q := 583) dL_law_582 rfl rfl ?_
  refine y_iload_n (q := 584) dL_law_583 rfl rfl ?_
  refine y_iconst (3) (q := 585) dL_law_584 rfl (by decide) ?_
  refine y_iadd (q := 586) dL_law_585 rfl ?_
  refine y_sld (q := 587) dL_law_586 rfl (by rw [show nI i + (3 : Int32) = nI (i + 3) from nI_add i 3]; exact vp_in_nI (by omega) (by omega)) ?_
  refine y_callV (a := 0) (ci := 11) (As := [.int (xs (nI i + 1).toNatClampNeg), .int (xs (nI i + 2).toNatClampNeg), .int (xs (nI i + 3).toNatClampNeg)]) (rest := []) (T := TX11) (N := 14) (q := 590) dL_law_587 rfl okX11_odds tw_882 hop (hp_O (ci := 11) rfl) (by decide) cl_11.1 rfl rfl (Nat.le_of_ble_eq_true rfl) ⟨by decide, by decide⟩ ⟨by show k + 0 ≤ _; exact hk, by show z + 0 ≤ _; exact hkz⟩ (fun rv_ n_ h_ hv_ => ?_)
  obtain ⟨I1, r1, J1, en_, eh_, ev_, hop2⟩ := hv_
  rw [ev_, en_, eh_]
  show Wl b Ln xs 590 [some (.ref 1000005), some (.ref 0), some (.ref 100), some (.int (nI i))] [.int res] 146 (hp I1 r1 J1) k z
  refine y_aload_n (q := 591) dL_law_590 rfl rfl ?_
  refine y_aload_n (q := 592) dL_law_591 rfl rfl ?_
  refine y_iload_n (q := 593) dL_law_592 rfl rfl ?_
  refine y_iconst (1) (q := 594) dL_law_593 rfl (by decide) ?_
  refine y_iadd (q := 595) dL_law_594 rfl ?_
  refine y_sld (q := 596) dL_law_595 rfl (by rw [show nI i + (1 : Int32) = nI (i + 1) from nI_add i 1]; exact vp_in_nI (by omega) (by omega)) ?_
  refine y_aload_n (q := 597) dL_law_596 rfl rfl ?_
  refine y_iload_n (q := 598) dL_law_597 rfl rfl ?_
  refine y_iconst (2) (q := 599) dL_law_598 rfl (by decide) ?_
  refine y_iadd (q := 600) dL_law_599 rfl ?_
  refine y_sld (q := 601) dL_law_600 rfl (by rw [show nI i + (2 : Int32) = nI (i + 2) from nI_add i 2]; exact vp_in_nI (by omega) (by omega)) ?_
  refine y_aload_n (q := 602) dL_law_601 rfl rfl ?_
  refine y_iload_n (q := 603) dL_law_602 rfl rfl ?_
  refine y_iconst (3) (q := 604) dL_law_603 rfl (by decide) ?_
  refine y_iadd (q := 605) dL_law_604 rfl ?_
  refine y_sld (q := 606) dL_law_605 rfl (by rw [show nI i + (3 : Int32) = nI (i + 3) from nI_add i 3]; exact vp_in_nI (by omega) (by omega)) ?_
  refine y_callV (a := 100) (ci := 12) (As := [.int (xs (nI i + 1).toNatClampNeg), .int (xs (nI i + 2).toNatClampNeg), .int (xs (nI i + 3).toNatClampNeg)]) (rest := [.int res]) (T := TX12) (N := 79) (q := 609) dL_law_606 rfl okX12_odds tw_1528 hop2 (hp_O (ci := 12) rfl) (by decide) cl_12.1 rfl rfl (Nat.le_of_ble_eq_true rfl) ⟨by decide, by decide⟩ ⟨by show k + 0 ≤ _; exact hk, by show z + 0 ≤ _; exact hkz⟩ (fun rv_ n_ h_ hv_ => ?_)
  obtain ⟨I2, r2, J2, en_, eh_, ev_, hrel2⟩ := hv_
  rw [ev_, en_, eh_]
  show Wl b Ln xs 609 [some (.ref 1000005), some (.ref 0), some (.ref 100), some (.int (nI i))] [.int res, .int res] 146 (hp I2 r2 J2) k z
  refine y_icmp_eq (t := 1020) (q := 612) dL_law_609 (by decide) rfl (fun _ => ?_) (fun c_ => absurd rfl c_)
  refine y_iinc (v := nI (i + 6)) (L2 := [some (.ref 1000005), some (.ref 0), some (.ref 100), some (.int (nI (i + 6)))]) (q := 1023) dL_law_1020 rfl (by decide) rfl rfl (by show _ + (6 : Int32) = _; exact nI_add i 6) rfl ?_
  refine y_goto (t := 18) dL_law_1023 (by decide) ?_
  exact ih I2 r2 J2 hrel2
set_option maxRecDepth 100000 in
theorem law_c14 {b Ln : Nat} {xs : Nat → Int32} {i k z : Nat} (hL : Ln ≤ 3072) (hi6 : i + 6 ≤ Ln) {I : MI} {r : MR} {J : MJ} (hrel : Rel I r J) (ih : ∀ (I : MI) (r : MR) (J : MJ), Rel I r J → Wl b Ln xs 18 [some (.ref 1000005), some (.ref 0), some (.ref 100), some (.int (nI (i + 6)))] [] 146 (hp I r J) k z) (hk : k ≤ 600000) (hkz : z ≤ 7302250) : Wl b Ln xs 614 [some (.ref 1000005), some (.ref 0), some (.ref 100), some (.int (nI i))] [] 146 (hp I r J) k z := by
  obtain ⟨res, hop⟩ := (op_plan (xs (nI i + 1).toNatClampNeg) (xs (nI i + 2).toNatClampNeg) (xs (nI i + 3).toNatClampNeg) (xs (nI i + 4).toNatClampNeg)) I r J hrel
  refine y_aload_n (q := 615) dL_law_614 rfl rfl ?_
  refine y_aload_n (q := 616) dL_law_615 rfl rfl ?_
  refine y_iload_n (q := 617) dL_law_616 rfl rfl ?_
  refine y_iconst (1) (q := 618) dL_law_617 rfl (by decide) ?_
  refine y_iadd (q := 619) dL_law_618 rfl ?_
  refine y_sld (q := 620) dL_law_619 rfl (by rw [show nI i + (1 : Int32) = nI (i + 1) from nI_add i 1]; exact vp_in_nI (by omega) (by omega)) ?_
  refine y_aload_n (q := 621) dL_law_620 rfl rfl ?_
  refine y_iload_n (q := 622) dL_law_621 rfl rfl ?_
  refine y_iconst (2) (q := 623) dL_law_622 rfl (by decide) ?_
  refine y_iadd (q := 624) dL_law_623 rfl ?_
  refine y_sld (q := 625) dL_law_624 rfl (by rw [show nI i + (2 : Int32) = nI (i + 2) from nI_add i 2]; exact vp_in_nI (by omega) (by omega)) ?_
  refine y_aload_n (q := 626) dL_law_625 rfl rfl ?_
  refine y_iload_n (q := 627) dL_law_626 rfl rfl ?_
  refine y_iconst (3) (q := 628) dL_law_627 rfl (by decide) ?_
  refine y_iadd (q := 629) dL_law_628 rfl ?_
  refine y_sld (q := 630) dL_law_629 rfl (by rw [show nI i + (3 : Int32) = nI (i + 3) from nI_add i 3]; exact vp_in_nI (by omega) (by omega)) ?_
  refine y_aload_n (q := 631) dL_law_630 rfl rfl ?_
  refine y_iload_n (q := 632) dL_law_631 rfl rfl ?_
  refine y_iconst (4) (q := 633) dL_law_632 rfl (by decide) ?_
  refine y_iadd (q := 634) dL_law_633 rfl ?_
  refine y_sld (q := 635) dL_law_634 rfl (by rw [show nI i + (4 : Int32) = nI (i + 4) from nI_add i 4]; exact vp_in_nI (by omega) (by omega)) ?_
  refine y_callV (a := 0) (ci := 11) (As := [.int (xs (nI i + 1).toNatClampNeg), .int (xs (nI i + 2).toNatClampNeg), .int (xs (nI i + 3).toNatClampNeg), .int (xs (nI i + 4).toNatClampNeg)]) (rest := []) (T := TX11) (N := 14) (q := 638) dL_law_635 rfl okX11_plan tw_897 hop (hp_O (ci := 11) rfl) (by decide) cl_11.1 rfl rfl (Nat.le_of_ble_eq_true rfl) ⟨by decide, by decide⟩ ⟨by show k + 0 ≤ _; exact hk, by show z + 0 ≤ _; exact hkz⟩ (fun rv_ n_ h_ hv_ => ?_)
  obtain ⟨I1, r1, J1, en_, eh_, ev_, hop2⟩ := hv_
  rw [ev_, en_, eh_]
  show Wl b Ln xs 638 [some (.ref 1000005), some (.ref 0), some (.ref 100), some (.int (nI i))] [.int res] 146 (hp I1 r1 J1) k z
  refine y_aload_n (q := 639) dL_law_638 rfl rfl ?_
  refine y_aload_n (q := 640) dL_law_639 rfl rfl ?_
  refine y_iload_n (q := 641) dL_law_640 rfl rfl ?_
  refine y_iconst (1) (q := 642) dL_law_641 rfl (by decide) ?_
  refine y_iadd (q := 643) dL_law_642 rfl ?_
  refine y_sld (q := 644) dL_law_643 rfl (by rw [show nI i + (1 : Int32) = nI (i + 1) from nI_add i 1]; exact vp_in_nI (by omega) (by omega)) ?_
  refine y_aload_n (q := 645) dL_law_644 rfl rfl ?_
  refine y_iload_n (q := 646) dL_law_645 rfl rfl ?_
  refine y_iconst (2) (q := 647) dL_law_646 rfl (by decide) ?_
  refine y_iadd (q := 648) dL_law_647 rfl ?_
  refine y_sld (q := 649) dL_law_648 rfl (by rw [show nI i + (2 : Int32) = nI (i + 2) from nI_add i 2]; exact vp_in_nI (by omega) (by omega)) ?_
  refine y_aload_n (q := 650) dL_law_649 rfl rfl ?_
  refine y_iload_n (q := 651) dL_law_650 rfl rfl ?_
  refine y_iconst (3) (q := 652) dL_law_651 rfl (by decide) ?_
  refine y_iadd (q := 653) dL_law_652 rfl ?_
  refine y_sld (q := 654) dL_law_653 rfl (by rw [show nI i + (3 : Int32) = nI (i + 3) from nI_add i 3]; exact vp_in_nI (by omega) (by omega)) ?_
  refine y_aload_n (q := 655) dL_law_654 rfl rfl ?_
  refine y_iload_n (q := 656) dL_law_655 rfl rfl ?_
  refine y_iconst (4) (q := 657) dL_law_656 rfl (by decide) ?_
  refine y_iadd (q := 658) dL_law_657 rfl ?_
  refine y_sld (q := 659) dL_law_658 rfl (by rw [show nI i + (4 : Int32) = nI (i + 4) from nI_add i 4]; exact vp_in_nI (by omega) (by omega)) ?_
  refine y_callV (a := 100) (ci := 12) (As := [.int (xs (nI i + 1).toNatClampNeg), .int (xs (nI i + 2).toNatClampNeg), .int (xs (nI i + 3).toNatClampNeg), .int (xs (nI i + 4).toNatClampNeg)]) (rest := [.int res]) (T := TX12) (N := 79) (q := 662) dL_law_659 rfl okX12_plan tw_1559 hop2 (hp_O (ci := 12) rfl) (by decide) cl_12.1 rfl rfl (Nat.le_of_ble_eq_true rfl) ⟨by decide, by decide⟩ ⟨by show k + 0 ≤ _; exact hk, by show z + 0 ≤ _; exact hkz⟩ (fun rv_ n_ h_ hv_ => ?_)
  obtain ⟨I2, r2, J2, en_, eh_, ev_, hrel2⟩ := hv_
  rw [ev_, en_, eh_]
  show Wl b Ln xs 662 [some (.ref 1000005), some (.ref 0), some (.ref 100), some (.int (nI i))] [.int res, .int res] 146 (hp I2 r2 J2) k z
  refine y_icmp_eq (t := 1020) (q := 665) dL_law_662 (by decide) rfl (fun _ => ?_) (fun c_ => absurd rfl c_)
  refine y_iinc (v := nI (i + 6)) (L2 := [some (.ref 1000005), some (.ref 0), some (.ref 100), some (.int (nI (i + 6)))]) (q := 1023) dL_law_1020 rfl (by decide) rfl rfl (by show _ + (6 : Int32) = _; exact nI_add i 6) rfl ?_
  refine y_goto (t := 18) dL_law_1023 (by decide) ?_
  exact ih I2 r2 J2 hrel2
set_option maxRecDepth 100000 in
theorem law_c15 {b Ln : Nat} {xs : Nat → Int32} {i k z : Nat} (hL : Ln ≤ 3072) (hi6 : i + 6 ≤ Ln) {I : MI} {r : MR} {J : MJ} (hrel : Rel I r J) (ih : ∀ (I : MI) (r : MR) (J : MJ), Rel I r J → Wl b Ln xs 18 [some (.ref 1000005), some (.ref 0), some (.ref 100), some (.int (nI (i + 6)))] [] 146 (hp I r J) k z) (hk : k ≤ 600000) (hkz : z ≤ 7302250) : Wl b Ln xs 667 [some (.ref 1000005), some (.ref 0), some (.ref 100), some (.int (nI i))] [] 146 (hp I r J) k z := by
  obtain ⟨res, hop⟩ := (op_round (xs (nI i + 1).toNatClampNeg) (xs (nI i + 2).toNatClampNeg) (xs (nI i + 3).toNatClampNeg)) I r J hrel
  refine y_aload_n (q := 668) dL_law_667 rfl rfl ?_
  refine y_aload_n (q := 669) dL_law_668 rfl rfl ?_
  refine y_iload_n (q := 670) dL_law_669 rfl rfl ?_
  refine y_iconst (1) (q := 671) dL_law_670 rfl (by decide) ?_
  refine y_iadd (q := 672) dL_law_671 rfl ?_
  refine y_sld (q := 673) dL_law_672 rfl (by rw [show nI i + (1 : Int32) = nI (i + 1) from nI_add i 1]; exact vp_in_nI (by omega) (by omega)) ?_
  refine y_aload_n (q := 674) dL_law_673 rfl rfl ?_
  refine y_iload_n (q := 675) dL_law_674 rfl rfl ?_
  refine y_iconst (2) (q := 676) dL_law_675 rfl (by decide) ?_
  refine y_iadd (q := 677) dL_law_676 rfl ?_
  refine y_sld (q := 678) dL_law_677 rfl (by rw [show nI i + (2 : Int32) = nI (i + 2) from nI_add i 2]; exact vp_in_nI (by omega) (by omega)) ?_
  refine y_aload_n (q := 679) dL_law_678 rfl rfl ?_
  refine y_iload_n (q := 680) dL_law_679 rfl rfl ?_
  refine y_iconst (3) (q := 681) dL_law_680 rfl (by decide) ?_
  refine y_iadd (q := 682) dL_law_681 rfl ?_
  refine y_sld (q := 683) dL_law_682 rfl (by rw [show nI i + (3 : Int32) = nI (i + 3) from nI_add i 3]; exact vp_in_nI (by omega) (by omega)) ?_
  refine y_callV (a := 0) (ci := 11) (As := [.int (xs (nI i + 1).toNatClampNeg), .int (xs (nI i + 2).toNatClampNeg), .int (xs (nI i + 3).toNatClampNeg)]) (rest := []) (T := TX11) (N := 14) (q := 686) dL_law_683 rfl okX11_round tw_916 hop (hp_O (ci := 11) rfl) (by decide) cl_11.1 rfl rfl (Nat.le_of_ble_eq_true rfl) ⟨by decide, by decide⟩ ⟨by show k + 0 ≤ _; exact hk, by show z + 0 ≤ _; exact hkz⟩ (fun rv_ n_ h_ hv_ => ?_)
  obtain ⟨I1, r1, J1, en_, eh_, ev_, hop2⟩ := hv_
  rw [ev_, en_, eh_]
  show Wl b Ln xs 686 [some (.ref 1000005), some (.ref 0), some (.ref 100), some (.int (nI i))] [.int res] 146 (hp I1 r1 J1) k z
  refine y_aload_n (q := 687) dL_law_686 rfl rfl ?_
  refine y_aload_n (q := 688) dL_law_687 rfl rfl ?_
  refine y_iload_n (q := 689) dL_law_688 rfl rfl ?_
  refine y_iconst (1) (q := 690) dL_law_689 rfl (by decide) ?_
  refine y_iadd (q := 691) dL_law_690 rfl ?_
  refine y_sld (q := 692) dL_law_691 rfl (by rw [show nI i + (1 : Int32) = nI (i + 1) from nI_add i 1]; exact vp_in_nI (by omega) (by omega)) ?_
  refine y_aload_n (q := 693) dL_law_692 rfl rfl ?_
  refine y_iload_n (q := 694) dL_law_693 rfl rfl ?_
  refine y_iconst (2) (q := 695) dL_law_694 rfl (by decide) ?_
  refine y_iadd (q := 696) dL_law_695 rfl ?_
  refine y_sld (q := 697) dL_law_696 rfl (by rw [show nI i + (2 : Int32) = nI (i + 2) from nI_add i 2]; exact vp_in_nI (by omega) (by omega)) ?_
  refine y_aload_n (q := 698) dL_law_697 rfl rfl ?_
  refine y_iload_n (q := 699) dL_law_698 rfl rfl ?_
  refine y_iconst (3) (q := 700) dL_law_699 rfl (by decide) ?_
  refine y_iadd (q := 701) dL_law_700 rfl ?_
  refine y_sld (q := 702) dL_law_701 rfl (by rw [show nI i + (3 : Int32) = nI (i + 3) from nI_add i 3]; exact vp_in_nI (by omega) (by omega)) ?_
  refine y_callV (a := 100) (ci := 12) (As := [.int (xs (nI i + 1).toNatClampNeg), .int (xs (nI i + 2).toNatClampNeg), .int (xs (nI i + 3).toNatClampNeg)]) (rest := [.int res]) (T := TX12) (N := 79) (q := 705) dL_law_702 rfl okX12_round tw_1571 hop2 (hp_O (ci := 12) rfl) (by decide) cl_12.1 rfl rfl (Nat.le_of_ble_eq_true rfl) ⟨by decide, by decide⟩ ⟨by show k + 0 ≤ _; exact hk, by show z + 0 ≤ _; exact hkz⟩ (fun rv_ n_ h_ hv_ => ?_)
  obtain ⟨I2, r2, J2, en_, eh_, ev_, hrel2⟩ := hv_
  rw [ev_, en_, eh_]
  show Wl b Ln xs 705 [some (.ref 1000005), some (.ref 0), some (.ref 100), some (.int (nI i))] [.int res, .int res] 146 (hp I2 r2 J2) k z
  refine y_icmp_eq (t := 1020) (q := 708) dL_law_705 (by decide) rfl (fun _ => ?_) (fun c_ => absurd rfl c_)
  refine y_iinc (v := nI (i + 6)) (L2 := [some (.ref 1000005), some (.ref 0), some (.ref 100), some (.int (nI (i + 6)))]) (q := 1023) dL_law_1020 rfl (by decide) rfl rfl (by show _ + (6 : Int32) = _; exact nI_add i 6) rfl ?_
  refine y_goto (t := 18) dL_law_1023 (by decide) ?_
  exact ih I2 r2 J2 hrel2
set_option maxRecDepth 100000 in
theorem law_c16 {b Ln : Nat} {xs : Nat → Int32} {i k z : Nat} (hL : Ln ≤ 3072) (hi6 : i + 6 ≤ Ln) {I : MI} {r : MR} {J : MJ} (hrel : Rel I r J) (ih : ∀ (I : MI) (r : MR) (J : MJ), Rel I r J → Wl b Ln xs 18 [some (.ref 1000005), some (.ref 0), some (.ref 100), some (.int (nI (i + 6)))] [] 146 (hp I r J) k z) (hk : k ≤ 600000) (hkz : z ≤ 7302250) : Wl b Ln xs 710 [some (.ref 1000005), some (.ref 0), some (.ref 100), some (.int (nI i))] [] 146 (hp I r J) k z := by
  obtain ⟨res, hop⟩ := (op_lies (xs (nI i + 1).toNatClampNeg)) I r J hrel
  refine y_aload_n (q := 711) dL_law_710 rfl rfl ?_
  refine y_aload_n (q := 712) dL_law_711 rfl rfl ?_
  refine y_iload_n (q := 713) dL_law_712 rfl rfl ?_
  refine y_iconst (1) (q := 714) dL_law_713 rfl (by decide) ?_
  refine y_iadd (q := 715) dL_law_714 rfl ?_
  refine y_sld (q := 716) dL_law_715 rfl (by rw [show nI i + (1 : Int32) = nI (i + 1) from nI_add i 1]; exact vp_in_nI (by omega) (by omega)) ?_
  refine y_callV (a := 0) (ci := 11) (As := [.int (xs (nI i + 1).toNatClampNeg)]) (rest := []) (T := TX11) (N := 14) (q := 719) dL_law_716 rfl okX11_lies tw_968 hop (hp_O (ci := 11) rfl) (by decide) cl_11.1 rfl rfl (Nat.le_of_ble_eq_true rfl) ⟨by decide, by decide⟩ ⟨by show k + 0 ≤ _; exact hk, by show z + 0 ≤ _; exact hkz⟩ (fun rv_ n_ h_ hv_ => ?_)
  obtain ⟨I1, r1, J1, en_, eh_, ev_, hop2⟩ := hv_
  rw [ev_, en_, eh_]
  show Wl b Ln xs 719 [some (.ref 1000005), some (.ref 0), some (.ref 100), some (.int (nI i))] [.int res] 146 (hp I1 r1 J1) k z
  refine y_aload_n (q := 720) dL_law_719 rfl rfl ?_
  refine y_aload_n (q := 721) dL_law_720 rfl rfl ?_
  refine y_iload_n (q := 722) dL_law_721 rfl rfl ?_
  refine y_iconst (1) (q := 723) dL_law_722 rfl (by decide) ?_
  refine y_iadd (q := 724) dL_law_723 rfl ?_
  refine y_sld (q := 725) dL_law_724 rfl (by rw [show nI i + (1 : Int32) = nI (i + 1) from nI_add i 1]; exact vp_in_nI (by omega) (by omega)) ?_
  refine y_callV (a := 100) (ci := 12) (As := [.int (xs (nI i + 1).toNatClampNeg)]) (rest := [.int res]) (T := TX12) (N := 79) (q := 728) dL_law_725 rfl okX12_lies tw_1600 hop2 (hp_O (ci := 12) rfl) (by decide) cl_12.1 rfl rfl (Nat.le_of_ble_eq_true rfl) ⟨by decide, by decide⟩ ⟨by show k + 0 ≤ _; exact hk, by show z + 0 ≤ _; exact hkz⟩ (fun rv_ n_ h_ hv_ => ?_)
  obtain ⟨I2, r2, J2, en_, eh_, ev_, hrel2⟩ := hv_
  rw [ev_, en_, eh_]
  show Wl b Ln xs 728 [some (.ref 1000005), some (.ref 0), some (.ref 100), some (.int (nI i))] [.int res, .int res] 146 (hp I2 r2 J2) k z
  refine y_icmp_eq (t := 1020) (q := 731) dL_law_728 (by decide) rfl (fun _ => ?_) (fun c_ => absurd rfl c_)
  refine y_iinc (v := nI (i + 6)) (L2 := [some (.ref 1000005), some (.ref 0), some (.ref 100), some (.int (nI (i + 6)))]) (q := 1023) dL_law_1020 rfl (by decide) rfl rfl (by show _ + (6 : Int32) = _; exact nI_add i 6) rfl ?_
  refine y_goto (t := 18) dL_law_1023 (by decide) ?_
  exact ih I2 r2 J2 hrel2
set_option maxRecDepth 100000 in
theorem law_c17 {b Ln : Nat} {xs : Nat → Int32} {i k z : Nat} (hL : Ln ≤ 3072) (hi6 : i + 6 ≤ Ln) {I : MI} {r : MR} {J : MJ} (hrel : Rel I r J) (ih : ∀ (I : MI) (r : MR) (J : MJ), Rel I r J → Wl b Ln xs 18 [some (.ref 1000005), some (.ref 0), some (.ref 100), some (.int (nI (i + 6)))] [] 146 (hp I r J) k z) (hk : k ≤ 600000) (hkz : z ≤ 7302250) : Wl b Ln xs 733 [some (.ref 1000005), some (.ref 0), some (.ref 100), some (.int (nI i))] [] 146 (hp I r J) k z := by
  obtain ⟨res, hop⟩ := (op_opn (xs (nI i + 1).toNatClampNeg) (xs (nI i + 2).toNatClampNeg) (xs (nI i + 3).toNatClampNeg)) I r J hrel
  refine y_aload_n (q := 734) dL_law_733 rfl rfl ?_
  refine y_aload_n (q := 735) dL_law_734 rfl rfl ?_
  refine y_iload_n (q := 736) dL_law_735 rfl rfl ?_
  refine y_iconst (1) (q := 737) dL_law_736 rfl (by decide) ?_
  refine y_iadd (q := 738) dL_law_737 rfl ?_
  refine y_sld (q := 739) dL_law_738 rfl (by rw [show nI i + (1 : Int32) = nI (i + 1) from nI_add i 1]; exact vp_in_nI (by omega) (by omega)) ?_
  refine y_aload_n (q := 740) dL_law_739 rfl rfl ?_
  refine y_iload_n (q := 741) dL_law_740 rfl rfl ?_
  refine y_iconst (2) (q := 742) dL_law_741 rfl (by decide) ?_
  refine y_iadd (q := 743) dL_law_742 rfl ?_
  refine y_sld (q := 744) dL_law_743 rfl (by rw [show nI i + (2 : Int32) = nI (i + 2) from nI_add i 2]; exact vp_in_nI (by omega) (by omega)) ?_
  refine y_aload_n (q := 745) dL_law_744 rfl rfl ?_
  refine y_iload_n (q := 746) dL_law_745 rfl rfl ?_
  refine y_iconst (3) (q := 747) dL_law_746 rfl (by decide) ?_
  refine y_iadd (q := 748) dL_law_747 rfl ?_
  refine y_sld (q := 749) dL_law_748 rfl (by rw [show nI i + (3 : Int32) = nI (i + 3) from nI_add i 3]; exact vp_in_nI (by omega) (by omega)) ?_
  refine y_callV (a := 0) (ci := 11) (As := [.int (xs (nI i + 1).toNatClampNeg), .int (xs (nI i + 2).toNatClampNeg), .int (xs (nI i + 3).toNatClampNeg)]) (rest := []) (T := TX11) (N := 14) (q := 752) dL_law_749 rfl okX11_open tw_972 hop (hp_O (ci := 11) rfl) (by decide) cl_11.1 rfl rfl (Nat.le_of_ble_eq_true rfl) ⟨by decide, by decide⟩ ⟨by show k + 0 ≤ _; exact hk, by show z + 0 ≤ _; exact hkz⟩ (fun rv_ n_ h_ hv_ => ?_)
  obtain ⟨I1, r1, J1, en_, eh_, ev_, hop2⟩ := hv_
  rw [ev_, en_, eh_]
  show Wl b Ln xs 752 [some (.ref 1000005), some (.ref 0), some (.ref 100), some (.int (nI i))] [.int res] 146 (hp I1 r1 J1) k z
  refine y_aload_n (q := 753) dL_law_752 rfl rfl ?_
  refine y_aload_n (q := 754) dL_law_753 rfl rfl ?_
  refine y_iload_n (q := 755) dL_law_754 rfl rfl ?_
  refine y_iconst (1) (q := 756) dL_law_755 rfl (by decide) ?_
  refine y_iadd (q := 757) dL_law_756 rfl ?_
  refine y_sld (q := 758) dL_law_757 rfl (by rw [show nI i + (1 : Int32) = nI (i + 1) from nI_add i 1]; exact vp_in_nI (by omega) (by omega)) ?_
  refine y_aload_n (q := 759) dL_law_758 rfl rfl ?_
  refine y_iload_n (q := 760) dL_law_759 rfl rfl ?_
  refine y_iconst (2) (q := 761) dL_law_760 rfl (by decide) ?_
  refine y_iadd (q := 762) dL_law_761 rfl ?_
  refine y_sld (q := 763) dL_law_762 rfl (by rw [show nI i + (2 : Int32) = nI (i + 2) from nI_add i 2]; exact vp_in_nI (by omega) (by omega)) ?_
  refine y_aload_n (q := 764) dL_law_763 rfl rfl ?_
  refine y_iload_n (q := 765) dL_law_764 rfl rfl ?_
  refine y_iconst (3) (q := 766) dL_law_765 rfl (by decide) ?_
  refine y_iadd (q := 767) dL_law_766 rfl ?_
  refine y_sld (q := 768) dL_law_767 rfl (by rw [show nI i + (3 : Int32) = nI (i + 3) from nI_add i 3]; exact vp_in_nI (by omega) (by omega)) ?_
  refine y_callV (a := 100) (ci := 12) (As := [.int (xs (nI i + 1).toNatClampNeg), .int (xs (nI i + 2).toNatClampNeg), .int (xs (nI i + 3).toNatClampNeg)]) (rest := [.int res]) (T := TX12) (N := 79) (q := 771) dL_law_768 rfl okX12_open tw_1604 hop2 (hp_O (ci := 12) rfl) (by decide) cl_12.1 rfl rfl (Nat.le_of_ble_eq_true rfl) ⟨by decide, by decide⟩ ⟨by show k + 0 ≤ _; exact hk, by show z + 0 ≤ _; exact hkz⟩ (fun rv_ n_ h_ hv_ => ?_)
  obtain ⟨I2, r2, J2, en_, eh_, ev_, hrel2⟩ := hv_
  rw [ev_, en_, eh_]
  show Wl b Ln xs 771 [some (.ref 1000005), some (.ref 0), some (.ref 100), some (.int (nI i))] [.int res, .int res] 146 (hp I2 r2 J2) k z
  refine y_icmp_eq (t := 1020) (q := 774) dL_law_771 (by decide) rfl (fun _ => ?_) (fun c_ => absurd rfl c_)
  refine y_iinc (v := nI (i + 6)) (L2 := [some (.ref 1000005), some (.ref 0), some (.ref 100), some (.int (nI (i + 6)))]) (q := 1023) dL_law_1020 rfl (by decide) rfl rfl (by show _ + (6 : Int32) = _; exact nI_add i 6) rfl ?_
  refine y_goto (t := 18) dL_law_1023 (by decide) ?_
  exact ih I2 r2 J2 hrel2
set_option maxRecDepth 100000 in
theorem law_c18 {b Ln : Nat} {xs : Nat → Int32} {i k z : Nat} (hL : Ln ≤ 3072) (hi6 : i + 6 ≤ Ln) {I : MI} {r : MR} {J : MJ} (hrel : Rel I r J) (ih : ∀ (I : MI) (r : MR) (J : MJ), Rel I r J → Wl b Ln xs 18 [some (.ref 1000005), some (.ref 0), some (.ref 100), some (.int (nI (i + 6)))] [] 146 (hp I r J) k z) (hk : k ≤ 600000) (hkz : z ≤ 7302250) : Wl b Ln xs 776 [some (.ref 1000005), some (.ref 0), some (.ref 100), some (.int (nI i))] [] 146 (hp I r J) k z := by
  obtain ⟨res, hop⟩ := (op_read (xs (nI i + 1).toNatClampNeg) (xs (nI i + 2).toNatClampNeg) (xs (nI i + 3).toNatClampNeg) (xs (nI i + 4).toNatClampNeg) (xs (nI i + 5).toNatClampNeg)) I r J hrel
  refine y_aload_n (q := 777) dL_law_776 rfl rfl ?_
  refine y_aload_n (q := 778) dL_law_777 rfl rfl ?_
  refine y_iload_n (q := 779) dL_law_778 rfl rfl ?_
  refine y_iconst (1) (q := 780) dL_law_779 rfl (by decide) ?_
  refine y_iadd (q := 781) dL_law_780 rfl ?_
  refine y_sld (q := 782) dL_law_781 rfl (by rw [show nI i + (1 : Int32) = nI (i + 1) from nI_add i 1]; exact vp_in_nI (by omega) (by omega)) ?_
  refine y_aload_n (q := 783) dL_law_782 rfl rfl ?_
  refine y_iload_n (q := 784) dL_law_783 rfl rfl ?_
  refine y_iconst (2) (q := 785) dL_law_784 rfl (by decide) ?_
  refine y_iadd (q := 786) dL_law_785 rfl ?_
  refine y_sld (q := 787) dL_law_786 rfl (by rw [show nI i + (2 : Int32) = nI (i + 2) from nI_add i 2]; exact vp_in_nI (by omega) (by omega)) ?_
  refine y_aload_n (q := 788) dL_law_787 rfl rfl ?_
  refine y_iload_n (q := 789) dL_law_788 rfl rfl ?_
  refine y_iconst (3) (q := 790) dL_law_789 rfl (by decide) ?_
  refine y_iadd (q := 791) dL_law_790 rfl ?_
  refine y_sld (q := 792) dL_law_791 rfl (by rw [show nI i + (3 : Int32) = nI (i + 3) from nI_add i 3]; exact vp_in_nI (by omega) (by omega)) ?_
  refine y_aload_n (q := 793) dL_law_792 rfl rfl ?_
  refine y_iload_n (q := 794) dL_law_793 rfl rfl ?_
  refine y_iconst (4) (q := 795) dL_law_794 rfl (by decide) ?_
  refine y_iadd (q := 796) dL_law_795 rfl ?_
  refine y_sld (q := 797) dL_law_796 rfl (by rw [show nI i + (4 : Int32) = nI (i + 4) from nI_add i 4]; exact vp_in_nI (by omega) (by omega)) ?_
  refine y_aload_n (q := 798) dL_law_797 rfl rfl ?_
  refine y_iload_n (q := 799) dL_law_798 rfl rfl ?_
  refine y_iconst (5) (q := 800) dL_law_799 rfl (by decide) ?_
  refine y_iadd (q := 801) dL_law_800 rfl ?_
  refine y_sld (q := 802) dL_law_801 rfl (by rw [show nI i + (5 : Int32) = nI (i + 5) from nI_add i 5]; exact vp_in_nI (by omega) (by omega)) ?_
  refine y_callV (a := 0) (ci := 11) (As := [.int (xs (nI i + 1).toNatClampNeg), .int (xs (nI i + 2).toNatClampNeg), .int (xs (nI i + 3).toNatClampNeg), .int (xs (nI i + 4).toNatClampNeg), .int (xs (nI i + 5).toNatClampNeg)]) (rest := []) (T := TX11) (N := 14) (q := 805) dL_law_802 rfl okX11_read tw_995 hop (hp_O (ci := 11) rfl) (by decide) cl_11.1 rfl rfl (Nat.le_of_ble_eq_true rfl) ⟨by decide, by decide⟩ ⟨by show k + 0 ≤ _; exact hk, by show z + 0 ≤ _; exact hkz⟩ (fun rv_ n_ h_ hv_ => ?_)
  obtain ⟨I1, r1, J1, en_, eh_, ev_, hop2⟩ := hv_
  rw [ev_, en_, eh_]
  show Wl b Ln xs 805 [some (.ref 1000005), some (.ref 0), some (.ref 100), some (.int (nI i))] [.int res] 146 (hp I1 r1 J1) k z
  refine y_aload_n (q := 806) dL_law_805 rfl rfl ?_
  refine y_aload_n (q := 807) dL_law_806 rfl rfl ?_
  refine y_iload_n (q := 808) dL_law_807 rfl rfl ?_
  refine y_iconst (1) (q := 809) dL_law_808 rfl (by decide) ?_
  refine y_iadd (q := 810) dL_law_809 rfl ?_
  refine y_sld (q := 811) dL_law_810 rfl (by rw [show nI i + (1 : Int32) = nI (i + 1) from nI_add i 1]; exact vp_in_nI (by omega) (by omega)) ?_
  refine y_aload_n (q := 812) dL_law_811 rfl rfl ?_
  refine y_iload_n (q := 813) dL_law_812 rfl rfl ?_
  refine y_iconst (2) (q := 814) dL_law_813 rfl (by decide) ?_
  refine y_iadd (q := 815) dL_law_814 rfl ?_
  refine y_sld (q := 816) dL_law_815 rfl (by rw [show nI i + (2 : Int32) = nI (i + 2) from nI_add i 2]; exact vp_in_nI (by omega) (by omega)) ?_
  refine y_aload_n (q := 817) dL_law_816 rfl rfl ?_
  refine y_iload_n (q := 818) dL_law_817 rfl rfl ?_
  refine y_iconst (3) (q := 819) dL_law_818 rfl (by decide) ?_
  refine y_iadd (q := 820) dL_law_819 rfl ?_
  refine y_sld (q := 821) dL_law_820 rfl (by rw [show nI i + (3 : Int32) = nI (i + 3) from nI_add i 3]; exact vp_in_nI (by omega) (by omega)) ?_
  refine y_aload_n (q := 822) dL_law_821 rfl rfl ?_
  refine y_iload_n (q := 823) dL_law_822 rfl rfl ?_
  refine y_iconst (4) (q := 824) dL_law_823 rfl (by decide) ?_
  refine y_iadd (q := 825) dL_law_824 rfl ?_
  refine y_sld (q := 826) dL_law_825 rfl (by rw [show nI i + (4 : Int32) = nI (i + 4) from nI_add i 4]; exact vp_in_nI (by omega) (by omega)) ?_
  refine y_aload_n (q := 827) dL_law_826 rfl rfl ?_
  refine y_iload_n (q := 828) dL_law_827 rfl rfl ?_
  refine y_iconst (5) (q := 829) dL_law_828 rfl (by decide) ?_
  refine y_iadd (q := 830) dL_law_829 rfl ?_
  refine y_sld (q := 831) dL_law_830 rfl (by rw [show nI i + (5 : Int32) = nI (i + 5) from nI_add i 5]; exact vp_in_nI (by omega) (by omega)) ?_
  refine y_callV (a := 100) (ci := 12) (As := [.int (xs (nI i + 1).toNatClampNeg), .int (xs (nI i + 2).toNatClampNeg), .int (xs (nI i + 3).toNatClampNeg), .int (xs (nI i + 4).toNatClampNeg), .int (xs (nI i + 5).toNatClampNeg)]) (rest := [.int res]) (T := TX12) (N := 79) (q := 834) dL_law_831 rfl okX12_read tw_1612 hop2 (hp_O (ci := 12) rfl) (by decide) cl_12.1 rfl rfl (Nat.le_of_ble_eq_true rfl) ⟨by decide, by decide⟩ ⟨by show k + 0 ≤ _; exact hk, by show z + 0 ≤ _; exact hkz⟩ (fun rv_ n_ h_ hv_ => ?_)
  obtain ⟨I2, r2, J2, en_, eh_, ev_, hrel2⟩ := hv_
  rw [ev_, en_, eh_]
  show Wl b Ln xs 834 [some (.ref 1000005), some (.ref 0), some (.ref 100), some (.int (nI i))] [.int res, .int res] 146 (hp I2 r2 J2) k z
  refine y_icmp_eq (t := 1020) (q := 837) dL_law_834 (by decide) rfl (fun _ => ?_) (fun c_ => absurd rfl c_)
  refine y_iinc (v := nI (i + 6)) (L2 := [some (.ref 1000005), some (.ref 0), some (.ref 100), some (.int (nI (i + 6)))]) (q := 1023) dL_law_1020 rfl (by decide) rfl rfl (by show _ + (6 : Int32) = _; exact nI_add i 6) rfl ?_
  refine y_goto (t := 18) dL_law_1023 (by decide) ?_
  exact ih I2 r2 J2 hrel2
set_option maxRecDepth 100000 in
theorem law_c19 {b Ln : Nat} {xs : Nat → Int32} {i k z : Nat} (hL : Ln ≤ 3072) (hi6 : i + 6 ≤ Ln) {I : MI} {r : MR} {J : MJ} (hrel : Rel I r J) (ih : ∀ (I : MI) (r : MR) (J : MJ), Rel I r J → Wl b Ln xs 18 [some (.ref 1000005), some (.ref 0), some (.ref 100), some (.int (nI (i + 6)))] [] 146 (hp I r J) k z) (hk : k ≤ 600000) (hkz : z ≤ 7302250) : Wl b Ln xs 839 [some (.ref 1000005), some (.ref 0), some (.ref 100), some (.int (nI i))] [] 146 (hp I r J) k z := by
  obtain ⟨res, hop⟩ := (op_untell (xs (nI i + 1).toNatClampNeg)) I r J hrel
  refine y_aload_n (q := 840) dL_law_839 rfl rfl ?_
  refine y_aload_n (q := 841) dL_law_840 rfl rfl ?_
  refine y_iload_n (q := 842) dL_law_841 rfl rfl ?_
  refine y_iconst (1) (q := 843) dL_law_842 rfl (by decide) ?_
  refine y_iadd (q := 844) dL_law_843 rfl ?_
  refine y_sld (q := 845) dL_law_844 rfl (by rw [show nI i + (1 : Int32) = nI (i + 1) from nI_add i 1]; exact vp_in_nI (by omega) (by omega)) ?_
  refine y_callV (a := 0) (ci := 11) (As := [.int (xs (nI i + 1).toNatClampNeg)]) (rest := []) (T := TX11) (N := 14) (q := 848) dL_law_845 rfl okX11_untell tw_1016 hop (hp_O (ci := 11) rfl) (by decide) cl_11.1 rfl rfl (Nat.le_of_ble_eq_true rfl) ⟨by decide, by decide⟩ ⟨by show k + 0 ≤ _; exact hk, by show z + 0 ≤ _; exact hkz⟩ (fun rv_ n_ h_ hv_ => ?_)
  obtain ⟨I1, r1, J1, en_, eh_, ev_, hop2⟩ := hv_
  rw [ev_, en_, eh_]
  show Wl b Ln xs 848 [some (.ref 1000005), some (.ref 0), some (.ref 100), some (.int (nI i))] [.int res] 146 (hp I1 r1 J1) k z
  refine y_aload_n (q := 849) dL_law_848 rfl rfl ?_
  refine y_aload_n (q := 850) dL_law_849 rfl rfl ?_
  refine y_iload_n (q := 851) dL_law_850 rfl rfl ?_
  refine y_iconst (1) (q := 852) dL_law_851 rfl (by decide) ?_
  refine y_iadd (q := 853) dL_law_852 rfl ?_
  refine y_sld (q := 854) dL_law_853 rfl (by rw [show nI i + (1 : Int32) = nI (i + 1) from nI_add i 1]; exact vp_in_nI (by omega) (by omega)) ?_
  refine y_callV (a := 100) (ci := 12) (As := [.int (xs (nI i + 1).toNatClampNeg)]) (rest := [.int res]) (T := TX12) (N := 79) (q := 857) dL_law_854 rfl okX12_untell tw_1616 hop2 (hp_O (ci := 12) rfl) (by decide) cl_12.1 rfl rfl (Nat.le_of_ble_eq_true rfl) ⟨by decide, by decide⟩ ⟨by show k + 0 ≤ _; exact hk, by show z + 0 ≤ _; exact hkz⟩ (fun rv_ n_ h_ hv_ => ?_)
  obtain ⟨I2, r2, J2, en_, eh_, ev_, hrel2⟩ := hv_
  rw [ev_, en_, eh_]
  show Wl b Ln xs 857 [some (.ref 1000005), some (.ref 0), some (.ref 100), some (.int (nI i))] [.int res, .int res] 146 (hp I2 r2 J2) k z
  refine y_icmp_eq (t := 1020) (q := 860) dL_law_857 (by decide) rfl (fun _ => ?_) (fun c_ => absurd rfl c_)
  refine y_iinc (v := nI (i + 6)) (L2 := [some (.ref 1000005), some (.ref 0), some (.ref 100), some (.int (nI (i + 6)))]) (q := 1023) dL_law_1020 rfl (by decide) rfl rfl (by show _ + (6 : Int32) = _; exact nI_add i 6) rfl ?_
  refine y_goto (t := 18) dL_law_1023 (by decide) ?_
  exact ih I2 r2 J2 hrel2
set_option maxRecDepth 100000 in
theorem law_c20 {b Ln : Nat} {xs : Nat → Int32} {i k z : Nat} (hL : Ln ≤ 3072) (hi6 : i + 6 ≤ Ln) {I : MI} {r : MR} {J : MJ} (hrel : Rel I r J) (ih : ∀ (I : MI) (r : MR) (J : MJ), Rel I r J → Wl b Ln xs 18 [some (.ref 1000005), some (.ref 0), some (.ref 100), some (.int (nI (i + 6)))] [] 146 (hp I r J) k z) (hk : k ≤ 600000) (hkz : z ≤ 7302250) : Wl b Ln xs 862 [some (.ref 1000005), some (.ref 0), some (.ref 100), some (.int (nI i))] [] 146 (hp I r J) k z := by
  obtain ⟨res, hop⟩ := (op_later (xs (nI i + 1).toNatClampNeg)) I r J hrel
  refine y_aload_n (q := 863) dL_law_862 rfl rfl ?_
  refine y_aload_n (q := 864) dL_law_863 rfl rfl ?_
  refine y_iload_n (q := 865) dL_law_864 rfl rfl ?_
  refine y_iconst (1) (q := 866) dL_law_865 rfl (by decide) ?_
  refine y_iadd (q := 867) dL_law_866 rfl ?_
  refine y_sld (q := 868) dL_law_867 rfl (by rw [show nI i + (1 : Int32) = nI (i + 1) from nI_add i 1]; exact vp_in_nI (by omega) (by omega)) ?_
  refine y_callV (a := 0) (ci := 11) (As := [.int (xs (nI i + 1).toNatClampNeg)]) (rest := []) (T := TX11) (N := 14) (q := 871) dL_law_868 rfl okX11_later tw_1024 hop (hp_O (ci := 11) rfl) (by decide) cl_11.1 rfl rfl (Nat.le_of_ble_eq_true rfl) ⟨by decide, by decide⟩ ⟨by show k + 0 ≤ _; exact hk, by show z + 0 ≤ _; exact hkz⟩ (fun rv_ n_ h_ hv_ => ?_)
  obtain ⟨I1, r1, J1, en_, eh_, ev_, hop2⟩ := hv_
  rw [ev_, en_, eh_]
  show Wl b Ln xs 871 [some (.ref 1000005), some (.ref 0), some (.ref 100), some (.int (nI i))] [.int res] 146 (hp I1 r1 J1) k z
  refine y_aload_n (q := 872) dL_law_871 rfl rfl ?_
  refine y_aload_n (q := 873) dL_law_872 rfl rfl ?_
  refine y_iload_n (q := 874) dL_law_873 rfl rfl ?_
  refine y_iconst (1) (q := 875) dL_law_874 rfl (by decide) ?_
  refine y_iadd (q := 876) dL_law_875 rfl ?_
  refine y_sld (q := 877) dL_law_876 rfl (by rw [show nI i + (1 : Int32) = nI (i + 1) from nI_add i 1]; exact vp_in_nI (by omega) (by omega)) ?_
  refine y_callV (a := 100) (ci := 12) (As := [.int (xs (nI i + 1).toNatClampNeg)]) (rest := [.int res]) (T := TX12) (N := 79) (q := 880) dL_law_877 rfl okX12_later tw_1620 hop2 (hp_O (ci := 12) rfl) (by decide) cl_12.1 rfl rfl (Nat.le_of_ble_eq_true rfl) ⟨by decide, by decide⟩ ⟨by show k + 0 ≤ _; exact hk, by show z + 0 ≤ _; exact hkz⟩ (fun rv_ n_ h_ hv_ => ?_)
  obtain ⟨I2, r2, J2, en_, eh_, ev_, hrel2⟩ := hv_
  rw [ev_, en_, eh_]
  show Wl b Ln xs 880 [some (.ref 1000005), some (.ref 0), some (.ref 100), some (.int (nI i))] [.int res, .int res] 146 (hp I2 r2 J2) k z
  refine y_icmp_eq (t := 1020) (q := 883) dL_law_880 (by decide) rfl (fun _ => ?_) (fun c_ => absurd rfl c_)
  refine y_iinc (v := nI (i + 6)) (L2 := [some (.ref 1000005), some (.ref 0), some (.ref 100), some (.int (nI (i + 6)))]) (q := 1023) dL_law_1020 rfl (by decide) rfl rfl (by show _ + (6 : Int32) = _; exact nI_add i 6) rfl ?_
  refine y_goto (t := 18) dL_law_1023 (by decide) ?_
  exact ih I2 r2 J2 hrel2
set_option maxRecDepth 100000 in
theorem law_c21 {b Ln : Nat} {xs : Nat → Int32} {i k z : Nat} (hL : Ln ≤ 3072) (hi6 : i + 6 ≤ Ln) {I : MI} {r : MR} {J : MJ} (hrel : Rel I r J) (ih : ∀ (I : MI) (r : MR) (J : MJ), Rel I r J → Wl b Ln xs 18 [some (.ref 1000005), some (.ref 0), some (.ref 100), some (.int (nI (i + 6)))] [] 146 (hp I r J) k z) (hk : k ≤ 600000) (hkz : z ≤ 7302250) : Wl b Ln xs 885 [some (.ref 1000005), some (.ref 0), some (.ref 100), some (.int (nI i))] [] 146 (hp I r J) k z := by
  obtain ⟨res, hop⟩ := (op_left (xs (nI i + 1).toNatClampNeg)) I r J hrel
  refine y_aload_n (q := 886) dL_law_885 rfl rfl ?_
  refine y_aload_n (q := 887) dL_law_886 rfl rfl ?_
  refine y_iload_n (q := 888) dL_law_887 rfl rfl ?_
  refine y_iconst (1) (q := 889) dL_law_888 rfl (by decide) ?_
  refine y_iadd (q := 890) dL_law_889 rfl ?_
  refine y_sld (q := 891) dL_law_890 rfl (by rw [show nI i + (1 : Int32) = nI (i + 1) from nI_add i 1]; exact vp_in_nI (by omega) (by omega)) ?_
  refine y_callV (a := 0) (ci := 11) (As := [.int (xs (nI i + 1).toNatClampNeg)]) (rest := []) (T := TX11) (N := 14) (q := 894) dL_law_891 rfl okX11_left tw_1029 hop (hp_O (ci := 11) rfl) (by decide) cl_11.1 rfl rfl (Nat.le_of_ble_eq_true rfl) ⟨by decide, by decide⟩ ⟨by show k + 0 ≤ _; exact hk, by show z + 0 ≤ _; exact hkz⟩ (fun rv_ n_ h_ hv_ => ?_)
  obtain ⟨I1, r1, J1, en_, eh_, ev_, hop2⟩ := hv_
  rw [ev_, en_, eh_]
  show Wl b Ln xs 894 [some (.ref 1000005), some (.ref 0), some (.ref 100), some (.int (nI i))] [.int res] 146 (hp I1 r1 J1) k z
  refine y_aload_n (q := 895) dL_law_894 rfl rfl ?_
  refine y_aload_n (q := 896) dL_law_895 rfl rfl ?_
  refine y_iload_n (q := 897) dL_law_896 rfl rfl ?_
  refine y_iconst (1) (q := 898) dL_law_897 rfl (by decide) ?_
  refine y_iadd (q := 899) dL_law_898 rfl ?_
  refine y_sld (q := 900) dL_law_899 rfl (by rw [show nI i + (1 : Int32) = nI (i + 1) from nI_add i 1]; exact vp_in_nI (by omega) (by omega)) ?_
  refine y_callV (a := 100) (ci := 12) (As := [.int (xs (nI i + 1).toNatClampNeg)]) (rest := [.int res]) (T := TX12) (N := 79) (q := 903) dL_law_900 rfl okX12_left tw_1625 hop2 (hp_O (ci := 12) rfl) (by decide) cl_12.1 rfl rfl (Nat.le_of_ble_eq_true rfl) ⟨by decide, by decide⟩ ⟨by show k + 0 ≤ _; exact hk, by show z + 0 ≤ _; exact hkz⟩ (fun rv_ n_ h_ hv_ => ?_)
  obtain ⟨I2, r2, J2, en_, eh_, ev_, hrel2⟩ := hv_
  rw [ev_, en_, eh_]
  show Wl b Ln xs 903 [some (.ref 1000005), some (.ref 0), some (.ref 100), some (.int (nI i))] [.int res, .int res] 146 (hp I2 r2 J2) k z
  refine y_icmp_eq (t := 1020) (q := 906) dL_law_903 (by decide) rfl (fun _ => ?_) (fun c_ => absurd rfl c_)
  refine y_iinc (v := nI (i + 6)) (L2 := [some (.ref 1000005), some (.ref 0), some (.ref 100), some (.int (nI (i + 6)))]) (q := 1023) dL_law_1020 rfl (by decide) rfl rfl (by show _ + (6 : Int32) = _; exact nI_add i 6) rfl ?_
  refine y_goto (t := 18) dL_law_1023 (by decide) ?_
  exact ih I2 r2 J2 hrel2
set_option maxRecDepth 100000 in
theorem law_c22 {b Ln : Nat} {xs : Nat → Int32} {i k z : Nat} (hL : Ln ≤ 3072) (hi6 : i + 6 ≤ Ln) {I : MI} {r : MR} {J : MJ} (hrel : Rel I r J) (ih : ∀ (I : MI) (r : MR) (J : MJ), Rel I r J → Wl b Ln xs 18 [some (.ref 1000005), some (.ref 0), some (.ref 100), some (.int (nI (i + 6)))] [] 146 (hp I r J) k z) (hk : k ≤ 600000) (hkz : z ≤ 7302250) : Wl b Ln xs 908 [some (.ref 1000005), some (.ref 0), some (.ref 100), some (.int (nI i))] [] 146 (hp I r J) k z := by
  obtain ⟨res, hop⟩ := (op_tells (xs (nI i + 1).toNatClampNeg) (xs (nI i + 2).toNatClampNeg) (xs (nI i + 3).toNatClampNeg)) I r J hrel
  refine y_aload_n (q := 909) dL_law_908 rfl rfl ?_
  refine y_aload_n (q := 910) dL_law_909 rfl rfl ?_
  refine y_iload_n (q := 911) dL_law_910 rfl rfl ?_
  refine y_iconst (1) (q := 912) dL_law_911 rfl (by decide) ?_
  refine y_iadd (q := 913) dL_law_912 rfl ?_
  refine y_sld (q := 914) dL_law_913 rfl (by rw [show nI i + (1 : Int32) = nI (i + 1) from nI_add i 1]; exact vp_in_nI (by omega) (by omega)) ?_
  refine y_aload_n (q := 915) dL_law_914 rfl rfl ?_
  refine y_iload_n (q := 916) dL_law_915 rfl rfl ?_
  refine y_iconst (2) (q := 917) dL_law_916 rfl (by decide) ?_
  refine y_iadd (q := 918) dL_law_917 rfl ?_
  refine y_sld (q := 919) dL_law_918 rfl (by rw [show nI i + (2 : Int32) = nI (i + 2) from nI_add i 2]; exact vp_in_nI (by omega) (by omega)) ?_
  refine y_aload_n (q := 920) dL_law_919 rfl rfl ?_
  refine y_iload_n (q := 921) dL_law_920 rfl rfl ?_
  refine y_iconst (3) (q := 922) dL_law_921 rfl (by decide) ?_
  refine y_iadd (q := 923) dL_law_922 rfl ?_
  refine y_sld (q := 924) dL_law_923 rfl (by rw [show nI i + (3 : Int32) = nI (i + 3) from nI_add i 3]; exact vp_in_nI (by omega) (by omega)) ?_
  refine y_callV (a := 0) (ci := 11) (As := [.int (xs (nI i + 1).toNatClampNeg), .int (xs (nI i + 2).toNatClampNeg), .int (xs (nI i + 3).toNatClampNeg)]) (rest := []) (T := TX11) (N := 14) (q := 927) dL_law_924 rfl okX11_tells tw_1033 hop (hp_O (ci := 11) rfl) (by decide) cl_11.1 rfl rfl (Nat.le_of_ble_eq_true rfl) ⟨by decide, by decide⟩ ⟨by show k + 0 ≤ _; exact hk, by show z + 0 ≤ _; exact hkz⟩ (fun rv_ n_ h_ hv_ => ?_)
  obtain ⟨I1, r1, J1, en_, eh_, ev_, hop2⟩ := hv_
  rw [ev_, en_, eh_]
  show Wl b Ln xs 927 [some (.ref 1000005), some (.ref 0), some (.ref 100), some (.int (nI i))] [.int res] 146 (hp I1 r1 J1) k z
  refine y_aload_n (q := 928) dL_law_927 rfl rfl ?_
  refine y_aload_n (q := 929) dL_law_928 rfl rfl ?_
  refine y_iload_n (q := 930) dL_law_929 rfl rfl ?_
  refine y_iconst (1) (q := 931) dL_law_930 rfl (by decide) ?_
  refine y_iadd (q := 932) dL_law_931 rfl ?_
  refine y_sld (q := 933) dL_law_932 rfl (by rw [show nI i + (1 : Int32) = nI (i + 1) from nI_add i 1]; exact vp_in_nI (by omega) (by omega)) ?_
  refine y_aload_n (q := 934) dL_law_933 rfl rfl ?_
  refine y_iload_n (q := 935) dL_law_934 rfl rfl ?_
  refine y_iconst (2) (q := 936) dL_law_935 rfl (by decide) ?_
  refine y_iadd (q := 937) dL_law_936 rfl ?_
  refine y_sld (q := 938) dL_law_937 rfl (by rw [show nI i + (2 : Int32) = nI (i + 2) from nI_add i 2]; exact vp_in_nI (by omega) (by omega)) ?_
  refine y_aload_n (q := 939) dL_law_938 rfl rfl ?_
  refine y_iload_n (q := 940) dL_law_939 rfl rfl ?_
  refine y_iconst (3) (q := 941) dL_law_940 rfl (by decide) ?_
  refine y_iadd (q := 942) dL_law_941 rfl ?_
  refine y_sld (q := 943) dL_law_942 rfl (by rw [show nI i + (3 : Int32) = nI (i + 3) from nI_add i 3]; exact vp_in_nI (by omega) (by omega)) ?_
  refine y_callV (a := 100) (ci := 12) (As := [.int (xs (nI i + 1).toNatClampNeg), .int (xs (nI i + 2).toNatClampNeg), .int (xs (nI i + 3).toNatClampNeg)]) (rest := [.int res]) (T := TX12) (N := 79) (q := 946) dL_law_943 rfl okX12_tells tw_1626 hop2 (hp_O (ci := 12) rfl) (by decide) cl_12.1 rfl rfl (Nat.le_of_ble_eq_true rfl) ⟨by decide, by decide⟩ ⟨by show k + 0 ≤ _; exact hk, by show z + 0 ≤ _; exact hkz⟩ (fun rv_ n_ h_ hv_ => ?_)
  obtain ⟨I2, r2, J2, en_, eh_, ev_, hrel2⟩ := hv_
  rw [ev_, en_, eh_]
  show Wl b Ln xs 946 [some (.ref 1000005), some (.ref 0), some (.ref 100), some (.int (nI i))] [.int res, .int res] 146 (hp I2 r2 J2) k z
  refine y_icmp_eq (t := 1020) (q := 949) dL_law_946 (by decide) rfl (fun _ => ?_) (fun c_ => absurd rfl c_)
  refine y_iinc (v := nI (i + 6)) (L2 := [some (.ref 1000005), some (.ref 0), some (.ref 100), some (.int (nI (i + 6)))]) (q := 1023) dL_law_1020 rfl (by decide) rfl rfl (by show _ + (6 : Int32) = _; exact nI_add i 6) rfl ?_
  refine y_goto (t := 18) dL_law_1023 (by decide) ?_
  exact ih I2 r2 J2 hrel2
set_option maxRecDepth 100000 in
theorem law_c23 {b Ln : Nat} {xs : Nat → Int32} {i k z : Nat} (hL : Ln ≤ 3072) (hi6 : i + 6 ≤ Ln) {I : MI} {r : MR} {J : MJ} (hrel : Rel I r J) (ih : ∀ (I : MI) (r : MR) (J : MJ), Rel I r J → Wl b Ln xs 18 [some (.ref 1000005), some (.ref 0), some (.ref 100), some (.int (nI (i + 6)))] [] 146 (hp I r J) k z) (hk : k ≤ 600000) (hkz : z ≤ 7302250) : Wl b Ln xs 951 [some (.ref 1000005), some (.ref 0), some (.ref 100), some (.int (nI i))] [] 146 (hp I r J) k z := by
  obtain ⟨res, hop⟩ := (op_image (xs (nI i + 1).toNatClampNeg)) I r J hrel
  refine y_aload_n (q := 952) dL_law_951 rfl rfl ?_
  refine y_aload_n (q := 953) dL_law_952 rfl rfl ?_
  refine y_iload_n (q := 954) dL_law_953 rfl rfl ?_
  refine y_iconst (1) (q := 955) dL_law_954 rfl (by decide) ?_
  refine y_iadd (q := 956) dL_law_955 rfl ?_
  refine y_sld (q := 957) dL_law_956 rfl (by rw [show nI i + (1 : Int32) = nI (i + 1) from nI_add i 1]; exact vp_in_nI (by omega) (by omega)) ?_
  refine y_callV (a := 0) (ci := 11) (As := [.int (xs (nI i + 1).toNatClampNeg)]) (rest := []) (T := TX11) (N := 14) (q := 960) dL_law_957 rfl okX11_image tw_1048 hop (hp_O (ci := 11) rfl) (by decide) cl_11.1 rfl rfl (Nat.le_of_ble_eq_true rfl) ⟨by decide, by decide⟩ ⟨by show k + 0 ≤ _; exact hk, by show z + 0 ≤ _; exact hkz⟩ (fun rv_ n_ h_ hv_ => ?_)
  obtain ⟨I1, r1, J1, en_, eh_, ev_, hop2⟩ := hv_
  rw [ev_, en_, eh_]
  show Wl b Ln xs 960 [some (.ref 1000005), some (.ref 0), some (.ref 100), some (.int (nI i))] [.int res] 146 (hp I1 r1 J1) k z
  refine y_aload_n (q := 961) dL_law_960 rfl rfl ?_
  refine y_aload_n (q := 962) dL_law_961 rfl rfl ?_
  refine y_iload_n (q := 963) dL_law_962 rfl rfl ?_
  refine y_iconst (1) (q := 964) dL_law_963 rfl (by decide) ?_
  refine y_iadd (q := 965) dL_law_964 rfl ?_
  refine y_sld (q := 966) dL_law_965 rfl (by rw [show nI i + (1 : Int32) = nI (i + 1) from nI_add i 1]; exact vp_in_nI (by omega) (by omega)) ?_
  refine y_callV (a := 100) (ci := 12) (As := [.int (xs (nI i + 1).toNatClampNeg)]) (rest := [.int res]) (T := TX12) (N := 79) (q := 969) dL_law_966 rfl okX12_image tw_1634 hop2 (hp_O (ci := 12) rfl) (by decide) cl_12.1 rfl rfl (Nat.le_of_ble_eq_true rfl) ⟨by decide, by decide⟩ ⟨by show k + 0 ≤ _; exact hk, by show z + 0 ≤ _; exact hkz⟩ (fun rv_ n_ h_ hv_ => ?_)
  obtain ⟨I2, r2, J2, en_, eh_, ev_, hrel2⟩ := hv_
  rw [ev_, en_, eh_]
  show Wl b Ln xs 969 [some (.ref 1000005), some (.ref 0), some (.ref 100), some (.int (nI i))] [.int res, .int res] 146 (hp I2 r2 J2) k z
  refine y_icmp_eq (t := 1020) (q := 972) dL_law_969 (by decide) rfl (fun _ => ?_) (fun c_ => absurd rfl c_)
  refine y_iinc (v := nI (i + 6)) (L2 := [some (.ref 1000005), some (.ref 0), some (.ref 100), some (.int (nI (i + 6)))]) (q := 1023) dL_law_1020 rfl (by decide) rfl rfl (by show _ + (6 : Int32) = _; exact nI_add i 6) rfl ?_
  refine y_goto (t := 18) dL_law_1023 (by decide) ?_
  exact ih I2 r2 J2 hrel2
set_option maxRecDepth 100000 in
theorem law_c24 {b Ln : Nat} {xs : Nat → Int32} {i k z : Nat} (hL : Ln ≤ 3072) (hi6 : i + 6 ≤ Ln) {I : MI} {r : MR} {J : MJ} (hrel : Rel I r J) (ih : ∀ (I : MI) (r : MR) (J : MJ), Rel I r J → Wl b Ln xs 18 [some (.ref 1000005), some (.ref 0), some (.ref 100), some (.int (nI (i + 6)))] [] 146 (hp I r J) k z) (hk : k ≤ 600000) (hkz : z ≤ 7302250) : Wl b Ln xs 974 [some (.ref 1000005), some (.ref 0), some (.ref 100), some (.int (nI i))] [] 146 (hp I r J) k z := by
  obtain ⟨res, hop⟩ := (op_back (xs (nI i + 1).toNatClampNeg)) I r J hrel
  refine y_aload_n (q := 975) dL_law_974 rfl rfl ?_
  refine y_aload_n (q := 976) dL_law_975 rfl rfl ?_
  refine y_iload_n (q := 977) dL_law_976 rfl rfl ?_
  refine y_iconst (1) (q := 978) dL_law_977 rfl (by decide) ?_
  refine y_iadd (q := 979) dL_law_978 rfl ?_
  refine y_sld (q := 980) dL_law_979 rfl (by rw [show nI i + (1 : Int32) = nI (i + 1) from nI_add i 1]; exact vp_in_nI (by omega) (by omega)) ?_
  refine y_callV (a := 0) (ci := 11) (As := [.int (xs (nI i + 1).toNatClampNeg)]) (rest := []) (T := TX11) (N := 14) (q := 983) dL_law_980 rfl okX11_back tw_1060 hop (hp_O (ci := 11) rfl) (by decide) cl_11.1 rfl rfl (Nat.le_of_ble_eq_true rfl) ⟨by decide, by decide⟩ ⟨by show k + 0 ≤ _; exact hk, by show z + 0 ≤ _; exact hkz⟩ (fun rv_ n_ h_ hv_ => ?_)
  obtain ⟨I1, r1, J1, en_, eh_, ev_, hop2⟩ := hv_
  rw [ev_, en_, eh_]
  show Wl b Ln xs 983 [some (.ref 1000005), some (.ref 0), some (.ref 100), some (.int (nI i))] [.int res] 146 (hp I1 r1 J1) k z
  refine y_aload_n (q := 984) dL_law_983 rfl rfl ?_
  refine y_aload_n (q := 985) dL_law_984 rfl rfl ?_
  refine y_iload_n (q := 986) dL_law_985 rfl rfl ?_
  refine y_iconst (1) (q := 987) dL_law_986 rfl (by decide) ?_
  refine y_iadd (q := 988) dL_law_987 rfl ?_
  refine y_sld (q := 989) dL_law_988 rfl (by rw [show nI i + (1 : Int32) = nI (i + 1) from nI_add i 1]; exact vp_in_nI (by omega) (by omega)) ?_
  refine y_callV (a := 100) (ci := 12) (As := [.int (xs (nI i + 1).toNatClampNeg)]) (rest := [.int res]) (T := TX12) (N := 79) (q := 992) dL_law_989 rfl okX12_back tw_1641 hop2 (hp_O (ci := 12) rfl) (by decide) cl_12.1 rfl rfl (Nat.le_of_ble_eq_true rfl) ⟨by decide, by decide⟩ ⟨by show k + 0 ≤ _; exact hk, by show z + 0 ≤ _; exact hkz⟩ (fun rv_ n_ h_ hv_ => ?_)
  obtain ⟨I2, r2, J2, en_, eh_, ev_, hrel2⟩ := hv_
  rw [ev_, en_, eh_]
  show Wl b Ln xs 992 [some (.ref 1000005), some (.ref 0), some (.ref 100), some (.int (nI i))] [.int res, .int res] 146 (hp I2 r2 J2) k z
  refine y_icmp_eq (t := 1020) (q := 995) dL_law_992 (by decide) rfl (fun _ => ?_) (fun c_ => absurd rfl c_)
  refine y_iinc (v := nI (i + 6)) (L2 := [some (.ref 1000005), some (.ref 0), some (.ref 100), some (.int (nI (i + 6)))]) (q := 1023) dL_law_1020 rfl (by decide) rfl rfl (by show _ + (6 : Int32) = _; exact nI_add i 6) rfl ?_
  refine y_goto (t := 18) dL_law_1023 (by decide) ?_
  exact ih I2 r2 J2 hrel2
set_option maxRecDepth 100000 in
theorem law_c25 {b Ln : Nat} {xs : Nat → Int32} {i k z : Nat} (hL : Ln ≤ 3072) (hi6 : i + 6 ≤ Ln) {I : MI} {r : MR} {J : MJ} (hrel : Rel I r J) (ih : ∀ (I : MI) (r : MR) (J : MJ), Rel I r J → Wl b Ln xs 18 [some (.ref 1000005), some (.ref 0), some (.ref 100), some (.int (nI (i + 6)))] [] 146 (hp I r J) k z) (hk : k ≤ 600000) (hkz : z ≤ 7302250) : Wl b Ln xs 997 [some (.ref 1000005), some (.ref 0), some (.ref 100), some (.int (nI i))] [] 146 (hp I r J) k z := by
  obtain ⟨res, hop⟩ := (op_about (xs (nI i + 1).toNatClampNeg)) I r J hrel
  refine y_aload_n (q := 998) dL_law_997 rfl rfl ?_
  refine y_aload_n (q := 999) dL_law_998 rfl rfl ?_
  refine y_iload_n (q := 1000) dL_law_999 rfl rfl ?_
  refine y_iconst (1) (q := 1001) dL_law_1000 rfl (by decide) ?_
  refine y_iadd (q := 1002) dL_law_1001 rfl ?_
  refine y_sld (q := 1003) dL_law_1002 rfl (by rw [show nI i + (1 : Int32) = nI (i + 1) from nI_add i 1]; exact vp_in_nI (by omega) (by omega)) ?_
  refine y_callV (a := 0) (ci := 11) (As := [.int (xs (nI i + 1).toNatClampNeg)]) (rest := []) (T := TX11) (N := 14) (q := 1006) dL_law_1003 rfl okX11_about tw_1072 hop (hp_O (ci := 11) rfl) (by decide) cl_11.1 rfl rfl (Nat.le_of_ble_eq_true rfl) ⟨by decide, by decide⟩ ⟨by show k + 0 ≤ _; exact hk, by show z + 0 ≤ _; exact hkz⟩ (fun rv_ n_ h_ hv_ => ?_)
  obtain ⟨I1, r1, J1, en_, eh_, ev_, hop2⟩ := hv_
  rw [ev_, en_, eh_]
  show Wl b Ln xs 1006 [some (.ref 1000005), some (.ref 0), some (.ref 100), some (.int (nI i))] [.int res] 146 (hp I1 r1 J1) k z
  refine y_aload_n (q := 1007) dL_law_1006 rfl rfl ?_
  refine y_aload_n (q := 1008) dL_law_1007 rfl rfl ?_
  refine y_iload_n (q := 1009) dL_law_1008 rfl rfl ?_
  refine y_iconst (1) (q := 1010) dL_law_1009 rfl (by decide) ?_
  refine y_iadd (q := 1011) dL_law_1010 rfl ?_
  refine y_sld (q := 1012) dL_law_1011 rfl (by rw [show nI i + (1 : Int32) = nI (i + 1) from nI_add i 1]; exact vp_in_nI (by omega) (by omega)) ?_
  refine y_callV (a := 100) (ci := 12) (As := [.int (xs (nI i + 1).toNatClampNeg)]) (rest := [.int res]) (T := TX12) (N := 79) (q := 1015) dL_law_1012 rfl okX12_about tw_1645 hop2 (hp_O (ci := 12) rfl) (by decide) cl_12.1 rfl rfl (Nat.le_of_ble_eq_true rfl) ⟨by decide, by decide⟩ ⟨by show k + 0 ≤ _; exact hk, by show z + 0 ≤ _; exact hkz⟩ (fun rv_ n_ h_ hv_ => ?_)
  obtain ⟨I2, r2, J2, en_, eh_, ev_, hrel2⟩ := hv_
  rw [ev_, en_, eh_]
  show Wl b Ln xs 1015 [some (.ref 1000005), some (.ref 0), some (.ref 100), some (.int (nI i))] [.int res, .int res] 146 (hp I2 r2 J2) k z
  refine y_icmp_eq (t := 1020) (q := 1018) dL_law_1015 (by decide) rfl (fun _ => ?_) (fun c_ => absurd rfl c_)
  refine y_iinc (v := nI (i + 6)) (L2 := [some (.ref 1000005), some (.ref 0), some (.ref 100), some (.int (nI (i + 6)))]) (q := 1023) dL_law_1020 rfl (by decide) rfl rfl (by show _ + (6 : Int32) = _; exact nI_add i 6) rfl ?_
  refine y_goto (t := 18) dL_law_1023 (by decide) ?_
  exact ih I2 r2 J2 hrel2
theorem and31 (x : Int32) : ∃ k : Nat, k < 32 ∧ x &&& 31 = nI k := by
  refine ⟨(x.toBitVec &&& 31#32).toNat, ?_, ?_⟩
  · rw [BitVec.toNat_and]
    exact Nat.lt_of_le_of_lt Nat.and_le_right (by decide)
  · apply Int32.toBitVec_inj.mp
    show x.toBitVec &&& 31#32 = BitVec.ofNat 32 _
    rw [BitVec.ofNat_toNat]
    simp
theorem nI_ti {k : Nat} (h : k < 32) : (nI k).toInt = (k : Int) := nI_toInt (by omega)
set_option maxRecDepth 100000 in
theorem law_sw {b Ln : Nat} {xs : Nat → Int32} {i k z : Nat} (hL : Ln ≤ 3072) (hi6 : i + 6 ≤ Ln) {I : MI} {r : MR} {J : MJ} (hrel : Rel I r J) (ih : ∀ (I : MI) (r : MR) (J : MJ), Rel I r J → Wl b Ln xs 18 [some (.ref 1000005), some (.ref 0), some (.ref 100), some (.int (nI (i + 6)))] [] 146 (hp I r J) k z) (hk : k ≤ 600000) (hkz : z ≤ 7302250) {q : Nat} (hq : q < 32) : Wl b Ln xs 33 [some (.ref 1000005), some (.ref 0), some (.ref 100), some (.int (nI i))] [.int (nI q)] 146 (hp I r J) k z := by
  by_cases h0 : q = 0
  · subst h0
    refine y_swIn (off := 119) (t := 152) dL_law_33 (by rw [nI_ti (by decide)]; decide) (by rw [nI_ti (by decide)]; decide) (by rw [nI_ti (by decide)]; rfl) (by decide) ?_
    exact law_c0 hL hi6 hrel ih hk hkz
  by_cases h1 : q = 1
  · subst h1
    refine y_swIn (off := 182) (t := 215) dL_law_33 (by rw [nI_ti (by decide)]; decide) (by rw [nI_ti (by decide)]; decide) (by rw [nI_ti (by decide)]; rfl) (by decide) ?_
    exact law_c1 hL hi6 hrel ih hk hkz
  by_cases h2 : q = 2
  · subst h2
    refine y_swIn (off := 205) (t := 238) dL_law_33 (by rw [nI_ti (by decide)]; decide) (by rw [nI_ti (by decide)]; decide) (by rw [nI_ti (by decide)]; rfl) (by decide) ?_
    exact law_c2 hL hi6 hrel ih hk hkz
  by_cases h3 : q = 3
  · subst h3
    refine y_swIn (off := 218) (t := 251) dL_law_33 (by rw [nI_ti (by decide)]; decide) (by rw [nI_ti (by decide)]; decide) (by rw [nI_ti (by decide)]; rfl) (by decide) ?_
    exact law_c3 hL hi6 hrel ih hk hkz
  by_cases h4 : q = 4
  · subst h4
    refine y_swIn (off := 241) (t := 274) dL_law_33 (by rw [nI_ti (by decide)]; decide) (by rw [nI_ti (by decide)]; decide) (by rw [nI_ti (by decide)]; rfl) (by decide) ?_
    exact law_c4 hL hi6 hrel ih hk hkz
  by_cases h5 : q = 5
  · subst h5
    refine y_swIn (off := 264) (t := 297) dL_law_33 (by rw [nI_ti (by decide)]; decide) (by rw [nI_ti (by decide)]; decide) (by rw [nI_ti (by decide)]; rfl) (by decide) ?_
    exact law_c5 hL hi6 hrel ih hk hkz
  by_cases h6 : q = 6
  · subst h6
    refine y_swIn (off := 287) (t := 320) dL_law_33 (by rw [nI_ti (by decide)]; decide) (by rw [nI_ti (by decide)]; decide) (by rw [nI_ti (by decide)]; rfl) (by decide) ?_
    exact law_c6 hL hi6 hrel ih hk hkz
  by_cases h7 : q = 7
  · subst h7
    refine y_swIn (off := 320) (t := 353) dL_law_33 (by rw [nI_ti (by decide)]; decide) (by rw [nI_ti (by decide)]; decide) (by rw [nI_ti (by decide)]; rfl) (by decide) ?_
    exact law_c7 hL hi6 hrel ih hk hkz
  by_cases h8 : q = 8
  · subst h8
    refine y_swIn (off := 353) (t := 386) dL_law_33 (by rw [nI_ti (by decide)]; decide) (by rw [nI_ti (by decide)]; decide) (by rw [nI_ti (by decide)]; rfl) (by decide) ?_
    exact law_c8 hL hi6 hrel ih hk hkz
  by_cases h9 : q = 9
  · subst h9
    refine y_swIn (off := 386) (t := 419) dL_law_33 (by rw [nI_ti (by decide)]; decide) (by rw [nI_ti (by decide)]; decide) (by rw [nI_ti (by decide)]; rfl) (by decide) ?_
    exact law_c9 hL hi6 hrel ih hk hkz
  by_cases h10 : q = 10
  · subst h10
    refine y_swIn (off := 419) (t := 452) dL_law_33 (by rw [nI_ti (by decide)]; decide) (by rw [nI_ti (by decide)]; decide) (by rw [nI_ti (by decide)]; rfl) (by decide) ?_
    exact law_c10 hL hi6 hrel ih hk hkz
  by_cases h11 : q = 11
  · subst h11
    refine y_swIn (off := 462) (t := 495) dL_law_33 (by rw [nI_ti (by decide)]; decide) (by rw [nI_ti (by decide)]; decide) (by rw [nI_ti (by decide)]; rfl) (by decide) ?_
    exact law_c11 hL hi6 hrel ih hk hkz
  by_cases h12 : q = 12
  · subst h12
    refine y_swIn (off := 495) (t := 528) dL_law_33 (by rw [nI_ti (by decide)]; decide) (by rw [nI_ti (by decide)]; decide) (by rw [nI_ti (by decide)]; rfl) (by decide) ?_
    exact law_c12 hL hi6 hrel ih hk hkz
  by_cases h13 : q = 13
  · subst h13
    refine y_swIn (off := 538) (t := 571) dL_law_33 (by rw [nI_ti (by decide)]; decide) (by rw [nI_ti (by decide)]; decide) (by rw [nI_ti (by decide)]; rfl) (by decide) ?_
    exact law_c13 hL hi6 hrel ih hk hkz
  by_cases h14 : q = 14
  · subst h14
    refine y_swIn (off := 581) (t := 614) dL_law_33 (by rw [nI_ti (by decide)]; decide) (by rw [nI_ti (by decide)]; decide) (by rw [nI_ti (by decide)]; rfl) (by decide) ?_
    exact law_c14 hL hi6 hrel ih hk hkz
  by_cases h15 : q = 15
  · subst h15
    refine y_swIn (off := 634) (t := 667) dL_law_33 (by rw [nI_ti (by decide)]; decide) (by rw [nI_ti (by decide)]; decide) (by rw [nI_ti (by decide)]; rfl) (by decide) ?_
    exact law_c15 hL hi6 hrel ih hk hkz
  by_cases h16 : q = 16
  · subst h16
    refine y_swIn (off := 677) (t := 710) dL_law_33 (by rw [nI_ti (by decide)]; decide) (by rw [nI_ti (by decide)]; decide) (by rw [nI_ti (by decide)]; rfl) (by decide) ?_
    exact law_c16 hL hi6 hrel ih hk hkz
  by_cases h17 : q = 17
  · subst h17
    refine y_swIn (off := 700) (t := 733) dL_law_33 (by rw [nI_ti (by decide)]; decide) (by rw [nI_ti (by decide)]; decide) (by rw [nI_ti (by decide)]; rfl) (by decide) ?_
    exact law_c17 hL hi6 hrel ih hk hkz
  by_cases h18 : q = 18
  · subst h18
    refine y_swIn (off := 743) (t := 776) dL_law_33 (by rw [nI_ti (by decide)]; decide) (by rw [nI_ti (by decide)]; decide) (by rw [nI_ti (by decide)]; rfl) (by decide) ?_
    exact law_c18 hL hi6 hrel ih hk hkz
  by_cases h19 : q = 19
  · subst h19
    refine y_swIn (off := 806) (t := 839) dL_law_33 (by rw [nI_ti (by decide)]; decide) (by rw [nI_ti (by decide)]; decide) (by rw [nI_ti (by decide)]; rfl) (by decide) ?_
    exact law_c19 hL hi6 hrel ih hk hkz
  by_cases h20 : q = 20
  · subst h20
    refine y_swIn (off := 829) (t := 862) dL_law_33 (by rw [nI_ti (by decide)]; decide) (by rw [nI_ti (by decide)]; decide) (by rw [nI_ti (by decide)]; rfl) (by decide) ?_
    exact law_c20 hL hi6 hrel ih hk hkz
  by_cases h21 : q = 21
  · subst h21
    refine y_swIn (off := 852) (t := 885) dL_law_33 (by rw [nI_ti (by decide)]; decide) (by rw [nI_ti (by decide)]; decide) (by rw [nI_ti (by decide)]; rfl) (by decide) ?_
    exact law_c21 hL hi6 hrel ih hk hkz
  by_cases h22 : q = 22
  · subst h22
    refine y_swIn (off := 875) (t := 908) dL_law_33 (by rw [nI_ti (by decide)]; decide) (by rw [nI_ti (by decide)]; decide) (by rw [nI_ti (by decide)]; rfl) (by decide) ?_
    exact law_c22 hL hi6 hrel ih hk hkz
  by_cases h23 : q = 23
  · subst h23
    refine y_swIn (off := 918) (t := 951) dL_law_33 (by rw [nI_ti (by decide)]; decide) (by rw [nI_ti (by decide)]; decide) (by rw [nI_ti (by decide)]; rfl) (by decide) ?_
    exact law_c23 hL hi6 hrel ih hk hkz
  by_cases h24 : q = 24
  · subst h24
    refine y_swIn (off := 941) (t := 974) dL_law_33 (by rw [nI_ti (by decide)]; decide) (by rw [nI_ti (by decide)]; decide) (by rw [nI_ti (by decide)]; rfl) (by decide) ?_
    exact law_c24 hL hi6 hrel ih hk hkz
  by_cases h25 : q = 25
  · subst h25
    refine y_swIn (off := 964) (t := 997) dL_law_33 (by rw [nI_ti (by decide)]; decide) (by rw [nI_ti (by decide)]; decide) (by rw [nI_ti (by decide)]; rfl) (by decide) ?_
    exact law_c25 hL hi6 hrel ih hk hkz
  refine y_swOut (t := 1020) dL_law_33 (Or.inr (by rw [nI_ti hq]; omega)) (by decide) ?_
  refine y_iinc (v := nI (i + 6)) (L2 := [some (.ref 1000005), some (.ref 0), some (.ref 100), some (.int (nI (i + 6)))]) (q := 1023) dL_law_1020 rfl (by decide) rfl rfl (by show _ + (6 : Int32) = _; exact nI_add i 6) rfl ?_
  refine y_goto (t := 18) dL_law_1023 (by decide) ?_
  exact ih I r J hrel
theorem neg6 : ∀ L, L < 6 → nI L - 6 < 0 := by decide
theorem law_gt {Ln i : Nat} (hL : Ln ≤ 3072) (hi : i < 10000) : nI Ln - 6 < nI i ↔ Ln < i + 6 := by
  by_cases h : 6 ≤ Ln
  · rw [show (6 : Int32) = nI 6 from rfl, pk_sub h, nI_ltI (by omega) (by omega)]
    omega
  · have h1 := neg6 Ln (by omega)
    have h2 : (0 : Int32) ≤ nI i := nI_pos' (by omega)
    exact ⟨fun _ => by omega, fun _ => Int32.lt_of_lt_of_le h1 h2⟩
set_option maxRecDepth 100000 in
theorem law_loop {b Ln : Nat} {xs : Nat → Int32} (hL : Ln ≤ 3072) {k z : Nat} (hk : k ≤ 600000) (hkz : z ≤ 7302250) : ∀ (f i : Nat) (I : MI) (r : MR) (J : MJ), i ≤ 4000 → Ln < i + 6 + f * 6 → Rel I r J → Wl b Ln xs 18 [some (.ref 1000005), some (.ref 0), some (.ref 100), some (.int (nI i))] [] 146 (hp I r J) k z := by
  intro f
  induction f with
  | zero =>
    intro i I r J hi hf hrel
    refine y_iload_n (q := 19) dL_law_18 rfl rfl ?_
    refine y_aload_n (q := 20) dL_law_19 rfl rfl ?_
    refine y_slen (q := 21) dL_law_20 rfl ?_
    refine y_bipush (6) (q := 23) dL_law_21 rfl (by decide) ?_
    refine y_isub (q := 24) dL_law_23 rfl ?_
    refine y_icmp_gt (t := 1026) (q := 27) dL_law_24 (by decide) rfl (fun _ => ?_) (fun c_ => absurd ((law_gt hL (by omega)).mpr (by omega)) c_)
    refine y_iconst (1) (q := 1027) dL_law_1026 rfl (by decide) ?_
    exact y_ret dL_law_1027 hk hkz
  | succ f ih =>
    intro i I r J hi hf hrel
    refine y_iload_n (q := 19) dL_law_18 rfl rfl ?_
    refine y_aload_n (q := 20) dL_law_19 rfl rfl ?_
    refine y_slen (q := 21) dL_law_20 rfl ?_
    refine y_bipush (6) (q := 23) dL_law_21 rfl (by decide) ?_
    refine y_isub (q := 24) dL_law_23 rfl ?_
    refine y_icmp_gt (t := 1026) (q := 27) dL_law_24 (by decide) rfl (fun _ => ?_) (fun c_ => ?_)
    · refine y_iconst (1) (q := 1027) dL_law_1026 rfl (by decide) ?_
      exact y_ret dL_law_1027 hk hkz
    · have hi6 : i + 6 ≤ Ln := by
        rw [law_gt hL (by omega)] at c_
        omega
      refine y_aload_n (q := 28) dL_law_27 rfl rfl ?_
      refine y_iload_n (q := 29) dL_law_28 rfl rfl ?_
      refine y_sld (q := 30) dL_law_29 rfl (vp_in_nI (by omega) (by omega)) ?_
      refine y_bipush (31) (q := 32) dL_law_30 rfl (by decide) ?_
      refine y_iand (q := 33) dL_law_32 rfl ?_
      obtain ⟨q, hq, eq⟩ := and31 (xs (nI i).toNatClampNeg)
      rw [eq]
      exact law_sw hL hi6 hrel (fun I r J h => ih (i + 6) I r J (by omega) (by omega) h) hk hkz hq
