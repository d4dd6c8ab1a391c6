def stepR (so la : Nat) (T fl rain tr : Int32) (G : GT) : GT := packG tr (saltG tr (runOffG (WHf so) (meltG (fallG fl rain (warmG so la T G)))))
theorem nI5 (y : Nat) : (5 : Int32) * nI y = nI (5 * y) := pk_mul 5 y
theorem nI4 (y : Nat) : (4 : Int32) * nI y = nI (4 * y) := pk_mul 4 y
theorem nIp (a : Nat) (k : Nat) : nI a + nI k = nI (a + k) := nI_add a k
set_option maxRecDepth 100000 in
theorem t_goOn297 (y : Nat) (hy : y < 8) {so la : Nat} (hs4 : so < 4) (h1 : 1 ≤ la) (h5 : la ≤ 5) (T fl rain tr : Int32) (I : MI) (htr : I 116 y = tr) (r : MR) (J : MJ) (G : GT) (x2 x3 x4 x10 x11 : Option Value) : Wq MX12_goOn 297 [some (.ref 100), some (.int (nI y)), x2, x3, x4, some (.int T), some (.int fl), some (.int rain), some (.int (nI so)), some (.int (nI la)), x10, x11] [] (mPut I G) r J (Rt none (mPut I (packG tr (saltG tr G))) r J) := by
  refine x_aload_n (q := 298) dX12_goOn_297 rfl rfl ?_
  refine x_dup (q := 299) dX12_goOn_298 rfl rfl ?_
  refine q_gi (K := 52) (q := 302) dX12_goOn_299 rfl cl_12 (by decide) tw_1134 rfl rfl ?_
  refine x_aload_n (q := 303) dX12_goOn_302 rfl rfl ?_
  refine q_gi (K := 52) (q := 306) dX12_goOn_303 rfl cl_12 (by decide) tw_1134 rfl rfl ?_
  refine x_aload_n (q := 307) dX12_goOn_306 rfl rfl ?_
  refine q_gr (K := 24) (b := 116) (q := 310) dX12_goOn_307 rfl cl_12 (by decide) tw_1106 rfl rfl rfl ?_
  refine x_iload_n (q := 311) dX12_goOn_310 rfl rfl ?_
  refine q_iald (q := 312) dX12_goOn_311 rfl rfl (vp_in_nI hy (by decide)) ?_
  refine x_imul (q := 313) dX12_goOn_312 rfl ?_
  refine x_bipush (100) (q := 315) dX12_goOn_313 rfl (by decide) ?_
  refine x_idiv (q := 316) dX12_goOn_315 rfl (by decide) ?_
  refine x_isub (q := 317) dX12_goOn_316 rfl ?_
  refine q_pi (K := 52) (q := 320) dX12_goOn_317 rfl cl_12 (by decide) tw_1134 rfl rfl rfl rfl (fun I1 eI1 => ?_)
  refine x_aload_n (q := 321) dX12_goOn_320 rfl rfl ?_
  refine q_gr (K := 24) (b := 116) (q := 324) dX12_goOn_321 rfl cl_12 (by decide) tw_1106 rfl rfl rfl ?_
  refine x_iload_n (q := 325) dX12_goOn_324 rfl rfl ?_
  refine q_iald (q := 326) dX12_goOn_325 rfl rfl (vp_in_nI hy (by decide)) ?_
  refine x_bipush (20) (q := 328) dX12_goOn_326 rfl (by decide) ?_
  refine x_idiv (q := 329) dX12_goOn_328 rfl (by decide) ?_
  refine x_aload_n (q := 330) dX12_goOn_329 rfl rfl ?_
  refine q_gi (K := 50) (q := 333) dX12_goOn_330 rfl cl_12 (by decide) tw_1132 rfl rfl ?_
  refine q_callS (As := [.int ((I1 116 (nI y).toNatClampNeg) / 20), .int (I1 100 50)]) (rest := []) (q := 336) dX12_goOn_333 rfl okX12_lesser tw_1461 (c_lesser _ _ _ _ _) rfl rfl (Nat.le_of_ble_eq_true rfl) ⟨by decide, by decide⟩ ⟨rfl, rfl⟩ (fun rv_ I_ r_ J_ hv_ => ?_)
  obtain ⟨a1_, a2_, a3_, a4_⟩ := hv_
  rw [a1_, a2_, a3_, a4_]
  show Wq MX12_goOn 336 [some (.ref 100), some (.int (nI y)), x2, x3, x4, some (.int T), some (.int fl), some (.int rain), some (.int (nI so)), some (.int (nI la)), x10, x11] [.int (lesF ((I1 116 (nI y).toNatClampNeg) / 20) (I1 100 50))] I1 r J _
  refine x_nmi (fun v2 ev2 => ?_)
  refine x_istore (L2 := [some (.ref 100), some (.int (nI y)), x2, x3, x4, some (.int T), some (.int fl), some (.int rain), some (.int (nI so)), some (.int (nI la)), some (.int v2), x11]) (q := 338) dX12_goOn_336 rfl (by decide) rfl rfl ?_
  refine x_aload_n (q := 339) dX12_goOn_338 rfl rfl ?_
  refine x_dup (q := 340) dX12_goOn_339 rfl rfl ?_
  refine q_gi (K := 50) (q := 343) dX12_goOn_340 rfl cl_12 (by decide) tw_1132 rfl rfl ?_
  refine x_iload (q := 345) dX12_goOn_343 rfl rfl ?_
  refine x_isub (q := 346) dX12_goOn_345 rfl ?_
  refine q_pi (K := 50) (q := 349) dX12_goOn_346 rfl cl_12 (by decide) tw_1132 rfl rfl rfl rfl (fun I3 eI3 => ?_)
  refine x_aload_n (q := 350) dX12_goOn_349 rfl rfl ?_
  refine x_dup (q := 351) dX12_goOn_350 rfl rfl ?_
  refine q_gi (K := 51) (q := 354) dX12_goOn_351 rfl cl_12 (by decide) tw_1133 rfl rfl ?_
  refine x_iload (q := 356) dX12_goOn_354 rfl rfl ?_
  refine x_iadd (q := 357) dX12_goOn_356 rfl ?_
  refine q_pi (K := 51) (q := 360) dX12_goOn_357 rfl cl_12 (by decide) tw_1133 rfl rfl rfl rfl (fun I4 eI4 => ?_)
  refine q_vret dX12_goOn_360 rfl ?_
  refine ⟨rfl, ?_, rfl, rfl⟩
  have hcy : (nI y).toNatClampNeg = y := nI_clamp (by omega)
  have hm : ∀ G j, mPut I G 116 j = I 116 j := fun G j => mPut_o _ _ _ _ (by decide) (by decide)
  subst_vars
  simp only [mPut_49, mPut_50, mPut_51, mPut_52, mPut_u49, mPut_u50, mPut_u51, mPut_u52, mPut_w0, mPut_u0, cl_lit0, hcy, hm, lesF_min]
  rfl
set_option maxRecDepth 100000 in
theorem t_goOn241 (y : Nat) (hy : y < 8) {so la : Nat} (hs4 : so < 4) (h1 : 1 ≤ la) (h5 : la ≤ 5) (T fl rain tr : Int32) (I : MI) (htr : I 116 y = tr) (r : MR) (J : MJ) (G : GT) (h50 : 0 ≤ G 5 + rain) (h00 : ¬ G 5 + rain + (G 6 + (fl - rain)) + G 7 + 10 = 0) (hro : WHf so < meltG (fallG fl rain G) 5 ↔ ¬ meltG (fallG fl rain G) 5 - WHf so ≤ 0) (x2 x3 x4 x10 x11 : Option Value) : Wq MX12_goOn 241 [some (.ref 100), some (.int (nI y)), x2, x3, x4, some (.int T), some (.int fl), some (.int rain), some (.int (nI so)), some (.int (nI la)), x10, x11] [] (mPut I G) r J (Rt none (mPut I (packG tr (saltG tr (runOffG (WHf so) (meltG (fallG fl rain G)))))) r J) := by
  refine x_aload_n (q := 242) dX12_goOn_241 rfl rfl ?_
  refine x_dup (q := 243) dX12_goOn_242 rfl rfl ?_
  refine q_gi (K := 49) (q := 246) dX12_goOn_243 rfl cl_12 (by decide) tw_1131 rfl rfl ?_
  refine x_iload (q := 248) dX12_goOn_246 rfl rfl ?_
  refine x_iadd (q := 249) dX12_goOn_248 rfl ?_
  refine q_pi (K := 49) (q := 252) dX12_goOn_249 rfl cl_12 (by decide) tw_1131 rfl rfl rfl rfl (fun I1 eI1 => ?_)
  refine x_aload_n (q := 253) dX12_goOn_252 rfl rfl ?_
  refine x_dup (q := 254) dX12_goOn_253 rfl rfl ?_
  refine q_gi (K := 50) (q := 257) dX12_goOn_254 rfl cl_12 (by decide) tw_1132 rfl rfl ?_
  refine x_iload (q := 259) dX12_goOn_257 rfl rfl ?_
  refine x_iload (q := 261) dX12_goOn_259 rfl rfl ?_
  refine x_isub (q := 262) dX12_goOn_261 rfl ?_
  refine x_iadd (q := 263) dX12_goOn_262 rfl ?_
  refine q_pi (K := 50) (q := 266) dX12_goOn_263 rfl cl_12 (by decide) tw_1132 rfl rfl rfl rfl (fun I2 eI2 => ?_)
  have e9 : I2 = mPut I (fallG fl rain G) := by
    subst_vars
    simp only [mPut_49, mPut_50, mPut_51, mPut_52, mPut_u49, mPut_u50, mPut_u51, mPut_u52, mPut_w0, mPut_u0, cl_lit0]
    rfl
  rw [e9]
  refine x_aload_n (q := 267) dX12_goOn_266 rfl rfl ?_
  refine q_callV (ci := 12) (N := 79) (T := TX12) (As := []) (rest := []) (q := 270) dX12_goOn_267 rfl okX12_turn tw_1464 rfl rfl (c_turn I (fallG fl rain G) _ _ (by simpa [fallG, upd] using h50) (by simpa [fallG, upd] using h00)) rfl rfl (Nat.le_of_ble_eq_true rfl) ⟨by decide, by decide⟩ ⟨rfl, rfl⟩ (fun rv_ I_ r_ J_ hv_ => ?_)
  obtain ⟨a1_, a2_, a3_, a4_⟩ := hv_
  rw [a1_, a2_, a3_, a4_]
  show Wq MX12_goOn 270 [some (.ref 100), some (.int (nI y)), x2, x3, x4, some (.int T), some (.int fl), some (.int rain), some (.int (nI so)), some (.int (nI la)), x10, x11] [] (mPut I (meltG (fallG fl rain G))) r J _
  have k294 : Wq MX12_goOn 294 [some (.ref 100), some (.int (nI y)), x2, x3, x4, some (.int T), some (.int fl), some (.int rain), some (.int (nI so)), some (.int (nI la)), x10, x11] [.int (WHf so), .ref 100] (mPut I (meltG (fallG fl rain G))) r J (Rt none (mPut I (packG tr (saltG tr (runOffG (WHf so) (meltG (fallG fl rain G)))))) r J) := by
    refine q_callV (ci := 12) (N := 79) (T := TX12) (As := [.int (WHf so)]) (rest := []) (q := 297) dX12_goOn_294 rfl okX12_runOff tw_1468 rfl rfl (c_mrunOff _ I (meltG (fallG fl rain G)) _ _ hro (WHf_ne hs4 _)) rfl rfl (Nat.le_of_ble_eq_true rfl) ⟨by decide, by decide⟩ ⟨rfl, rfl⟩ (fun rv_ I_ r_ J_ hv_ => ?_)
    obtain ⟨a1_, a2_, a3_, a4_⟩ := hv_
    rw [a1_, a2_, a3_, a4_]
    show Wq MX12_goOn 297 [some (.ref 100), some (.int (nI y)), x2, x3, x4, some (.int T), some (.int fl), some (.int rain), some (.int (nI so)), some (.int (nI la)), x10, x11] [] (mPut I (runOffG (WHf so) (meltG (fallG fl rain G)))) r J _
    exact t_goOn297 y hy hs4 h1 h5 T fl rain tr I htr r J _ _ _ _ _ _
  refine x_aload_n (q := 271) dX12_goOn_270 rfl rfl ?_
  refine x_iload (q := 273) dX12_goOn_271 rfl rfl ?_
  refine x_if_ne (t := 281) (q := 276) dX12_goOn_273 (by decide) rfl (fun c273 => ?_) (fun c273 => ?_)
  · refine x_iload (q := 283) dX12_goOn_281 rfl rfl ?_
    refine x_iconst (3) (q := 284) dX12_goOn_283 rfl (by decide) ?_
    refine x_icmp_ne (t := 292) (q := 287) dX12_goOn_284 (by decide) rfl (fun c284 => ?_) (fun c284 => ?_)
    · refine x_bipush (20) (q := 294) dX12_goOn_292 rfl (by decide) ?_
      have e0 : ¬ so = 0 := fun q => c273 (by rw [q]; rfl)
      have e3 : ¬ so = 3 := fun q => c284 (by rw [q]; rfl)
      have e : so = 1 ∨ so = 2 := by omega
      rcases e with rfl | rfl <;> exact k294
    · refine x_bipush (10) (q := 289) dX12_goOn_287 rfl (by decide) ?_
      refine x_goto (t := 294) dX12_goOn_289 (by decide) ?_
      have e : so = 3 := (nI_eq (b := 3) (by omega) (by omega)).mp c284
      subst e
      exact k294
  · refine x_bipush (60) (q := 278) dX12_goOn_276 rfl (by decide) ?_
    refine x_goto (t := 294) dX12_goOn_278 (by decide) ?_
    have e : so = 0 := (nI_eq (b := 0) (by omega) (by omega)).mp c273
    subst e
    exact k294
set_option maxRecDepth 100000 in
theorem l_goOn (y : Nat) {so la : Nat} (h1 : 1 ≤ la) (h5 : la ≤ 5) (T fl rain : Int32) (I : MI) (G : GT) (r : MR) (J : MJ) (x2 x3 x4 : Option Value) (post : Option Value → MI → MR → MJ → Prop) (kx : ∀ x10 x11, Wq MX12_goOn 241 [some (.ref 100), some (.int (nI y)), x2, x3, x4, some (.int T), some (.int fl), some (.int rain), some (.int (nI so)), some (.int (nI la)), x10, x11] [] (mPut I (condN (la - 1) G)) r J post) : ∀ (k i : Nat) (x11 : Option Value), i + k = la - 1 → Wq MX12_goOn 179 [some (.ref 100), some (.int (nI y)), x2, x3, x4, some (.int T), some (.int fl), some (.int rain), some (.int (nI so)), some (.int (nI la)), some (.int (nI i)), x11] [] (mPut I (condN i G)) r J post := by
  have hla1 : nI la - 1 = nI (la - 1) := pk_sub (a := la) (b := 1) h1
  intro k
  induction k with
  | zero =>
    intro i x11 hik
    refine x_iload (q := 181) dX12_goOn_179 rfl rfl ?_
    refine x_iload (q := 183) dX12_goOn_181 rfl rfl ?_
    refine x_iconst (1) (q := 184) dX12_goOn_183 rfl (by decide) ?_
    refine x_isub (q := 185) dX12_goOn_184 rfl ?_
    refine x_icmp_ge (t := 241) (q := 188) dX12_goOn_185 (by decide) rfl (fun c185 => ?_) (fun c185 => absurd c185 (by rw [hla1, nI_leI (by omega) (by omega)]; omega))
    rw [show i = la - 1 by omega]
    exact kx _ _
  | succ k ih =>
    intro i x11 hik
    refine x_iload (q := 181) dX12_goOn_179 rfl rfl ?_
    refine x_iload (q := 183) dX12_goOn_181 rfl rfl ?_
    refine x_iconst (1) (q := 184) dX12_goOn_183 rfl (by decide) ?_
    refine x_isub (q := 185) dX12_goOn_184 rfl ?_
    refine x_icmp_ge (t := 241) (q := 188) dX12_goOn_185 (by decide) rfl (fun c185 => absurd c185 (by rw [hla1, nI_leI (by omega) (by omega)]; omega)) (fun c185 => ?_)
    refine x_aload_n (q := 189) dX12_goOn_188 rfl rfl ?_
    refine q_gr (K := 48) (b := 125) (q := 192) dX12_goOn_189 rfl cl_12 (by decide) tw_1130 rfl rfl rfl ?_
    refine x_iload (q := 194) dX12_goOn_192 rfl rfl ?_
    refine x_iconst (1) (q := 195) dX12_goOn_194 rfl (by decide) ?_
    refine x_iadd (q := 196) dX12_goOn_195 rfl ?_
    refine q_iald (q := 197) dX12_goOn_196 rfl rfl (by rw [nI_1]; exact vp_in_nI (by omega) (by decide)) ?_
    refine x_aload_n (q := 198) dX12_goOn_197 rfl rfl ?_
    refine q_gr (K := 48) (b := 125) (q := 201) dX12_goOn_198 rfl cl_12 (by decide) tw_1130 rfl rfl rfl ?_
    refine x_iload (q := 203) dX12_goOn_201 rfl rfl ?_
    refine q_iald (q := 204) dX12_goOn_203 rfl rfl (vp_in_nI (by omega) (by decide)) ?_
    refine x_isub (q := 205) dX12_goOn_204 rfl ?_
    refine x_iconst (4) (q := 206) dX12_goOn_205 rfl (by decide) ?_
    refine x_idiv (q := 207) dX12_goOn_206 rfl (by decide) ?_
    refine x_nmi (fun v1 ev1 => ?_)
    refine x_istore (L2 := [some (.ref 100), some (.int (nI y)), x2, x3, x4, some (.int T), some (.int fl), some (.int rain), some (.int (nI so)), some (.int (nI la)), some (.int (nI i)), some (.int v1)]) (q := 209) dX12_goOn_207 rfl (by decide) rfl rfl ?_
    refine x_aload_n (q := 210) dX12_goOn_209 rfl rfl ?_
    refine q_gr (K := 48) (b := 125) (q := 213) dX12_goOn_210 rfl cl_12 (by decide) tw_1130 rfl rfl rfl ?_
    refine x_iload (q := 215) dX12_goOn_213 rfl rfl ?_
    refine x_dup2 (q := 216) dX12_goOn_215 rfl rfl rfl ?_
    refine q_iald (q := 217) dX12_goOn_216 rfl rfl (vp_in_nI (by omega) (by decide)) ?_
    refine x_iload (q := 219) dX12_goOn_217 rfl rfl ?_
    refine x_iadd (q := 220) dX12_goOn_219 rfl ?_
    refine q_iast (q := 221) dX12_goOn_220 rfl rfl (vp_in_nI (by omega) (by decide)) (fun I2 eI2 => ?_)
    refine x_aload_n (q := 222) dX12_goOn_221 rfl rfl ?_
    refine q_gr (K := 48) (b := 125) (q := 225) dX12_goOn_222 rfl cl_12 (by decide) tw_1130 rfl rfl rfl ?_
    refine x_iload (q := 227) dX12_goOn_225 rfl rfl ?_
    refine x_iconst (1) (q := 228) dX12_goOn_227 rfl (by decide) ?_
    refine x_iadd (q := 229) dX12_goOn_228 rfl ?_
    refine x_dup2 (q := 230) dX12_goOn_229 rfl rfl rfl ?_
    refine q_iald (q := 231) dX12_goOn_230 rfl rfl (by rw [nI_1]; exact vp_in_nI (by omega) (by decide)) ?_
    refine x_iload (q := 233) dX12_goOn_231 rfl rfl ?_
    refine x_isub (q := 234) dX12_goOn_233 rfl ?_
    refine q_iast (q := 235) dX12_goOn_234 rfl rfl (by rw [nI_1]; exact vp_in_nI (by omega) (by decide)) (fun I3 eI3 => ?_)
    obtain ⟨v4, ev4⟩ : ∃ y : Int32, y = (nI i) + 1 := ⟨_, rfl⟩
    refine x_iinc (v := v4) (L2 := [some (.ref 100), some (.int (nI y)), x2, x3, x4, some (.int T), some (.int fl), some (.int rain), some (.int (nI so)), some (.int (nI la)), some (.int v4), some (.int v1)]) (q := 238) dX12_goOn_235 rfl (by decide) rfl rfl (by rw [ev4]; rfl) rfl ?_
    refine x_goto (t := 179) dX12_goOn_238 (by decide) ?_
    have hc0 : (nI i).toNatClampNeg = i := nI_clamp (by omega)
    have hc1 : (nI (i + 1)).toNatClampNeg = i + 1 := nI_clamp (by omega)
    subst_vars
    simp only [nI_1, hc0, hc1, mPut_w _ _ i (show i < 5 by omega), mPut_w _ _ (i + 1) (show i + 1 < 5 by omega), mPut_uw _ _ i _ (show i < 5 by omega), mPut_uw _ _ (i + 1) _ (show i + 1 < 5 by omega)]
    have e9 : ∀ x, upd (condN i G) i x (i + 1) = condN i G (i + 1) := fun x => by simp [upd]
    rw [e9]
    exact ih (i + 1) _ (by omega)
