theorem wq8 {T : Nat → Nat} {n p i : Nat} {x w : Int64} (hi : i < 20) (k2 : kd T n p = 2) (hx : x = lN (w8 T n p)) (hw : w = lN (K8 i)) : lg_cmp x w = 0 ↔ kw T n p = i := by
  rw [lcmp_z, hx, hw, lN_inj63 (w8_lt k2) (K8_lt i hi)]; exact kw_w8 hi k2
set_option maxRecDepth 100000 in
theorem l_iN_00 (r : MR) {M : MI} {J : MJ} (x2 : Option Value) : Wq MX12_isName 241 [some (.ref 100), some (.int 0), x2] [.int 0] M r J (Rt (some (.int 1)) M r J) := by
  refine x_istore_n (L2 := [some (.ref 100), some (.int 0), some (.int 0)]) (q := 242) dX12_isName_241 rfl (by decide) rfl rfl ?_
  refine x_iload_n (q := 243) dX12_isName_242 rfl rfl ?_
  refine x_if_ne (t := 254) (q := 246) dX12_isName_243 (by decide) rfl (fun c243 => absurd c243 ((by decide))) (fun c243 => ?_)
  refine x_iload_n (q := 247) dX12_isName_246 rfl rfl ?_
  refine x_if_ne (t := 254) (q := 250) dX12_isName_247 (by decide) rfl (fun c247 => absurd c247 ((by decide))) (fun c247 => ?_)
  refine x_iconst (1) (q := 251) dX12_isName_250 rfl (by decide) ?_
  refine x_goto (t := 255) dX12_isName_251 (by decide) ?_
  refine q_zret dX12_isName_255 rfl (Or.inr rfl) ?_
  exact ⟨rfl, rfl, rfl, rfl⟩
set_option maxRecDepth 100000 in
theorem l_iN_01 (r : MR) {M : MI} {J : MJ} (x2 : Option Value) : Wq MX12_isName 241 [some (.ref 100), some (.int 0), x2] [.int 1] M r J (Rt (some (.int 0)) M r J) := by
  refine x_istore_n (L2 := [some (.ref 100), some (.int 0), some (.int 1)]) (q := 242) dX12_isName_241 rfl (by decide) rfl rfl ?_
  refine x_iload_n (q := 243) dX12_isName_242 rfl rfl ?_
  refine x_if_ne (t := 254) (q := 246) dX12_isName_243 (by decide) rfl (fun c243 => absurd c243 ((by decide))) (fun c243 => ?_)
  refine x_iload_n (q := 247) dX12_isName_246 rfl rfl ?_
  refine x_if_ne (t := 254) (q := 250) dX12_isName_247 (by decide) rfl (fun c247 => ?_) (fun c247 => absurd c247 ((by decide)))
  refine x_iconst (0) (q := 255) dX12_isName_254 rfl (by decide) ?_
  refine q_zret dX12_isName_255 rfl (Or.inl rfl) ?_
  exact ⟨rfl, rfl, rfl, rfl⟩
set_option maxRecDepth 100000 in
theorem l_iN_10 (r : MR) {M : MI} {J : MJ} (x2 : Option Value) : Wq MX12_isName 241 [some (.ref 100), some (.int 1), x2] [.int 0] M r J (Rt (some (.int 0)) M r J) := by
  refine x_istore_n (L2 := [some (.ref 100), some (.int 1), some (.int 0)]) (q := 242) dX12_isName_241 rfl (by decide) rfl rfl ?_
  refine x_iload_n (q := 243) dX12_isName_242 rfl rfl ?_
  refine x_if_ne (t := 254) (q := 246) dX12_isName_243 (by decide) rfl (fun c243 => ?_) (fun c243 => absurd c243 ((by decide)))
  refine x_iconst (0) (q := 255) dX12_isName_254 rfl (by decide) ?_
  refine q_zret dX12_isName_255 rfl (Or.inl rfl) ?_
  exact ⟨rfl, rfl, rfl, rfl⟩
set_option maxRecDepth 100000 in
theorem l_iN_11 (r : MR) {M : MI} {J : MJ} (x2 : Option Value) : Wq MX12_isName 241 [some (.ref 100), some (.int 1), x2] [.int 1] M r J (Rt (some (.int 0)) M r J) := by
  refine x_istore_n (L2 := [some (.ref 100), some (.int 1), some (.int 1)]) (q := 242) dX12_isName_241 rfl (by decide) rfl rfl ?_
  refine x_iload_n (q := 243) dX12_isName_242 rfl rfl ?_
  refine x_if_ne (t := 254) (q := 246) dX12_isName_243 (by decide) rfl (fun c243 => ?_) (fun c243 => absurd c243 ((by decide)))
  refine x_iconst (0) (q := 255) dX12_isName_254 rfl (by decide) ?_
  refine q_zret dX12_isName_255 rfl (Or.inl rfl) ?_
  exact ⟨rfl, rfl, rfl, rfl⟩
set_option maxRecDepth 100000 in
theorem l_iN1_0 {T : Nat → Nat} {n : Nat} (r : MR) {M : MI} {J : MJ} {s : Nat × Nat × Nat} (h : PM T n s M J) (h0 : s.1 = 0) (k2 : kd T n s.2.2 = 2) (ha : ¬ (kw T n s.2.2 = 0 ∨ kw T n s.2.2 = 12 ∨ kw T n s.2.2 = 13 ∨ kw T n s.2.2 = 14 ∨ kw T n s.2.2 = 1 ∨ kw T n s.2.2 = 15 ∨ kw T n s.2.2 = 2 ∨ kw T n s.2.2 = 16 ∨ kw T n s.2.2 = 17 ∨ kw T n s.2.2 = 18)) (x2 : Option Value) : Wq MX12_isName 126 [some (.ref 100), some (.int 0), x2] [] M r J (Rt (some (.int (if kw T n s.2.2 = 20 then 1 else 0))) M r J) := by
  have hL := h.2.2.2.2.2.2 h0
  have hw := hL.2.2.2.2 k2
  refine x_aload_n (q := 127) dX12_isName_126 rfl rfl ?_
  refine q_gl (K := 9) (q := 130) dX12_isName_127 rfl cl_12 (by decide) tw_1091 rfl rfl ?_
  refine x_ldc2 (v := 1936484720) (q := 133) dX12_isName_130 rfl tw_1380 ?_
  refine x_lcmp (q := 134) dX12_isName_133 rfl ?_
  refine x_if_eq (t := 236) (q := 137) dX12_isName_134 (by decide) rfl (fun c134 => ?_) (fun c134 => ?_)
  · refine x_iconst (1) (q := 237) dX12_isName_236 rfl (by decide) ?_
    refine x_goto (t := 241) dX12_isName_237 (by decide) ?_
    have hk : ¬ kw T n s.2.2 = 20 := by
      first
      | (have g := (wq8 (i := 3) (by decide) k2 hw rfl).mp c134; omega)
      | (have g := (wq8 (i := 19) (by decide) k2 hw rfl).mp c145; omega)
      | (have g := (wq8 (i := 4) (by decide) k2 hw rfl).mp c156; omega)
      | (have g := (wq8 (i := 5) (by decide) k2 hw rfl).mp c167; omega)
      | (have g := (wq8 (i := 6) (by decide) k2 hw rfl).mp c178; omega)
      | (have g := (wq8 (i := 7) (by decide) k2 hw rfl).mp c189; omega)
      | (have g := (wq8 (i := 8) (by decide) k2 hw rfl).mp c200; omega)
      | (have g := (wq8 (i := 9) (by decide) k2 hw rfl).mp c211; omega)
      | (have g := (wq8 (i := 10) (by decide) k2 hw rfl).mp c222; omega)
      | (have g := (wq8 (i := 11) (by decide) k2 hw rfl).mp c233; omega)
    rw [if_neg hk]
    exact l_iN_01 r x2
  · refine x_aload_n (q := 138) dX12_isName_137 rfl rfl ?_
    refine q_gl (K := 9) (q := 141) dX12_isName_138 rfl cl_12 (by decide) tw_1091 rfl rfl ?_
    refine x_ldc2 (v := 131277443786868) (q := 144) dX12_isName_141 rfl tw_1381 ?_
    refine x_lcmp (q := 145) dX12_isName_144 rfl ?_
    refine x_if_eq (t := 236) (q := 148) dX12_isName_145 (by decide) rfl (fun c145 => ?_) (fun c145 => ?_)
    · refine x_iconst (1) (q := 237) dX12_isName_236 rfl (by decide) ?_
      refine x_goto (t := 241) dX12_isName_237 (by decide) ?_
      have hk : ¬ kw T n s.2.2 = 20 := by
        first
        | (have g := (wq8 (i := 3) (by decide) k2 hw rfl).mp c134; omega)
        | (have g := (wq8 (i := 19) (by decide) k2 hw rfl).mp c145; omega)
        | (have g := (wq8 (i := 4) (by decide) k2 hw rfl).mp c156; omega)
        | (have g := (wq8 (i := 5) (by decide) k2 hw rfl).mp c167; omega)
        | (have g := (wq8 (i := 6) (by decide) k2 hw rfl).mp c178; omega)
        | (have g := (wq8 (i := 7) (by decide) k2 hw rfl).mp c189; omega)
        | (have g := (wq8 (i := 8) (by decide) k2 hw rfl).mp c200; omega)
        | (have g := (wq8 (i := 9) (by decide) k2 hw rfl).mp c211; omega)
        | (have g := (wq8 (i := 10) (by decide) k2 hw rfl).mp c222; omega)
        | (have g := (wq8 (i := 11) (by decide) k2 hw rfl).mp c233; omega)
      rw [if_neg hk]
      exact l_iN_01 r x2
    · refine x_aload_n (q := 149) dX12_isName_148 rfl rfl ?_
      refine q_gl (K := 9) (q := 152) dX12_isName_149 rfl cl_12 (by decide) tw_1091 rfl rfl ?_
      refine x_ldc2 (v := 1667329132) (q := 155) dX12_isName_152 rfl tw_1382 ?_
      refine x_lcmp (q := 156) dX12_isName_155 rfl ?_
      refine x_if_eq (t := 236) (q := 159) dX12_isName_156 (by decide) rfl (fun c156 => ?_) (fun c156 => ?_)
      · refine x_iconst (1) (q := 237) dX12_isName_236 rfl (by decide) ?_
        refine x_goto (t := 241) dX12_isName_237 (by decide) ?_
        have hk : ¬ kw T n s.2.2 = 20 := by
          first
          | (have g := (wq8 (i := 3) (by decide) k2 hw rfl).mp c134; omega)
          | (have g := (wq8 (i := 19) (by decide) k2 hw rfl).mp c145; omega)
          | (have g := (wq8 (i := 4) (by decide) k2 hw rfl).mp c156; omega)
          | (have g := (wq8 (i := 5) (by decide) k2 hw rfl).mp c167; omega)
          | (have g := (wq8 (i := 6) (by decide) k2 hw rfl).mp c178; omega)
          | (have g := (wq8 (i := 7) (by decide) k2 hw rfl).mp c189; omega)
          | (have g := (wq8 (i := 8) (by decide) k2 hw rfl).mp c200; omega)
          | (have g := (wq8 (i := 9) (by decide) k2 hw rfl).mp c211; omega)
          | (have g := (wq8 (i := 10) (by decide) k2 hw rfl).mp c222; omega)
          | (have g := (wq8 (i := 11) (by decide) k2 hw rfl).mp c233; omega)
        rw [if_neg hk]
        exact l_iN_01 r x2
      · refine x_aload_n (q := 160) dX12_isName_159 rfl rfl ?_
        refine q_gl (K := 9) (q := 163) dX12_isName_160 rfl cl_12 (by decide) tw_1091 rfl rfl ?_
        refine x_ldc2 (v := 1751216749) (q := 166) dX12_isName_163 rfl tw_1383 ?_
        refine x_lcmp (q := 167) dX12_isName_166 rfl ?_
        refine x_if_eq (t := 236) (q := 170) dX12_isName_167 (by decide) rfl (fun c167 => ?_) (fun c167 => ?_)
        · refine x_iconst (1) (q := 237) dX12_isName_236 rfl (by decide) ?_
          refine x_goto (t := 241) dX12_isName_237 (by decide) ?_
          have hk : ¬ kw T n s.2.2 = 20 := by
            first
            | (have g := (wq8 (i := 3) (by decide) k2 hw rfl).mp c134; omega)
            | (have g := (wq8 (i := 19) (by decide) k2 hw rfl).mp c145; omega)
            | (have g := (wq8 (i := 4) (by decide) k2 hw rfl).mp c156; omega)
            | (have g := (wq8 (i := 5) (by decide) k2 hw rfl).mp c167; omega)
            | (have g := (wq8 (i := 6) (by decide) k2 hw rfl).mp c178; omega)
            | (have g := (wq8 (i := 7) (by decide) k2 hw rfl).mp c189; omega)
            | (have g := (wq8 (i := 8) (by decide) k2 hw rfl).mp c200; omega)
            | (have g := (wq8 (i := 9) (by decide) k2 hw rfl).mp c211; omega)
            | (have g := (wq8 (i := 10) (by decide) k2 hw rfl).mp c222; omega)
            | (have g := (wq8 (i := 11) (by decide) k2 hw rfl).mp c233; omega)
          rw [if_neg hk]
          exact l_iN_01 r x2
        · refine x_aload_n (q := 171) dX12_isName_170 rfl rfl ?_
          refine q_gl (K := 9) (q := 174) dX12_isName_171 rfl cl_12 (by decide) tw_1091 rfl rfl ?_
          refine x_ldc2 (v := 431198596980) (q := 177) dX12_isName_174 rfl tw_1384 ?_
          refine x_lcmp (q := 178) dX12_isName_177 rfl ?_
          refine x_if_eq (t := 236) (q := 181) dX12_isName_178 (by decide) rfl (fun c178 => ?_) (fun c178 => ?_)
          · refine x_iconst (1) (q := 237) dX12_isName_236 rfl (by decide) ?_
            refine x_goto (t := 241) dX12_isName_237 (by decide) ?_
            have hk : ¬ kw T n s.2.2 = 20 := by
              first
              | (have g := (wq8 (i := 3) (by decide) k2 hw rfl).mp c134; omega)
              | (have g := (wq8 (i := 19) (by decide) k2 hw rfl).mp c145; omega)
              | (have g := (wq8 (i := 4) (by decide) k2 hw rfl).mp c156; omega)
              | (have g := (wq8 (i := 5) (by decide) k2 hw rfl).mp c167; omega)
              | (have g := (wq8 (i := 6) (by decide) k2 hw rfl).mp c178; omega)
              | (have g := (wq8 (i := 7) (by decide) k2 hw rfl).mp c189; omega)
              | (have g := (wq8 (i := 8) (by decide) k2 hw rfl).mp c200; omega)
              | (have g := (wq8 (i := 9) (by decide) k2 hw rfl).mp c211; omega)
              | (have g := (wq8 (i := 10) (by decide) k2 hw rfl).mp c222; omega)
              | (have g := (wq8 (i := 11) (by decide) k2 hw rfl).mp c233; omega)
            rw [if_neg hk]
            exact l_iN_01 r x2
          · refine x_aload_n (q := 182) dX12_isName_181 rfl rfl ?_
            refine q_gl (K := 9) (q := 185) dX12_isName_182 rfl cl_12 (by decide) tw_1091 rfl rfl ?_
            refine x_ldc2 (v := 495874699877) (q := 188) dX12_isName_185 rfl tw_1385 ?_
            refine x_lcmp (q := 189) dX12_isName_188 rfl ?_
            refine x_if_eq (t := 236) (q := 192) dX12_isName_189 (by decide) rfl (fun c189 => ?_) (fun c189 => ?_)
            · refine x_iconst (1) (q := 237) dX12_isName_236 rfl (by decide) ?_
              refine x_goto (t := 241) dX12_isName_237 (by decide) ?_
              have hk : ¬ kw T n s.2.2 = 20 := by
                first
                | (have g := (wq8 (i := 3) (by decide) k2 hw rfl).mp c134; omega)
                | (have g := (wq8 (i := 19) (by decide) k2 hw rfl).mp c145; omega)
                | (have g := (wq8 (i := 4) (by decide) k2 hw rfl).mp c156; omega)
                | (have g := (wq8 (i := 5) (by decide) k2 hw rfl).mp c167; omega)
                | (have g := (wq8 (i := 6) (by decide) k2 hw rfl).mp c178; omega)
                | (have g := (wq8 (i := 7) (by decide) k2 hw rfl).mp c189; omega)
                | (have g := (wq8 (i := 8) (by decide) k2 hw rfl).mp c200; omega)
                | (have g := (wq8 (i := 9) (by decide) k2 hw rfl).mp c211; omega)
                | (have g := (wq8 (i := 10) (by decide) k2 hw rfl).mp c222; omega)
                | (have g := (wq8 (i := 11) (by decide) k2 hw rfl).mp c233; omega)
              rw [if_neg hk]
              exact l_iN_01 r x2
            · refine x_aload_n (q := 193) dX12_isName_192 rfl rfl ?_
              refine q_gl (K := 9) (q := 196) dX12_isName_193 rfl cl_12 (by decide) tw_1091 rfl rfl ?_
              refine x_ldc2 (v := 444300620659) (q := 199) dX12_isName_196 rfl tw_1386 ?_
              refine x_lcmp (q := 200) dX12_isName_199 rfl ?_
              refine x_if_eq (t := 236) (q := 203) dX12_isName_200 (by decide) rfl (fun c200 => ?_) (fun c200 => ?_)
              · refine x_iconst (1) (q := 237) dX12_isName_236 rfl (by decide) ?_
                refine x_goto (t := 241) dX12_isName_237 (by decide) ?_
                have hk : ¬ kw T n s.2.2 = 20 := by
                  first
                  | (have g := (wq8 (i := 3) (by decide) k2 hw rfl).mp c134; omega)
                  | (have g := (wq8 (i := 19) (by decide) k2 hw rfl).mp c145; omega)
                  | (have g := (wq8 (i := 4) (by decide) k2 hw rfl).mp c156; omega)
                  | (have g := (wq8 (i := 5) (by decide) k2 hw rfl).mp c167; omega)
                  | (have g := (wq8 (i := 6) (by decide) k2 hw rfl).mp c178; omega)
                  | (have g := (wq8 (i := 7) (by decide) k2 hw rfl).mp c189; omega)
                  | (have g := (wq8 (i := 8) (by decide) k2 hw rfl).mp c200; omega)
                  | (have g := (wq8 (i := 9) (by decide) k2 hw rfl).mp c211; omega)
                  | (have g := (wq8 (i := 10) (by decide) k2 hw rfl).mp c222; omega)
                  | (have g := (wq8 (i := 11) (by decide) k2 hw rfl).mp c233; omega)
                rw [if_neg hk]
                exact l_iN_01 r x2
              · refine x_aload_n (q := 204) dX12_isName_203 rfl rfl ?_
                refine q_gl (K := 9) (q := 207) dX12_isName_204 rfl cl_12 (by decide) tw_1091 rfl rfl ?_
                refine x_ldc2 (v := 1919902052) (q := 210) dX12_isName_207 rfl tw_1387 ?_
                refine x_lcmp (q := 211) dX12_isName_210 rfl ?_
                refine x_if_eq (t := 236) (q := 214) dX12_isName_211 (by decide) rfl (fun c211 => ?_) (fun c211 => ?_)
                · refine x_iconst (1) (q := 237) dX12_isName_236 rfl (by decide) ?_
                  refine x_goto (t := 241) dX12_isName_237 (by decide) ?_
                  have hk : ¬ kw T n s.2.2 = 20 := by
                    first
                    | (have g := (wq8 (i := 3) (by decide) k2 hw rfl).mp c134; omega)
                    | (have g := (wq8 (i := 19) (by decide) k2 hw rfl).mp c145; omega)
                    | (have g := (wq8 (i := 4) (by decide) k2 hw rfl).mp c156; omega)
                    | (have g := (wq8 (i := 5) (by decide) k2 hw rfl).mp c167; omega)
                    | (have g := (wq8 (i := 6) (by decide) k2 hw rfl).mp c178; omega)
                    | (have g := (wq8 (i := 7) (by decide) k2 hw rfl).mp c189; omega)
                    | (have g := (wq8 (i := 8) (by decide) k2 hw rfl).mp c200; omega)
                    | (have g := (wq8 (i := 9) (by decide) k2 hw rfl).mp c211; omega)
                    | (have g := (wq8 (i := 10) (by decide) k2 hw rfl).mp c222; omega)
                    | (have g := (wq8 (i := 11) (by decide) k2 hw rfl).mp c233; omega)
                  rw [if_neg hk]
                  exact l_iN_01 r x2
                · refine x_aload_n (q := 215) dX12_isName_214 rfl rfl ?_
                  refine q_gl (K := 9) (q := 218) dX12_isName_215 rfl cl_12 (by decide) tw_1091 rfl rfl ?_
                  refine x_ldc2 (v := 108243533981541) (q := 221) dX12_isName_218 rfl tw_1388 ?_
                  refine x_lcmp (q := 222) dX12_isName_221 rfl ?_
                  refine x_if_eq (t := 236) (q := 225) dX12_isName_222 (by decide) rfl (fun c222 => ?_) (fun c222 => ?_)
                  · refine x_iconst (1) (q := 237) dX12_isName_236 rfl (by decide) ?_
                    refine x_goto (t := 241) dX12_isName_237 (by decide) ?_
                    have hk : ¬ kw T n s.2.2 = 20 := by
                      first
                      | (have g := (wq8 (i := 3) (by decide) k2 hw rfl).mp c134; omega)
                      | (have g := (wq8 (i := 19) (by decide) k2 hw rfl).mp c145; omega)
                      | (have g := (wq8 (i := 4) (by decide) k2 hw rfl).mp c156; omega)
                      | (have g := (wq8 (i := 5) (by decide) k2 hw rfl).mp c167; omega)
                      | (have g := (wq8 (i := 6) (by decide) k2 hw rfl).mp c178; omega)
                      | (have g := (wq8 (i := 7) (by decide) k2 hw rfl).mp c189; omega)
                      | (have g := (wq8 (i := 8) (by decide) k2 hw rfl).mp c200; omega)
                      | (have g := (wq8 (i := 9) (by decide) k2 hw rfl).mp c211; omega)
                      | (have g := (wq8 (i := 10) (by decide) k2 hw rfl).mp c222; omega)
                      | (have g := (wq8 (i := 11) (by decide) k2 hw rfl).mp c233; omega)
                    rw [if_neg hk]
                    exact l_iN_01 r x2
                  · refine x_aload_n (q := 226) dX12_isName_225 rfl rfl ?_
                    refine q_gl (K := 9) (q := 229) dX12_isName_226 rfl cl_12 (by decide) tw_1091 rfl rfl ?_
                    refine x_ldc2 (v := 1919905638) (q := 232) dX12_isName_229 rfl tw_1389 ?_
                    refine x_lcmp (q := 233) dX12_isName_232 rfl ?_
                    refine x_if_ne (t := 240) (q := 236) dX12_isName_233 (by decide) rfl (fun c233 => ?_) (fun c233 => ?_)
                    · refine x_iconst (0) (q := 241) dX12_isName_240 rfl (by decide) ?_
                      have hk : kw T n s.2.2 = 20 := by
                        have := kw_le T n s.2.2
                        have g134 : ¬ kw T n s.2.2 = 3 := fun z => c134 ((wq8 (i := 3) (by decide) k2 hw rfl).mpr z)
                        have g145 : ¬ kw T n s.2.2 = 19 := fun z => c145 ((wq8 (i := 19) (by decide) k2 hw rfl).mpr z)
                        have g156 : ¬ kw T n s.2.2 = 4 := fun z => c156 ((wq8 (i := 4) (by decide) k2 hw rfl).mpr z)
                        have g167 : ¬ kw T n s.2.2 = 5 := fun z => c167 ((wq8 (i := 5) (by decide) k2 hw rfl).mpr z)
                        have g178 : ¬ kw T n s.2.2 = 6 := fun z => c178 ((wq8 (i := 6) (by decide) k2 hw rfl).mpr z)
                        have g189 : ¬ kw T n s.2.2 = 7 := fun z => c189 ((wq8 (i := 7) (by decide) k2 hw rfl).mpr z)
                        have g200 : ¬ kw T n s.2.2 = 8 := fun z => c200 ((wq8 (i := 8) (by decide) k2 hw rfl).mpr z)
                        have g211 : ¬ kw T n s.2.2 = 9 := fun z => c211 ((wq8 (i := 9) (by decide) k2 hw rfl).mpr z)
                        have g222 : ¬ kw T n s.2.2 = 10 := fun z => c222 ((wq8 (i := 10) (by decide) k2 hw rfl).mpr z)
                        have g233 : ¬ kw T n s.2.2 = 11 := fun z => c233 ((wq8 (i := 11) (by decide) k2 hw rfl).mpr z)
                        omega
                      rw [hk]
                      exact l_iN_00 r x2
                    · refine x_iconst (1) (q := 237) dX12_isName_236 rfl (by decide) ?_
                      refine x_goto (t := 241) dX12_isName_237 (by decide) ?_
                      have hk : ¬ kw T n s.2.2 = 20 := by
                        first
                        | (have g := (wq8 (i := 3) (by decide) k2 hw rfl).mp c134; omega)
                        | (have g := (wq8 (i := 19) (by decide) k2 hw rfl).mp c145; omega)
                        | (have g := (wq8 (i := 4) (by decide) k2 hw rfl).mp c156; omega)
                        | (have g := (wq8 (i := 5) (by decide) k2 hw rfl).mp c167; omega)
                        | (have g := (wq8 (i := 6) (by decide) k2 hw rfl).mp c178; omega)
                        | (have g := (wq8 (i := 7) (by decide) k2 hw rfl).mp c189; omega)
                        | (have g := (wq8 (i := 8) (by decide) k2 hw rfl).mp c200; omega)
                        | (have g := (wq8 (i := 9) (by decide) k2 hw rfl).mp c211; omega)
                        | (have g := (wq8 (i := 10) (by decide) k2 hw rfl).mp c222; omega)
                        | (have g := (wq8 (i := 11) (by decide) k2 hw rfl).mp c233; omega)
                      rw [if_neg hk]
                      exact l_iN_01 r x2
set_option maxRecDepth 100000 in
theorem l_iN1_1 {T : Nat → Nat} {n : Nat} (r : MR) {M : MI} {J : MJ} {s : Nat × Nat × Nat} (h : PM T n s M J) (h0 : s.1 = 0) (k2 : kd T n s.2.2 = 2) (x2 : Option Value) : Wq MX12_isName 126 [some (.ref 100), some (.int 1), x2] [] M r J (Rt (some (.int 0)) M r J) := by
  have hL := h.2.2.2.2.2.2 h0
  have hw := hL.2.2.2.2 k2
  refine x_aload_n (q := 127) dX12_isName_126 rfl rfl ?_
  refine q_gl (K := 9) (q := 130) dX12_isName_127 rfl cl_12 (by decide) tw_1091 rfl rfl ?_
  refine x_ldc2 (v := 1936484720) (q := 133) dX12_isName_130 rfl tw_1380 ?_
  refine x_lcmp (q := 134) dX12_isName_133 rfl ?_
  refine x_if_eq (t := 236) (q := 137) dX12_isName_134 (by decide) rfl (fun c134 => ?_) (fun c134 => ?_)
  · refine x_iconst (1) (q := 237) dX12_isName_236 rfl (by decide) ?_
    refine x_goto (t := 241) dX12_isName_237 (by decide) ?_
    exact l_iN_11 r x2
  · refine x_aload_n (q := 138) dX12_isName_137 rfl rfl ?_
    refine q_gl (K := 9) (q := 141) dX12_isName_138 rfl cl_12 (by decide) tw_1091 rfl rfl ?_
    refine x_ldc2 (v := 131277443786868) (q := 144) dX12_isName_141 rfl tw_1381 ?_
    refine x_lcmp (q := 145) dX12_isName_144 rfl ?_
    refine x_if_eq (t := 236) (q := 148) dX12_isName_145 (by decide) rfl (fun c145 => ?_) (fun c145 => ?_)
    · refine x_iconst (1) (q := 237) dX12_isName_236 rfl (by decide) ?_
      refine x_goto (t := 241) dX12_isName_237 (by decide) ?_
      exact l_iN_11 r x2
    · refine x_aload_n (q := 149) dX12_isName_148 rfl rfl ?_
      refine q_gl (K := 9) (q := 152) dX12_isName_149 rfl cl_12 (by decide) tw_1091 rfl rfl ?_
      refine x_ldc2 (v := 1667329132) (q := 155) dX12_isName_152 rfl tw_1382 ?_
      refine x_lcmp (q := 156) dX12_isName_155 rfl ?_
      refine x_if_eq (t := 236) (q := 159) dX12_isName_156 (by decide) rfl (fun c156 => ?_) (fun c156 => ?_)
      · refine x_iconst (1) (q := 237) dX12_isName_236 rfl (by decide) ?_
        refine x_goto (t := 241) dX12_isName_237 (by decide) ?_
        exact l_iN_11 r x2
      · refine x_aload_n (q := 160) dX12_isName_159 rfl rfl ?_
        refine q_gl (K := 9) (q := 163) dX12_isName_160 rfl cl_12 (by decide) tw_1091 rfl rfl ?_
        refine x_ldc2 (v := 1751216749) (q := 166) dX12_isName_163 rfl tw_1383 ?_
        refine x_lcmp (q := 167) dX12_isName_166 rfl ?_
        refine x_if_eq (t := 236) (q := 170) dX12_isName_167 (by decide) rfl (fun c167 => ?_) (fun c167 => ?_)
        · refine x_iconst (1) (q := 237) dX12_isName_236 rfl (by decide) ?_
          refine x_goto (t := 241) dX12_isName_237 (by decide) ?_
          exact l_iN_11 r x2
        · refine x_aload_n (q := 171) dX12_isName_170 rfl rfl ?_
          refine q_gl (K := 9) (q := 174) dX12_isName_171 rfl cl_12 (by decide) tw_1091 rfl rfl ?_
          refine x_ldc2 (v := 431198596980) (q := 177) dX12_isName_174 rfl tw_1384 ?_
          refine x_lcmp (q := 178) dX12_isName_177 rfl ?_
          refine x_if_eq (t := 236) (q := 181) dX12_isName_178 (by decide) rfl (fun c178 => ?_) (fun c178 => ?_)
          · refine x_iconst (1) (q := 237) dX12_isName_236 rfl (by decide) ?_
            refine x_goto (t := 241) dX12_isName_237 (by decide) ?_
            exact l_iN_11 r x2
          · refine x_aload_n (q := 182) dX12_isName_181 rfl rfl ?_
            refine q_gl (K := 9) (q := 185) dX12_isName_182 rfl cl_12 (by decide) tw_1091 rfl rfl ?_
            refine x_ldc2 (v := 495874699877) (q := 188) dX12_isName_185 rfl tw_1385 ?_
            refine x_lcmp (q := 189) dX12_isName_188 rfl ?_
            refine x_if_eq (t := 236) (q := 192) dX12_isName_189 (by decide) rfl (fun c189 => ?_) (fun c189 => ?_)
            · refine x_iconst (1) (q := 237) dX12_isName_236 rfl (by decide) ?_
              refine x_goto (t := 241) dX12_isName_237 (by decide) ?_
              exact l_iN_11 r x2
            · refine x_aload_n (q := 193) dX12_isName_192 rfl rfl ?_
              refine q_gl (K := 9) (q := 196) dX12_isName_193 rfl cl_12 (by decide) tw_1091 rfl rfl ?_
              refine x_ldc2 (v := 444300620659) (q := 199) dX12_isName_196 rfl tw_1386 ?_
              refine x_lcmp (q := 200) dX12_isName_199 rfl ?_
              refine x_if_eq (t := 236) (q := 203) dX12_isName_200 (by decide) rfl (fun c200 => ?_) (fun c200 => ?_)
              · refine x_iconst (1) (q := 237) dX12_isName_236 rfl (by decide) ?_
                refine x_goto (t := 241) dX12_isName_237 (by decide) ?_
                exact l_iN_11 r x2
              · refine x_aload_n (q := 204) dX12_isName_203 rfl rfl ?_
                refine q_gl (K := 9) (q := 207) dX12_isName_204 rfl cl_12 (by decide) tw_1091 rfl rfl ?_
                refine x_ldc2 (v := 1919902052) (q := 210) dX12_isName_207 rfl tw_1387 ?_
                refine x_lcmp (q := 211) dX12_isName_210 rfl ?_
                refine x_if_eq (t := 236) (q := 214) dX12_isName_211 (by decide) rfl (fun c211 => ?_) (fun c211 => ?_)
                · refine x_iconst (1) (q := 237) dX12_isName_236 rfl (by decide) ?_
                  refine x_goto (t := 241) dX12_isName_237 (by decide) ?_
                  exact l_iN_11 r x2
                · refine x_aload_n (q := 215) dX12_isName_214 rfl rfl ?_
                  refine q_gl (K := 9) (q := 218) dX12_isName_215 rfl cl_12 (by decide) tw_1091 rfl rfl ?_
                  refine x_ldc2 (v := 108243533981541) (q := 221) dX12_isName_218 rfl tw_1388 ?_
                  refine x_lcmp (q := 222) dX12_isName_221 rfl ?_
                  refine x_if_eq (t := 236) (q := 225) dX12_isName_222 (by decide) rfl (fun c222 => ?_) (fun c222 => ?_)
                  · refine x_iconst (1) (q := 237) dX12_isName_236 rfl (by decide) ?_
                    refine x_goto (t := 241) dX12_isName_237 (by decide) ?_
                    exact l_iN_11 r x2
                  · refine x_aload_n (q := 226) dX12_isName_225 rfl rfl ?_
                    refine q_gl (K := 9) (q := 229) dX12_isName_226 rfl cl_12 (by decide) tw_1091 rfl rfl ?_
                    refine x_ldc2 (v := 1919905638) (q := 232) dX12_isName_229 rfl tw_1389 ?_
                    refine x_lcmp (q := 233) dX12_isName_232 rfl ?_
                    refine x_if_ne (t := 240) (q := 236) dX12_isName_233 (by decide) rfl (fun c233 => ?_) (fun c233 => ?_)
                    · refine x_iconst (0) (q := 241) dX12_isName_240 rfl (by decide) ?_
                      exact l_iN_10 r x2
                    · refine x_iconst (1) (q := 237) dX12_isName_236 rfl (by decide) ?_
                      refine x_goto (t := 241) dX12_isName_237 (by decide) ?_
                      exact l_iN_11 r x2
set_option maxRecDepth 100000 in
theorem l_iN2 {T : Nat → Nat} {n : Nat} (r : MR) {M : MI} {J : MJ} {s : Nat × Nat × Nat} (h : PM T n s M J) (h0 : s.1 = 0) (k2 : kd T n s.2.2 = 2) (x1 x2 : Option Value) : Wq MX12_isName 10 [some (.ref 100), x1, x2] [] M r J (Rt (some (.int (if kw T n s.2.2 = 20 then 1 else 0))) M r J) := by
  have hL := h.2.2.2.2.2.2 h0
  have hw := hL.2.2.2.2 k2
  refine x_aload_n (q := 11) dX12_isName_10 rfl rfl ?_
  refine q_gl (K := 9) (q := 14) dX12_isName_11 rfl cl_12 (by decide) tw_1091 rfl rfl ?_
  refine x_ldc2 (v := 2036429412) (q := 17) dX12_isName_14 rfl tw_1358 ?_
  refine x_lcmp (q := 18) dX12_isName_17 rfl ?_
  refine x_if_eq (t := 120) (q := 21) dX12_isName_18 (by decide) rfl (fun c18 => ?_) (fun c18 => ?_)
  · refine x_iconst (1) (q := 121) dX12_isName_120 rfl (by decide) ?_
    refine x_goto (t := 125) dX12_isName_121 (by decide) ?_
    refine x_istore_n (L2 := [some (.ref 100), some (.int 1), x2]) (q := 126) dX12_isName_125 rfl (by decide) rfl rfl ?_
    have hk : ¬ kw T n s.2.2 = 20 := by
      first
      | (have g := (wq8 (i := 0) (by decide) k2 hw rfl).mp c18; omega)
      | (have g := (wq8 (i := 12) (by decide) k2 hw rfl).mp c29; omega)
      | (have g := (wq8 (i := 13) (by decide) k2 hw rfl).mp c40; omega)
      | (have g := (wq8 (i := 14) (by decide) k2 hw rfl).mp c51; omega)
      | (have g := (wq8 (i := 1) (by decide) k2 hw rfl).mp c62; omega)
      | (have g := (wq8 (i := 15) (by decide) k2 hw rfl).mp c73; omega)
      | (have g := (wq8 (i := 2) (by decide) k2 hw rfl).mp c84; omega)
      | (have g := (wq8 (i := 16) (by decide) k2 hw rfl).mp c95; omega)
      | (have g := (wq8 (i := 17) (by decide) k2 hw rfl).mp c106; omega)
      | (have g := (wq8 (i := 18) (by decide) k2 hw rfl).mp c117; omega)
    rw [if_neg hk]
    exact l_iN1_1 r h h0 k2 x2
  · refine x_aload_n (q := 22) dX12_isName_21 rfl rfl ?_
    refine q_gl (K := 9) (q := 25) dX12_isName_22 rfl cl_12 (by decide) tw_1091 rfl rfl ?_
    refine x_ldc2 (v := 495740481637) (q := 28) dX12_isName_25 rfl tw_1371 ?_
    refine x_lcmp (q := 29) dX12_isName_28 rfl ?_
    refine x_if_eq (t := 120) (q := 32) dX12_isName_29 (by decide) rfl (fun c29 => ?_) (fun c29 => ?_)
    · refine x_iconst (1) (q := 121) dX12_isName_120 rfl (by decide) ?_
      refine x_goto (t := 125) dX12_isName_121 (by decide) ?_
      refine x_istore_n (L2 := [some (.ref 100), some (.int 1), x2]) (q := 126) dX12_isName_125 rfl (by decide) rfl rfl ?_
      have hk : ¬ kw T n s.2.2 = 20 := by
        first
        | (have g := (wq8 (i := 0) (by decide) k2 hw rfl).mp c18; omega)
        | (have g := (wq8 (i := 12) (by decide) k2 hw rfl).mp c29; omega)
        | (have g := (wq8 (i := 13) (by decide) k2 hw rfl).mp c40; omega)
        | (have g := (wq8 (i := 14) (by decide) k2 hw rfl).mp c51; omega)
        | (have g := (wq8 (i := 1) (by decide) k2 hw rfl).mp c62; omega)
        | (have g := (wq8 (i := 15) (by decide) k2 hw rfl).mp c73; omega)
        | (have g := (wq8 (i := 2) (by decide) k2 hw rfl).mp c84; omega)
        | (have g := (wq8 (i := 16) (by decide) k2 hw rfl).mp c95; omega)
        | (have g := (wq8 (i := 17) (by decide) k2 hw rfl).mp c106; omega)
        | (have g := (wq8 (i := 18) (by decide) k2 hw rfl).mp c117; omega)
      rw [if_neg hk]
      exact l_iN1_1 r h h0 k2 x2
    · refine x_aload_n (q := 33) dX12_isName_32 rfl rfl ?_
      refine q_gl (K := 9) (q := 36) dX12_isName_33 rfl cl_12 (by decide) tw_1091 rfl rfl ?_
      refine x_ldc2 (v := 32776859953817955) (q := 39) dX12_isName_36 rfl tw_1372 ?_
      refine x_lcmp (q := 40) dX12_isName_39 rfl ?_
      refine x_if_eq (t := 120) (q := 43) dX12_isName_40 (by decide) rfl (fun c40 => ?_) (fun c40 => ?_)
      · refine x_iconst (1) (q := 121) dX12_isName_120 rfl (by decide) ?_
        refine x_goto (t := 125) dX12_isName_121 (by decide) ?_
        refine x_istore_n (L2 := [some (.ref 100), some (.int 1), x2]) (q := 126) dX12_isName_125 rfl (by decide) rfl rfl ?_
        have hk : ¬ kw T n s.2.2 = 20 := by
          first
          | (have g := (wq8 (i := 0) (by decide) k2 hw rfl).mp c18; omega)
          | (have g := (wq8 (i := 12) (by decide) k2 hw rfl).mp c29; omega)
          | (have g := (wq8 (i := 13) (by decide) k2 hw rfl).mp c40; omega)
          | (have g := (wq8 (i := 14) (by decide) k2 hw rfl).mp c51; omega)
          | (have g := (wq8 (i := 1) (by decide) k2 hw rfl).mp c62; omega)
          | (have g := (wq8 (i := 15) (by decide) k2 hw rfl).mp c73; omega)
          | (have g := (wq8 (i := 2) (by decide) k2 hw rfl).mp c84; omega)
          | (have g := (wq8 (i := 16) (by decide) k2 hw rfl).mp c95; omega)
          | (have g := (wq8 (i := 17) (by decide) k2 hw rfl).mp c106; omega)
          | (have g := (wq8 (i := 18) (by decide) k2 hw rfl).mp c117; omega)
        rw [if_neg hk]
        exact l_iN1_1 r h h0 k2 x2
      · refine x_aload_n (q := 44) dX12_isName_43 rfl rfl ?_
        refine q_gl (K := 9) (q := 47) dX12_isName_44 rfl cl_12 (by decide) tw_1091 rfl rfl ?_
        refine x_ldc2 (v := 2002874989) (q := 50) dX12_isName_47 rfl tw_1373 ?_
        refine x_lcmp (q := 51) dX12_isName_50 rfl ?_
        refine x_if_eq (t := 120) (q := 54) dX12_isName_51 (by decide) rfl (fun c51 => ?_) (fun c51 => ?_)
        · refine x_iconst (1) (q := 121) dX12_isName_120 rfl (by decide) ?_
          refine x_goto (t := 125) dX12_isName_121 (by decide) ?_
          refine x_istore_n (L2 := [some (.ref 100), some (.int 1), x2]) (q := 126) dX12_isName_125 rfl (by decide) rfl rfl ?_
          have hk : ¬ kw T n s.2.2 = 20 := by
            first
            | (have g := (wq8 (i := 0) (by decide) k2 hw rfl).mp c18; omega)
            | (have g := (wq8 (i := 12) (by decide) k2 hw rfl).mp c29; omega)
            | (have g := (wq8 (i := 13) (by decide) k2 hw rfl).mp c40; omega)
            | (have g := (wq8 (i := 14) (by decide) k2 hw rfl).mp c51; omega)
            | (have g := (wq8 (i := 1) (by decide) k2 hw rfl).mp c62; omega)
            | (have g := (wq8 (i := 15) (by decide) k2 hw rfl).mp c73; omega)
            | (have g := (wq8 (i := 2) (by decide) k2 hw rfl).mp c84; omega)
            | (have g := (wq8 (i := 16) (by decide) k2 hw rfl).mp c95; omega)
            | (have g := (wq8 (i := 17) (by decide) k2 hw rfl).mp c106; omega)
            | (have g := (wq8 (i := 18) (by decide) k2 hw rfl).mp c117; omega)
          rw [if_neg hk]
          exact l_iN1_1 r h h0 k2 x2
        · refine x_aload_n (q := 55) dX12_isName_54 rfl rfl ?_
          refine q_gl (K := 9) (q := 58) dX12_isName_55 rfl cl_12 (by decide) tw_1091 rfl rfl ?_
          refine x_ldc2 (v := 7823737) (q := 61) dX12_isName_58 rfl tw_1374 ?_
          refine x_lcmp (q := 62) dX12_isName_61 rfl ?_
          refine x_if_eq (t := 120) (q := 65) dX12_isName_62 (by decide) rfl (fun c62 => ?_) (fun c62 => ?_)
          · refine x_iconst (1) (q := 121) dX12_isName_120 rfl (by decide) ?_
            refine x_goto (t := 125) dX12_isName_121 (by decide) ?_
            refine x_istore_n (L2 := [some (.ref 100), some (.int 1), x2]) (q := 126) dX12_isName_125 rfl (by decide) rfl rfl ?_
            have hk : ¬ kw T n s.2.2 = 20 := by
              first
              | (have g := (wq8 (i := 0) (by decide) k2 hw rfl).mp c18; omega)
              | (have g := (wq8 (i := 12) (by decide) k2 hw rfl).mp c29; omega)
              | (have g := (wq8 (i := 13) (by decide) k2 hw rfl).mp c40; omega)
              | (have g := (wq8 (i := 14) (by decide) k2 hw rfl).mp c51; omega)
              | (have g := (wq8 (i := 1) (by decide) k2 hw rfl).mp c62; omega)
              | (have g := (wq8 (i := 15) (by decide) k2 hw rfl).mp c73; omega)
              | (have g := (wq8 (i := 2) (by decide) k2 hw rfl).mp c84; omega)
              | (have g := (wq8 (i := 16) (by decide) k2 hw rfl).mp c95; omega)
              | (have g := (wq8 (i := 17) (by decide) k2 hw rfl).mp c106; omega)
              | (have g := (wq8 (i := 18) (by decide) k2 hw rfl).mp c117; omega)
            rw [if_neg hk]
            exact l_iN1_1 r h h0 k2 x2
          · refine x_aload_n (q := 66) dX12_isName_65 rfl rfl ?_
            refine q_gl (K := 9) (q := 69) dX12_isName_66 rfl cl_12 (by decide) tw_1091 rfl rfl ?_
            refine x_ldc2 (v := 499850634611) (q := 72) dX12_isName_69 rfl tw_1375 ?_
            refine x_lcmp (q := 73) dX12_isName_72 rfl ?_
            refine x_if_eq (t := 120) (q := 76) dX12_isName_73 (by decide) rfl (fun c73 => ?_) (fun c73 => ?_)
            · refine x_iconst (1) (q := 121) dX12_isName_120 rfl (by decide) ?_
              refine x_goto (t := 125) dX12_isName_121 (by decide) ?_
              refine x_istore_n (L2 := [some (.ref 100), some (.int 1), x2]) (q := 126) dX12_isName_125 rfl (by decide) rfl rfl ?_
              have hk : ¬ kw T n s.2.2 = 20 := by
                first
                | (have g := (wq8 (i := 0) (by decide) k2 hw rfl).mp c18; omega)
                | (have g := (wq8 (i := 12) (by decide) k2 hw rfl).mp c29; omega)
                | (have g := (wq8 (i := 13) (by decide) k2 hw rfl).mp c40; omega)
                | (have g := (wq8 (i := 14) (by decide) k2 hw rfl).mp c51; omega)
                | (have g := (wq8 (i := 1) (by decide) k2 hw rfl).mp c62; omega)
                | (have g := (wq8 (i := 15) (by decide) k2 hw rfl).mp c73; omega)
                | (have g := (wq8 (i := 2) (by decide) k2 hw rfl).mp c84; omega)
                | (have g := (wq8 (i := 16) (by decide) k2 hw rfl).mp c95; omega)
                | (have g := (wq8 (i := 17) (by decide) k2 hw rfl).mp c106; omega)
                | (have g := (wq8 (i := 18) (by decide) k2 hw rfl).mp c117; omega)
              rw [if_neg hk]
              exact l_iN1_1 r h h0 k2 x2
            · refine x_aload_n (q := 77) dX12_isName_76 rfl rfl ?_
              refine q_gl (K := 9) (q := 80) dX12_isName_77 rfl cl_12 (by decide) tw_1091 rfl rfl ?_
              refine x_ldc2 (v := 1752135026) (q := 83) dX12_isName_80 rfl tw_1376 ?_
              refine x_lcmp (q := 84) dX12_isName_83 rfl ?_
              refine x_if_eq (t := 120) (q := 87) dX12_isName_84 (by decide) rfl (fun c84 => ?_) (fun c84 => ?_)
              · refine x_iconst (1) (q := 121) dX12_isName_120 rfl (by decide) ?_
                refine x_goto (t := 125) dX12_isName_121 (by decide) ?_
                refine x_istore_n (L2 := [some (.ref 100), some (.int 1), x2]) (q := 126) dX12_isName_125 rfl (by decide) rfl rfl ?_
                have hk : ¬ kw T n s.2.2 = 20 := by
                  first
                  | (have g := (wq8 (i := 0) (by decide) k2 hw rfl).mp c18; omega)
                  | (have g := (wq8 (i := 12) (by decide) k2 hw rfl).mp c29; omega)
                  | (have g := (wq8 (i := 13) (by decide) k2 hw rfl).mp c40; omega)
                  | (have g := (wq8 (i := 14) (by decide) k2 hw rfl).mp c51; omega)
                  | (have g := (wq8 (i := 1) (by decide) k2 hw rfl).mp c62; omega)
                  | (have g := (wq8 (i := 15) (by decide) k2 hw rfl).mp c73; omega)
                  | (have g := (wq8 (i := 2) (by decide) k2 hw rfl).mp c84; omega)
                  | (have g := (wq8 (i := 16) (by decide) k2 hw rfl).mp c95; omega)
                  | (have g := (wq8 (i := 17) (by decide) k2 hw rfl).mp c106; omega)
                  | (have g := (wq8 (i := 18) (by decide) k2 hw rfl).mp c117; omega)
                rw [if_neg hk]
                exact l_iN1_1 r h h0 k2 x2
              · refine x_aload_n (q := 88) dX12_isName_87 rfl rfl ?_
                refine q_gl (K := 9) (q := 91) dX12_isName_88 rfl cl_12 (by decide) tw_1091 rfl rfl ?_
                refine x_ldc2 (v := 1717660780) (q := 94) dX12_isName_91 rfl tw_1377 ?_
                refine x_lcmp (q := 95) dX12_isName_94 rfl ?_
                refine x_if_eq (t := 120) (q := 98) dX12_isName_95 (by decide) rfl (fun c95 => ?_) (fun c95 => ?_)
                · refine x_iconst (1) (q := 121) dX12_isName_120 rfl (by decide) ?_
                  refine x_goto (t := 125) dX12_isName_121 (by decide) ?_
                  refine x_istore_n (L2 := [some (.ref 100), some (.int 1), x2]) (q := 126) dX12_isName_125 rfl (by decide) rfl rfl ?_
                  have hk : ¬ kw T n s.2.2 = 20 := by
                    first
                    | (have g := (wq8 (i := 0) (by decide) k2 hw rfl).mp c18; omega)
                    | (have g := (wq8 (i := 12) (by decide) k2 hw rfl).mp c29; omega)
                    | (have g := (wq8 (i := 13) (by decide) k2 hw rfl).mp c40; omega)
                    | (have g := (wq8 (i := 14) (by decide) k2 hw rfl).mp c51; omega)
                    | (have g := (wq8 (i := 1) (by decide) k2 hw rfl).mp c62; omega)
                    | (have g := (wq8 (i := 15) (by decide) k2 hw rfl).mp c73; omega)
                    | (have g := (wq8 (i := 2) (by decide) k2 hw rfl).mp c84; omega)
                    | (have g := (wq8 (i := 16) (by decide) k2 hw rfl).mp c95; omega)
                    | (have g := (wq8 (i := 17) (by decide) k2 hw rfl).mp c106; omega)
                    | (have g := (wq8 (i := 18) (by decide) k2 hw rfl).mp c117; omega)
                  rw [if_neg hk]
                  exact l_iN1_1 r h h0 k2 x2
                · refine x_aload_n (q := 99) dX12_isName_98 rfl rfl ?_
                  refine q_gl (K := 9) (q := 102) dX12_isName_99 rfl cl_12 (by decide) tw_1091 rfl rfl ?_
                  refine x_ldc2 (v := 1952804208) (q := 105) dX12_isName_102 rfl tw_1378 ?_
                  refine x_lcmp (q := 106) dX12_isName_105 rfl ?_
                  refine x_if_eq (t := 120) (q := 109) dX12_isName_106 (by decide) rfl (fun c106 => ?_) (fun c106 => ?_)
                  · refine x_iconst (1) (q := 121) dX12_isName_120 rfl (by decide) ?_
                    refine x_goto (t := 125) dX12_isName_121 (by decide) ?_
                    refine x_istore_n (L2 := [some (.ref 100), some (.int 1), x2]) (q := 126) dX12_isName_125 rfl (by decide) rfl rfl ?_
                    have hk : ¬ kw T n s.2.2 = 20 := by
                      first
                      | (have g := (wq8 (i := 0) (by decide) k2 hw rfl).mp c18; omega)
                      | (have g := (wq8 (i := 12) (by decide) k2 hw rfl).mp c29; omega)
                      | (have g := (wq8 (i := 13) (by decide) k2 hw rfl).mp c40; omega)
                      | (have g := (wq8 (i := 14) (by decide) k2 hw rfl).mp c51; omega)
                      | (have g := (wq8 (i := 1) (by decide) k2 hw rfl).mp c62; omega)
                      | (have g := (wq8 (i := 15) (by decide) k2 hw rfl).mp c73; omega)
                      | (have g := (wq8 (i := 2) (by decide) k2 hw rfl).mp c84; omega)
                      | (have g := (wq8 (i := 16) (by decide) k2 hw rfl).mp c95; omega)
                      | (have g := (wq8 (i := 17) (by decide) k2 hw rfl).mp c106; omega)
                      | (have g := (wq8 (i := 18) (by decide) k2 hw rfl).mp c117; omega)
                    rw [if_neg hk]
                    exact l_iN1_1 r h h0 k2 x2
                  · refine x_aload_n (q := 110) dX12_isName_109 rfl rfl ?_
                    refine q_gl (K := 9) (q := 113) dX12_isName_110 rfl cl_12 (by decide) tw_1091 rfl rfl ?_
                    refine x_ldc2 (v := 7824756) (q := 116) dX12_isName_113 rfl tw_1379 ?_
                    refine x_lcmp (q := 117) dX12_isName_116 rfl ?_
                    refine x_if_ne (t := 124) (q := 120) dX12_isName_117 (by decide) rfl (fun c117 => ?_) (fun c117 => ?_)
                    · refine x_iconst (0) (q := 125) dX12_isName_124 rfl (by decide) ?_
                      refine x_istore_n (L2 := [some (.ref 100), some (.int 0), x2]) (q := 126) dX12_isName_125 rfl (by decide) rfl rfl ?_
                      refine l_iN1_0 r h h0 k2 ?_ x2
                      have g18 : ¬ kw T n s.2.2 = 0 := fun z => c18 ((wq8 (i := 0) (by decide) k2 hw rfl).mpr z)
                      have g29 : ¬ kw T n s.2.2 = 12 := fun z => c29 ((wq8 (i := 12) (by decide) k2 hw rfl).mpr z)
                      have g40 : ¬ kw T n s.2.2 = 13 := fun z => c40 ((wq8 (i := 13) (by decide) k2 hw rfl).mpr z)
                      have g51 : ¬ kw T n s.2.2 = 14 := fun z => c51 ((wq8 (i := 14) (by decide) k2 hw rfl).mpr z)
                      have g62 : ¬ kw T n s.2.2 = 1 := fun z => c62 ((wq8 (i := 1) (by decide) k2 hw rfl).mpr z)
                      have g73 : ¬ kw T n s.2.2 = 15 := fun z => c73 ((wq8 (i := 15) (by decide) k2 hw rfl).mpr z)
                      have g84 : ¬ kw T n s.2.2 = 2 := fun z => c84 ((wq8 (i := 2) (by decide) k2 hw rfl).mpr z)
                      have g95 : ¬ kw T n s.2.2 = 16 := fun z => c95 ((wq8 (i := 16) (by decide) k2 hw rfl).mpr z)
                      have g106 : ¬ kw T n s.2.2 = 17 := fun z => c106 ((wq8 (i := 17) (by decide) k2 hw rfl).mpr z)
                      have g117 : ¬ kw T n s.2.2 = 18 := fun z => c117 ((wq8 (i := 18) (by decide) k2 hw rfl).mpr z)
                      omega
                    · refine x_iconst (1) (q := 121) dX12_isName_120 rfl (by decide) ?_
                      refine x_goto (t := 125) dX12_isName_121 (by decide) ?_
                      refine x_istore_n (L2 := [some (.ref 100), some (.int 1), x2]) (q := 126) dX12_isName_125 rfl (by decide) rfl rfl ?_
                      have hk : ¬ kw T n s.2.2 = 20 := by
                        first
                        | (have g := (wq8 (i := 0) (by decide) k2 hw rfl).mp c18; omega)
                        | (have g := (wq8 (i := 12) (by decide) k2 hw rfl).mp c29; omega)
                        | (have g := (wq8 (i := 13) (by decide) k2 hw rfl).mp c40; omega)
                        | (have g := (wq8 (i := 14) (by decide) k2 hw rfl).mp c51; omega)
                        | (have g := (wq8 (i := 1) (by decide) k2 hw rfl).mp c62; omega)
                        | (have g := (wq8 (i := 15) (by decide) k2 hw rfl).mp c73; omega)
                        | (have g := (wq8 (i := 2) (by decide) k2 hw rfl).mp c84; omega)
                        | (have g := (wq8 (i := 16) (by decide) k2 hw rfl).mp c95; omega)
                        | (have g := (wq8 (i := 17) (by decide) k2 hw rfl).mp c106; omega)
                        | (have g := (wq8 (i := 18) (by decide) k2 hw rfl).mp c117; omega)
                      rw [if_neg hk]
                      exact l_iN1_1 r h h0 k2 x2
set_option maxRecDepth 100000 in
theorem c_isN_2 {T : Nat → Nat} {n : Nat} (r : MR) {M : MI} {J : MJ} {s : Nat × Nat × Nat} (h : PM T n s M J) (h0 : s.1 = 0) (k2 : kd T n s.2.2 = 2) : Cq yX12_isName MX12_isName [.ref 100] M r J (Rt (some (.int (if kw T n s.2.2 = 20 then 1 else 0))) M r J) := by
  have hL := h.2.2.2.2.2.2 h0
  refine cq_of [some (.ref 100), none, none] 2 (by decide +kernel) rfl rfl (Nat.le_of_ble_eq_true rfl) rfl ?_
  refine x_aload_n (q := 1) dX12_isName_0 rfl rfl ?_
  refine q_gi (K := 6) (q := 4) dX12_isName_1 rfl cl_12 (by decide) tw_1088 rfl rfl ?_
  refine x_iconst (1) (q := 5) dX12_isName_4 rfl (by decide) ?_
  refine x_icmp_eq (t := 10) (q := 8) dX12_isName_5 (by decide) rfl (fun c5 => ?_) (fun c5 => absurd c5 (fun z => z ((ms_c 2 hL.2.1 (by decide) rfl).mpr k2)))
  exact l_iN2 r h h0 k2 none none
set_option maxRecDepth 100000 in
theorem c_isN_n {T : Nat → Nat} {n : Nat} (r : MR) {M : MI} {J : MJ} {s : Nat × Nat × Nat} (h : PM T n s M J) (h0 : s.1 = 0) (k2 : ¬ kd T n s.2.2 = 2) : Cq yX12_isName MX12_isName [.ref 100] M r J (Rt (some (.int 0)) M r J) := by
  have hL := h.2.2.2.2.2.2 h0
  refine cq_of [some (.ref 100), none, none] 2 (by decide +kernel) rfl rfl (Nat.le_of_ble_eq_true rfl) rfl ?_
  refine x_aload_n (q := 1) dX12_isName_0 rfl rfl ?_
  refine q_gi (K := 6) (q := 4) dX12_isName_1 rfl cl_12 (by decide) tw_1088 rfl rfl ?_
  refine x_iconst (1) (q := 5) dX12_isName_4 rfl (by decide) ?_
  refine x_icmp_eq (t := 10) (q := 8) dX12_isName_5 (by decide) rfl (fun c5 => absurd c5 (fun z => k2 ((ms_c 2 hL.2.1 (by decide) rfl).mp z))) (fun c5 => ?_)
  refine x_iconst (0) (q := 9) dX12_isName_8 rfl (by decide) ?_
  refine q_zret dX12_isName_9 rfl (Or.inl rfl) ?_
  exact ⟨rfl, rfl, rfl, rfl⟩
theorem c_isN_g {T : Nat → Nat} {n : Nat} (r : MR) {M : MI} {J : MJ} {s : Nat × Nat × Nat} (h : PM T n s M J) (hc : naC T n s) : Cq yX12_isName MX12_isName [.ref 100] M r J (Rt (some (.int 1)) M r J) := by
  have z := c_isN_2 r h hc.1 hc.2.1
  rw [if_pos hc.2.2] at z
  exact z
theorem c_isN_b {T : Nat → Nat} {n : Nat} (r : MR) {M : MI} {J : MJ} {s : Nat × Nat × Nat} (h : PM T n s M J) (h0 : s.1 = 0) (hc : ¬ naC T n s) : Cq yX12_isName MX12_isName [.ref 100] M r J (Rt (some (.int 0)) M r J) := by
  by_cases k2 : kd T n s.2.2 = 2
  · have z := c_isN_2 r h h0 k2
    rw [if_neg (fun w => hc ⟨h0, k2, w⟩)] at z
    exact z
  · exact c_isN_n r h h0 k2
def fdV (J : MJ) (w : Int64) : Nat → Int32
  | 0 => -1
  | k + 1 => if J 102 k = w then nI k else fdV J w k
def MN (T : Nat → Nat) (n : Nat) (A : MI) (yn : Nat) (J : MJ) : Prop := (∀ y, y < yn → kd T n (A 26 y).toNatClampNeg = 2 ∧ J 102 y = lN (w8 T n (A 26 y).toNatClampNeg)) ∧ ∀ y z, y < yn → z < yn → NM T n A y = NM T n A z → y = z
theorem w58 {T : Nat → Nat} {n p q : Nat} : w5 T n p = w5 T n q ↔ w8 T n p = w8 T n q := c_in (T := T) (T' := T) (q := sk T n p) (q' := sk T n q) _ _ w_let w_let
theorem fd_eq {T : Nat → Nat} {n : Nat} {A : MI} {yn : Nat} {J : MJ} (hN : MN T n A yn J) {p : Nat} (k2 : kd T n p = 2) {y : Nat} (hy : y < yn) : J 102 y = lN (w8 T n p) ↔ NM T n A y = w5 T n p := by
  have q := hN.1 y hy
  rw [q.2, lN_inj63 (w8_lt q.1) (w8_lt k2)]
  exact w58.symm
theorem fd_n {T : Nat → Nat} {n : Nat} {A : MI} {yn : Nat} {J : MJ} (hN : MN T n A yn J) {p : Nat} (k2 : kd T n p = 2) : ∀ k, k ≤ yn → (∀ y, y < k → ¬ NM T n A y = w5 T n p) → fdV J (lN (w8 T n p)) k = -1 := by
  intro k
  induction k with
  | zero => intro _ _; rfl
  | succ k ih =>
    intro hk hn
    unfold fdV
    rw [if_neg (fun z => hn k (by omega) ((fd_eq hN k2 (by omega)).mp z))]
    exact ih (by omega) (fun y hy => hn y (by omega))
theorem fd_y {T : Nat → Nat} {n : Nat} {A : MI} {yn : Nat} {J : MJ} (hN : MN T n A yn J) {p : Nat} (k2 : kd T n p = 2) {y : Nat} (hy : NM T n A y = w5 T n p) : ∀ k, k ≤ yn → y < k → fdV J (lN (w8 T n p)) k = nI y := by
  intro k
  induction k with
  | zero => intro _ z; omega
  | succ k ih =>
    intro hk hyk
    unfold fdV
    by_cases e : J 102 k = lN (w8 T n p)
    · rw [if_pos e, hN.2 k y (by omega) (by omega) (((fd_eq hN k2 (by omega)).mp e).trans hy.symm)]
    · rw [if_neg e]
      refine ih (by omega) ?_
      by_cases g : y = k
      · exact absurd ((fd_eq hN k2 (show k < yn by omega)).mpr (g ▸ hy)) e
      · omega
theorem fd_e {T : Nat → Nat} {n : Nat} {A : MI} {yn : Nat} {J : MJ} (hN : MN T n A yn J) (y8 : yn ≤ 8) {p : Nat} (k2 : kd T n p = 2) : (nf T n A (w5 T n p) yn 0 < 8 → fdV J (lN (w8 T n p)) yn = nI (nf T n A (w5 T n p) yn 0) ∧ nf T n A (w5 T n p) yn 0 < yn) ∧ (¬ nf T n A (w5 T n p) yn 0 < 8 → fdV J (lN (w8 T n p)) yn = -1) := by
  have q := nf_le (T := T) (n := n) (A := A) (w := w5 T n p) yn 0 (by omega)
  constructor
  · intro z
    rcases q with q | q
    · exact ⟨fd_y hN k2 q.2.1 yn (Nat.le_refl _) (by omega), by omega⟩
    · omega
  · intro z
    rcases q with q | q
    · omega
    · exact fd_n hN k2 yn (Nat.le_refl _) (fun y hy => q.2 y (Nat.zero_le _) (by omega))
set_option maxRecDepth 100000 in
theorem l_fnd (r : MR) {M : MI} (J : MJ) {yn : Nat} (hy : M 100 33 = nI yn) (y8 : yn ≤ 8) : ∀ (f : Nat) (k : Nat) (_ : k + f = yn), Wq MX12_find 4 [some (.ref 100), some (.int (fdV J (J 100 9) k)), some (.int (nI k))] [] M r J (Rt (some (.int (fdV J (J 100 9) yn))) M r J) := by
  intro f
  induction f with
  | zero =>
    intro k hkf
    refine x_iload_n (q := 5) dX12_find_4 rfl rfl ?_
    refine x_aload_n (q := 6) dX12_find_5 rfl rfl ?_
    refine q_gi (K := 33) (q := 9) dX12_find_6 rfl cl_12 (by decide) tw_1115 rfl rfl ?_
    refine x_icmp_ge (t := 38) (q := 12) dX12_find_9 (by decide) rfl (fun c9 => ?_) (fun c9 => absurd c9 (fun q => q (by rw [hy]; exact nI_le (by omega) (by omega))))
    refine x_iload_n (q := 39) dX12_find_38 rfl rfl ?_
    refine q_iret dX12_find_39 rfl ?_
    rw [show k = yn by omega]
    exact ⟨rfl, rfl, rfl, rfl⟩
  | succ f ih =>
    intro k hkf
    refine x_iload_n (q := 5) dX12_find_4 rfl rfl ?_
    refine x_aload_n (q := 6) dX12_find_5 rfl rfl ?_
    refine q_gi (K := 33) (q := 9) dX12_find_6 rfl cl_12 (by decide) tw_1115 rfl rfl ?_
    refine x_icmp_ge (t := 38) (q := 12) dX12_find_9 (by decide) rfl (fun c9 => absurd c9 (by rw [hy]; exact nI_ge (by omega) (by omega))) (fun c9 => ?_)
    refine x_aload_n (q := 13) dX12_find_12 rfl rfl ?_
    refine q_gr (K := 10) (b := 102) (q := 16) dX12_find_13 rfl cl_12 (by decide) tw_1092 rfl rfl rfl ?_
    refine x_iload_n (q := 17) dX12_find_16 rfl rfl ?_
    refine q_lald (q := 18) dX12_find_17 rfl rfl (vp_in_nI (by omega) (by decide)) ?_
    refine x_aload_n (q := 19) dX12_find_18 rfl rfl ?_
    refine q_gl (K := 9) (q := 22) dX12_find_19 rfl cl_12 (by decide) tw_1091 rfl rfl ?_
    refine x_lcmp (q := 23) dX12_find_22 rfl ?_
    refine x_if_ne (t := 30) (q := 26) dX12_find_23 (by decide) rfl (fun c23 => ?_) (fun c23 => ?_)
    · refine x_iload_n (q := 31) dX12_find_30 rfl rfl ?_
      refine x_nmi (fun v1 ev1 => ?_)
      refine x_istore_n (L2 := [some (.ref 100), some (.int v1), some (.int (nI k))]) (q := 32) dX12_find_31 rfl (by decide) rfl rfl ?_
      obtain ⟨v2, ev2⟩ : ∃ y_ : Int32, y_ = (nI k) + 1 := ⟨_, rfl⟩
      refine x_iinc (v := v2) (L2 := [some (.ref 100), some (.int v1), some (.int v2)]) (q := 35) dX12_find_32 rfl (by decide) rfl rfl (by rw [ev2]; rfl) rfl ?_
      refine x_goto (t := 4) dX12_find_35 (by decide) ?_
      rw [show v2 = nI (k + 1) by rw [ev2, nI_p1]]
      rw [show v1 = fdV J (J 100 9) (k + 1) from ev1.trans (if_neg (fun z => c23 ((lcmp_z _ _).mpr (by rw [nI_clamp (by omega)]; exact z)))).symm]
      exact ih (k + 1) (by omega)
    · refine x_iload_n (q := 27) dX12_find_26 rfl rfl ?_
      refine x_goto (t := 31) dX12_find_27 (by decide) ?_
      refine x_istore_n (L2 := [some (.ref 100), some (.int (nI k)), some (.int (nI k))]) (q := 32) dX12_find_31 rfl (by decide) rfl rfl ?_
      obtain ⟨v3, ev3⟩ : ∃ y_ : Int32, y_ = (nI k) + 1 := ⟨_, rfl⟩
      refine x_iinc (v := v3) (L2 := [some (.ref 100), some (.int (nI k)), some (.int v3)]) (q := 35) dX12_find_32 rfl (by decide) rfl rfl (by rw [ev3]; rfl) rfl ?_
      refine x_goto (t := 4) dX12_find_35 (by decide) ?_
      rw [show v3 = nI (k + 1) by rw [ev3, nI_p1]]
      rw [show nI k = fdV J (J 100 9) (k + 1) from (if_pos (by have z := (lcmp_z _ _).mp c23; rw [nI_clamp (by omega)] at z; exact z)).symm]
      exact ih (k + 1) (by omega)
set_option maxRecDepth 100000 in
theorem c_fnd (r : MR) {M : MI} (J : MJ) {yn : Nat} (hy : M 100 33 = nI yn) (y8 : yn ≤ 8) : Cq yX12_find MX12_find [.ref 100] M r J (Rt (some (.int (fdV J (J 100 9) yn))) M r J) := by
  refine cq_of [some (.ref 100), none, none] 2 (by decide +kernel) rfl rfl (Nat.le_of_ble_eq_true rfl) rfl ?_
  refine x_iconst (-1) (q := 1) dX12_find_0 rfl (by decide) ?_
  refine x_istore_n (L2 := [some (.ref 100), some (.int (-1)), none]) (q := 2) dX12_find_1 rfl (by decide) rfl rfl ?_
  refine x_iconst (0) (q := 3) dX12_find_2 rfl (by decide) ?_
  refine x_istore_n (L2 := [some (.ref 100), some (.int (-1)), some (.int 0)]) (q := 4) dX12_find_3 rfl (by decide) rfl rfl ?_
  exact l_fnd r J hy y8 yn 0 (by omega)
set_option maxRecDepth 100000 in
theorem c_old_f {T : Nat → Nat} {n : Nat} (r : MR) {M : MI} {J : MJ} {s : Nat × Nat × Nat} (h : PM T n s M J) {A : MI} {yn : Nat} (hy : M 100 33 = nI yn) (y8 : yn ≤ 8) (hN : MN T n A yn J) (h0 : ¬ s.1 = 0) (val : Int32) : Cq yX12_old MX12_old [.ref 100] M r J (RMv T n s val M J r) := by
  have q1 := h.2.2.1
  have q2 := h.2.2.2.1
  have q3 := h.2.2.2.2.1
  have q4 := h.2.2.2.2.2.1
  have hn := h.1.1
  refine cq_of [some (.ref 100), none] 1 (by decide +kernel) rfl rfl (Nat.le_of_ble_eq_true rfl) rfl ?_
  refine x_aload_n (q := 1) dX12_old_0 rfl rfl ?_
  refine q_gi (K := 2) (q := 4) dX12_old_1 rfl cl_12 (by decide) tw_1084 rfl rfl ?_
  refine x_if_le (t := 9) (q := 7) dX12_old_4 (by decide) rfl (fun c4 => absurd c4 (fun z => h0 ((f_le q1 q4).mp z))) (fun c4 => ?_)
  refine x_iconst (0) (q := 8) dX12_old_7 rfl (by decide) ?_
  refine q_iret dX12_old_8 rfl ?_
  exact ⟨_, rfl, fun z => absurd z h0, h, FM.rf, rfl⟩
set_option maxRecDepth 100000 in
theorem c_old_b {T : Nat → Nat} {n : Nat} (r : MR) {M : MI} {J : MJ} {s : Nat × Nat × Nat} (h : PM T n s M J) {A : MI} {yn : Nat} (hy : M 100 33 = nI yn) (y8 : yn ≤ 8) (hN : MN T n A yn J) (h0 : s.1 = 0) (hc : ¬ naC T n s) (val : Int32) : Cq yX12_old MX12_old [.ref 100] M r J (RMv T n (rfT T n s) val M J r) := by
  have q1 := h.2.2.1
  have q2 := h.2.2.2.1
  have q3 := h.2.2.2.2.1
  have q4 := h.2.2.2.2.2.1
  have hn := h.1.1
  refine cq_of [some (.ref 100), none] 1 (by decide +kernel) rfl rfl (Nat.le_of_ble_eq_true rfl) rfl ?_
  refine x_aload_n (q := 1) dX12_old_0 rfl rfl ?_
  refine q_gi (K := 2) (q := 4) dX12_old_1 rfl cl_12 (by decide) tw_1084 rfl rfl ?_
  refine x_if_le (t := 9) (q := 7) dX12_old_4 (by decide) rfl (fun c4 => ?_) (fun c4 => absurd c4 (fun z => z ((f_le q1 q4).mpr h0)))
  refine x_aload_n (q := 10) dX12_old_9 rfl rfl ?_
  refine q_callV (ci := 12) (N := 79) (T := TX12) (As := []) (rest := []) (q := 13) dX12_old_10 rfl okX12_find tw_1398 rfl rfl (c_fnd r J hy y8) rfl rfl (Nat.le_of_ble_eq_true rfl) ⟨by decide, by decide⟩ ⟨rfl, rfl⟩ (fun rv_ I_ r_ J_ hv_ => ?_)
  obtain ⟨a1_, a2_, a3_, a4_⟩ := hv_
  rw [a1_, a2_, a3_, a4_]
  show Wq MX12_old 13 [some (.ref 100), none] [.int (fdV J (J 100 9) yn)] M r J _
  refine x_nmi (fun v1 ev1 => ?_)
  refine x_istore_n (L2 := [some (.ref 100), some (.int v1)]) (q := 14) dX12_old_13 rfl (by decide) rfl rfl ?_
  refine x_aload_n (q := 15) dX12_old_14 rfl rfl ?_
  refine q_callV (ci := 12) (N := 79) (T := TX12) (As := []) (rest := []) (q := 18) dX12_old_15 rfl okX12_isName tw_1367 rfl rfl (c_isN_b r h h0 hc) rfl rfl (Nat.le_of_ble_eq_true rfl) ⟨by decide, by decide⟩ ⟨rfl, rfl⟩ (fun rv_ I_ r_ J_ hv_ => ?_)
  obtain ⟨a1_, a2_, a3_, a4_⟩ := hv_
  rw [a1_, a2_, a3_, a4_]
  show Wq MX12_old 18 [some (.ref 100), some (.int v1)] [.int 0] M r J _
  refine x_if_ne (t := 29) (q := 21) dX12_old_18 (by decide) rfl (fun c18 => absurd c18 ((by decide))) (fun c18 => ?_)
  refine x_aload_n (q := 22) dX12_old_21 rfl rfl ?_
  refine x_iconst (2) (q := 23) dX12_old_22 rfl (by decide) ?_
  refine q_callV (ci := 12) (N := 79) (T := TX12) (As := [.int 2]) (rest := []) (q := 26) dX12_old_23 rfl okX12_wrong tw_1390 rfl rfl (c_wr r h (k := 2) (by decide) h0) rfl rfl (Nat.le_of_ble_eq_true rfl) ⟨by decide, by decide⟩ ⟨rfl, rfl⟩ (fun rv_ V r_ K hv_ => ?_)
  obtain ⟨a1_, hV, hF, a3_⟩ := hv_
  rw [a1_, a3_]
  show Wq MX12_old 26 [some (.ref 100), some (.int v1)] [] V r K _
  refine x_goto (t := 38) dX12_old_26 (by decide) ?_
  refine x_aload_n (q := 39) dX12_old_38 rfl rfl ?_
  refine q_gi (K := 2) (q := 42) dX12_old_39 rfl cl_12 (by decide) tw_1084 rfl rfl ?_
  refine x_if_ne (t := 49) (q := 45) dX12_old_42 (by decide) rfl (fun c42 => ?_) (fun c42 => absurd c42 (fun z => rfT_n (f_0 hV.2.2.1 hV.2.2.2.2.2.1 z)))
  refine x_iload_n (q := 50) dX12_old_49 rfl rfl ?_
  refine q_iret dX12_old_50 rfl ?_
  exact ⟨_, rfl, fun z => absurd z rfT_n, hV, hF, rfl⟩
set_option maxRecDepth 100000 in
theorem c_old_o {T : Nat → Nat} {n : Nat} (r : MR) {M : MI} {J : MJ} {s : Nat × Nat × Nat} (h : PM T n s M J) {A : MI} {yn : Nat} (hy : M 100 33 = nI yn) (y8 : yn ≤ 8) (hN : MN T n A yn J) (hc : naC T n s) (hf : ¬ nf T n A (w5 T n s.2.2) yn 0 < 8) (val : Int32) : Cq yX12_old MX12_old [.ref 100] M r J (RMv T n (5, sk T n s.2.2, en T n s.2.2) val M J r) := by
  have q1 := h.2.2.1
  have q2 := h.2.2.2.1
  have q3 := h.2.2.2.2.1
  have q4 := h.2.2.2.2.2.1
  have hn := h.1.1
  have h0 := hc.1
  have hL := h.2.2.2.2.2.2 h0
  have hw : J 100 9 = lN (w8 T n s.2.2) := hL.2.2.2.2 hc.2.1
  have fe := fd_e hN y8 hc.2.1
  have est : rf (if kd T n s.2.2 = 1 then 1 else 5) (sk T n s.2.2) s = (5, sk T n s.2.2, s.2.2) := by rw [if_neg (fun z => absurd (hc.2.1.symm.trans z) (by decide))]; exact rf_p h0
  refine cq_of [some (.ref 100), none] 1 (by decide +kernel) rfl rfl (Nat.le_of_ble_eq_true rfl) rfl ?_
  refine x_aload_n (q := 1) dX12_old_0 rfl rfl ?_
  refine q_gi (K := 2) (q := 4) dX12_old_1 rfl cl_12 (by decide) tw_1084 rfl rfl ?_
  refine x_if_le (t := 9) (q := 7) dX12_old_4 (by decide) rfl (fun c4 => ?_) (fun c4 => absurd c4 (fun z => z ((f_le q1 q4).mpr h0)))
  refine x_aload_n (q := 10) dX12_old_9 rfl rfl ?_
  refine q_callV (ci := 12) (N := 79) (T := TX12) (As := []) (rest := []) (q := 13) dX12_old_10 rfl okX12_find tw_1398 rfl rfl (c_fnd r J hy y8) rfl rfl (Nat.le_of_ble_eq_true rfl) ⟨by decide, by decide⟩ ⟨rfl, rfl⟩ (fun rv_ I_ r_ J_ hv_ => ?_)
  obtain ⟨a1_, a2_, a3_, a4_⟩ := hv_
  rw [a1_, a2_, a3_, a4_]
  show Wq MX12_old 13 [some (.ref 100), none] [.int (fdV J (J 100 9) yn)] M r J _
  refine x_nmi (fun v1 ev1 => ?_)
  refine x_istore_n (L2 := [some (.ref 100), some (.int v1)]) (q := 14) dX12_old_13 rfl (by decide) rfl rfl ?_
  have evv : v1 = fdV J (J 100 9) yn := ev1
  refine x_aload_n (q := 15) dX12_old_14 rfl rfl ?_
  refine q_callV (ci := 12) (N := 79) (T := TX12) (As := []) (rest := []) (q := 18) dX12_old_15 rfl okX12_isName tw_1367 rfl rfl (c_isN_g r h hc) rfl rfl (Nat.le_of_ble_eq_true rfl) ⟨by decide, by decide⟩ ⟨rfl, rfl⟩ (fun rv_ I_ r_ J_ hv_ => ?_)
  obtain ⟨a1_, a2_, a3_, a4_⟩ := hv_
  rw [a1_, a2_, a3_, a4_]
  show Wq MX12_old 18 [some (.ref 100), some (.int v1)] [.int 1] M r J _
  refine x_if_ne (t := 29) (q := 21) dX12_old_18 (by decide) rfl (fun c18 => ?_) (fun c18 => absurd c18 ((by decide)))
  refine x_iload_n (q := 30) dX12_old_29 rfl rfl ?_
  refine x_if_ge (t := 38) (q := 33) dX12_old_30 (by decide) rfl (fun c30 => absurd c30 (fun z => absurd z (by rw [evv, hw, fe.2 hf]; decide))) (fun c30 => ?_)
  refine x_aload_n (q := 34) dX12_old_33 rfl rfl ?_
  refine x_iconst (5) (q := 35) dX12_old_34 rfl (by decide) ?_
  refine q_callV (ci := 12) (N := 79) (T := TX12) (As := [.int 5]) (rest := []) (q := 38) dX12_old_35 rfl okX12_wrong tw_1390 rfl rfl (c_wr r h (k := 5) (by decide) h0) rfl rfl (Nat.le_of_ble_eq_true rfl) ⟨by decide, by decide⟩ ⟨rfl, rfl⟩ (fun rv_ V r_ K hv_ => ?_)
  obtain ⟨a1_, hV, hF, a3_⟩ := hv_
  rw [a1_, a3_]
  show Wq MX12_old 38 [some (.ref 100), some (.int v1)] [] V r K _
  rw [est] at hV
  refine x_aload_n (q := 39) dX12_old_38 rfl rfl ?_
  refine q_gi (K := 2) (q := 42) dX12_old_39 rfl cl_12 (by decide) tw_1084 rfl rfl ?_
  refine x_if_ne (t := 49) (q := 45) dX12_old_42 (by decide) rfl (fun c42 => ?_) (fun c42 => absurd c42 (fun z => absurd (f_0 hV.2.2.1 hV.2.2.2.2.2.1 z) (show ¬ (5 = 0) by decide)))
  refine x_iload_n (q := 50) dX12_old_49 rfl rfl ?_
  refine q_iret dX12_old_50 rfl ?_
  exact ⟨_, rfl, fun z => absurd z (show ¬ (5 = 0) by decide), PM_p hV (show ¬ (5 = 0) by decide) rfl rfl (en_b q3).2, hF, rfl⟩
set_option maxRecDepth 100000 in
theorem c_old_g {T : Nat → Nat} {n : Nat} (r : MR) {M : MI} {J : MJ} {s : Nat × Nat × Nat} (h : PM T n s M J) {A : MI} {yn : Nat} (hy : M 100 33 = nI yn) (y8 : yn ≤ 8) (hN : MN T n A yn J) (hc : naC T n s) (hf : nf T n A (w5 T n s.2.2) yn 0 < 8) : Cq yX12_old MX12_old [.ref 100] M r J (RMv T n (adv T n s) (nI (nf T n A (w5 T n s.2.2) yn 0)) M J r) := by
  have q1 := h.2.2.1
  have q2 := h.2.2.2.1
  have q3 := h.2.2.2.2.1
  have q4 := h.2.2.2.2.2.1
  have hn := h.1.1
  have h0 := hc.1
  have hL := h.2.2.2.2.2.2 h0
  have hw : J 100 9 = lN (w8 T n s.2.2) := hL.2.2.2.2 hc.2.1
  have fe := fd_e hN y8 hc.2.1
  refine cq_of [some (.ref 100), none] 1 (by decide +kernel) rfl rfl (Nat.le_of_ble_eq_true rfl) rfl ?_
  refine x_aload_n (q := 1) dX12_old_0 rfl rfl ?_
  refine q_gi (K := 2) (q := 4) dX12_old_1 rfl cl_12 (by decide) tw_1084 rfl rfl ?_
  refine x_if_le (t := 9) (q := 7) dX12_old_4 (by decide) rfl (fun c4 => ?_) (fun c4 => absurd c4 (fun z => z ((f_le q1 q4).mpr h0)))
  refine x_aload_n (q := 10) dX12_old_9 rfl rfl ?_
  refine q_callV (ci := 12) (N := 79) (T := TX12) (As := []) (rest := []) (q := 13) dX12_old_10 rfl okX12_find tw_1398 rfl rfl (c_fnd r J hy y8) rfl rfl (Nat.le_of_ble_eq_true rfl) ⟨by decide, by decide⟩ ⟨rfl, rfl⟩ (fun rv_ I_ r_ J_ hv_ => ?_)
  obtain ⟨a1_, a2_, a3_, a4_⟩ := hv_
  rw [a1_, a2_, a3_, a4_]
  show Wq MX12_old 13 [some (.ref 100), none] [.int (fdV J (J 100 9) yn)] M r J _
  refine x_nmi (fun v1 ev1 => ?_)
  refine x_istore_n (L2 := [some (.ref 100), some (.int v1)]) (q := 14) dX12_old_13 rfl (by decide) rfl rfl ?_
  have evv : v1 = fdV J (J 100 9) yn := ev1
  refine x_aload_n (q := 15) dX12_old_14 rfl rfl ?_
  refine q_callV (ci := 12) (N := 79) (T := TX12) (As := []) (rest := []) (q := 18) dX12_old_15 rfl okX12_isName tw_1367 rfl rfl (c_isN_g r h hc) rfl rfl (Nat.le_of_ble_eq_true rfl) ⟨by decide, by decide⟩ ⟨rfl, rfl⟩ (fun rv_ I_ r_ J_ hv_ => ?_)
  obtain ⟨a1_, a2_, a3_, a4_⟩ := hv_
  rw [a1_, a2_, a3_, a4_]
  show Wq MX12_old 18 [some (.ref 100), some (.int v1)] [.int 1] M r J _
  refine x_if_ne (t := 29) (q := 21) dX12_old_18 (by decide) rfl (fun c18 => ?_) (fun c18 => absurd c18 ((by decide)))
  refine x_iload_n (q := 30) dX12_old_29 rfl rfl ?_
  refine x_if_ge (t := 38) (q := 33) dX12_old_30 (by decide) rfl (fun c30 => ?_) (fun c30 => absurd c30 (fun z => z (by rw [evv, hw, (fe.1 hf).1]; exact nI_pos' (by omega))))
  refine x_aload_n (q := 39) dX12_old_38 rfl rfl ?_
  refine q_gi (K := 2) (q := 42) dX12_old_39 rfl cl_12 (by decide) tw_1084 rfl rfl ?_
  refine x_if_ne (t := 49) (q := 45) dX12_old_42 (by decide) rfl (fun c42 => absurd c42 (fun z => z (by rw [q1, h0]; rfl))) (fun c42 => ?_)
  refine x_aload_n (q := 46) dX12_old_45 rfl rfl ?_
  refine q_callV (ci := 12) (N := 79) (T := TX12) (As := []) (rest := []) (q := 49) dX12_old_46 rfl okX12_token tw_1340 rfl rfl (c_tokP r h h0 (by rw [hc.2.1]; decide)) rfl rfl (Nat.le_of_ble_eq_true rfl) ⟨by decide, by decide⟩ ⟨rfl, rfl⟩ (fun rv_ V r_ K hv_ => ?_)
  obtain ⟨a1_, hV, hF, a3_⟩ := hv_
  rw [a1_, a3_]
  show Wq MX12_old 49 [some (.ref 100), some (.int v1)] [] V r K _
  refine x_iload_n (q := 50) dX12_old_49 rfl rfl ?_
  refine q_iret dX12_old_50 rfl ?_
  exact ⟨_, rfl, fun _ => by rw [evv, hw, (fe.1 hf).1], hV, hF, rfl⟩
theorem c_old {T : Nat → Nat} {n : Nat} (r : MR) {M : MI} {J : MJ} {s : Nat × Nat × Nat} (h : PM T n s M J) {A : MI} {yn : Nat} (hy : M 100 33 = nI yn) (y8 : yn ≤ 8) (hN : MN T n A yn J) : Cq yX12_old MX12_old [.ref 100] M r J (RMv T n (tyaT T n A yn s) (nI (nf T n A (w5 T n s.2.2) yn 0)) M J r) := by
  by_cases h0 : s.1 = 0
  · by_cases hc : naC T n s
    · have et : tnaT T n s = adv T n s := if_pos hc
      by_cases hf : nf T n A (w5 T n s.2.2) yn 0 < 8
      · rw [show tyaT T n A yn s = adv T n s by unfold tyaT; rw [et, if_pos ⟨h0, hf⟩]]
        exact c_old_g r h hy y8 hN hc hf
      · rw [show tyaT T n A yn s = (5, sk T n s.2.2, en T n s.2.2) by unfold tyaT; rw [et, if_neg (fun z => hf z.2)]; exact rf_p h0]
        exact c_old_o r h hy y8 hN hc hf _
    · have et : tnaT T n s = rfT T n s := if_neg hc
      rw [show tyaT T n A yn s = rfT T n s by unfold tyaT; rw [et, if_neg (fun z => rfT_n z.1)]; exact rf_s rfT_n]
      exact c_old_b r h hy y8 hN h0 hc _
  · have et : tnaT T n s = s := by unfold tnaT; rw [if_neg (fun z => h0 z.1)]; exact rfT_s h0
    rw [show tyaT T n A yn s = s by unfold tyaT; rw [et, if_neg (fun z => h0 z.1)]; exact rf_s h0]
    exact c_old_f r h hy y8 hN h0 _
