theorem enQ_n {T : Nat → Nat} {n q : Nat} (hq : q < n) (hl : dgi (T q) = true) : enQ T n q = dge T n q := by
  unfold enQ; rw [if_neg (by omega), if_neg (dgi_nl hl), if_pos hl]
theorem enQ_o {T : Nat → Nat} {n q : Nat} (hq : q < n) (hl : ¬ ltr (T q) = true) (hd : ¬ dgi (T q) = true) : enQ T n q = q + 1 ∧ kdQ T n q = if T q = 59 then 4 else if T q = 45 then 5 else 1 := by
  exact ⟨by unfold enQ; rw [if_neg (by omega), if_neg hl, if_neg hd], by unfold kdQ; rw [if_neg (by omega), if_neg hl, if_neg hd]⟩
set_option maxRecDepth 100000 in
theorem l_tkd {T : Nat → Nat} {n : Nat} {M : MI} (hT : TXM T n M) (h5 : M 100 5 = nI n) (r : MR) {J : MJ} {q : Nat} (hqn : q ≤ n) {x1 : Int32} (glt : q < n) (hd0 : dgi (T q) = true) : ∀ (f : Nat) (k : Nat) (Y : MI) (K : MJ) (_ : q + k + f = n) (_ : k ≤ n) (_ : Lm q M Y) (_ : JM J K) (_ : Y 100 7 = nI q) (_ : Y 100 8 = nI (v10 T q (min k 4))) (_ : rlp dgi T n (q + k) = dge T n q), Wq MX12_token 144 [some (.ref 100), some (.int x1), some (.int (nI k))] [] Y r K (fun v Z r' K => v = none ∧ MFr M J Z K ∧ MLx T n q Z K ∧ r' = r) := by
  have hn := hT.1
  have hT8 := fun j hj => (hT.2 j hj).1
  intro f
  induction f with
  | zero =>
    intro k Y K hkf hkn hL hJM h7 h8 hwd
    refine x_aload_n (q := 145) dX12_token_144 rfl rfl ?_
    refine x_iload_n (q := 146) dX12_token_145 rfl rfl ?_
    refine q_callV (ci := 12) (N := 79) (T := TX12) (As := [.int (nI k)]) (rest := []) (q := 149) dX12_token_146 rfl okX12_here tw_1344 rfl rfl (c_here hT h5 r K (k := k) hL hqn (by omega)) rfl rfl (Nat.le_of_ble_eq_true rfl) ⟨by decide, by decide⟩ ⟨rfl, rfl⟩ (fun rv_ I_ r_ J_ hv_ => ?_)
    obtain ⟨a1_, a2_, a3_, a4_⟩ := hv_
    rw [a1_, a2_, a3_, a4_]
    show Wq MX12_token 149 [some (.ref 100), some (.int x1), some (.int (nI k))] [.int (hrF T n (q + k))] Y r K _
    refine q_callS (As := [.int (hrF T n (q + k))]) (rest := []) (q := 152) dX12_token_149 rfl okX12_isDigit tw_1351 (c_misD (hrF T n (q + k)) _ r K) rfl rfl (Nat.le_of_ble_eq_true rfl) ⟨by decide, by decide⟩ ⟨rfl, rfl⟩ (fun rv_ I_ r_ J_ hv_ => ?_)
    obtain ⟨a1_, a2_, a3_, a4_⟩ := hv_
    rw [a1_, a2_, a3_, a4_]
    show Wq MX12_token 152 [some (.ref 100), some (.int x1), some (.int (nI k))] [.int (dI (hrF T n (q + k)))] Y r K _
    refine x_if_eq (t := 186) (q := 155) dX12_token_152 (by decide) rfl (fun c152 => ?_) (fun c152 => ?_)
    · have hnl : ¬ (q + k < n ∧ dgi (T (q + k)) = true) := fun z => absurd c152 ((hr_d hT8).mpr z)
      have ew : dge T n q = q + k := by
        rw [← hwd]
        by_cases z : q + k < n
        · exact rlp_0 z (fun y => hnl ⟨z, y⟩)
        · exact rlp_e (by omega)
      refine x_aload_n (q := 187) dX12_token_186 rfl rfl ?_
      refine x_iload_n (q := 188) dX12_token_187 rfl rfl ?_
      refine x_iconst (4) (q := 189) dX12_token_188 rfl (by decide) ?_
      refine x_icmp_gt (t := 203) (q := 192) dX12_token_189 (by decide) rfl (fun c189 => ?_) (fun c189 => ?_)
      · have nb : nbd T n q := by
          unfold nbd
          rw [ew]
          first
          | exact Or.inl (by have := (nI_ltI (a := 4) (b := k) (by decide) (by omega)).mp c189; omega)
          | exact Or.inr ((hr_l hT8).mp c200)
        have ekd := (kdQ_n glt hd0).1 nb
        refine x_iconst (3) (q := 204) dX12_token_203 rfl (by decide) ?_
        refine x_goto (t := 208) dX12_token_204 (by decide) ?_
        refine q_pi (K := 6) (q := 211) dX12_token_208 rfl cl_12 (by decide) tw_1088 rfl rfl rfl rfl (fun I61 eI61 => ?_)
        refine x_goto (t := 237) dX12_token_211 (by decide) ?_
        refine l_tkE hT h5 r hqn (by rw [eI61]; exact hL.u (by decide)) hJM (by rw [eI61, ups (by decide)]; exact h7) ?_ (fun _ => by rw [enQ_n glt hd0, ew]) (fun z => ?_) (fun z => absurd z ?_)
        · rw [eI61, upq, ekd]; rfl
        · rw [ekd] at z; exact absurd z (by decide)
        · rw [ekd]; decide
      · refine x_aload_n (q := 193) dX12_token_192 rfl rfl ?_
        refine x_iload_n (q := 194) dX12_token_193 rfl rfl ?_
        refine q_callV (ci := 12) (N := 79) (T := TX12) (As := [.int (nI k)]) (rest := [.ref 100]) (q := 197) dX12_token_194 rfl okX12_here tw_1344 rfl rfl (c_here hT h5 r K (k := k) hL hqn (by omega)) rfl rfl (Nat.le_of_ble_eq_true rfl) ⟨by decide, by decide⟩ ⟨rfl, rfl⟩ (fun rv_ I_ r_ J_ hv_ => ?_)
        obtain ⟨a1_, a2_, a3_, a4_⟩ := hv_
        rw [a1_, a2_, a3_, a4_]
        show Wq MX12_token 197 [some (.ref 100), some (.int x1), some (.int (nI k))] [.int (hrF T n (q + k)), .ref 100] Y r K _
        refine q_callS (As := [.int (hrF T n (q + k))]) (rest := [.ref 100]) (q := 200) dX12_token_197 rfl okX12_isLetter tw_1348 (c_misL (hrF T n (q + k)) _ r K) rfl rfl (Nat.le_of_ble_eq_true rfl) ⟨by decide, by decide⟩ ⟨rfl, rfl⟩ (fun rv_ I_ r_ J_ hv_ => ?_)
        obtain ⟨a1_, a2_, a3_, a4_⟩ := hv_
        rw [a1_, a2_, a3_, a4_]
        show Wq MX12_token 200 [some (.ref 100), some (.int x1), some (.int (nI k))] [.int (lI (hrF T n (q + k))), .ref 100] Y r K _
        refine x_if_eq (t := 207) (q := 203) dX12_token_200 (by decide) rfl (fun c200 => ?_) (fun c200 => ?_)
        · have nb : ¬ nbd T n q := by
            unfold nbd
            rw [ew]
            rintro (z | z)
            · exact c189 (nI_lt (a := 4) (by omega) (by omega))
            · exact absurd c200 ((hr_l hT8).mpr z)
          have ekd := (kdQ_n glt hd0).2 nb
          refine x_iconst (2) (q := 208) dX12_token_207 rfl (by decide) ?_
          refine q_pi (K := 6) (q := 211) dX12_token_208 rfl cl_12 (by decide) tw_1088 rfl rfl rfl rfl (fun I61 eI61 => ?_)
          refine x_goto (t := 237) dX12_token_211 (by decide) ?_
          refine l_tkE hT h5 r hqn (by rw [eI61]; exact hL.u (by decide)) hJM (by rw [eI61, ups (by decide)]; exact h7) ?_ (fun _ => by rw [enQ_n glt hd0, ew]) (fun z => ?_) (fun z => absurd z ?_)
          · rw [eI61, upq, ekd]; rfl
          · rw [eI61, ups (by decide), h8]
            have k4 : ¬ 4 < k := fun w => nb (Or.inl (by rw [ew]; omega))
            unfold vlQ
            rw [ew, show q + k - q = k by omega, show min k 4 = k by omega]
          · rw [ekd]; decide
        · have nb : nbd T n q := by
            unfold nbd
            rw [ew]
            first
            | exact Or.inl (by have := (nI_ltI (a := 4) (b := k) (by decide) (by omega)).mp c189; omega)
            | exact Or.inr ((hr_l hT8).mp c200)
          have ekd := (kdQ_n glt hd0).1 nb
          refine x_iconst (3) (q := 204) dX12_token_203 rfl (by decide) ?_
          refine x_goto (t := 208) dX12_token_204 (by decide) ?_
          refine q_pi (K := 6) (q := 211) dX12_token_208 rfl cl_12 (by decide) tw_1088 rfl rfl rfl rfl (fun I61 eI61 => ?_)
          refine x_goto (t := 237) dX12_token_211 (by decide) ?_
          refine l_tkE hT h5 r hqn (by rw [eI61]; exact hL.u (by decide)) hJM (by rw [eI61, ups (by decide)]; exact h7) ?_ (fun _ => by rw [enQ_n glt hd0, ew]) (fun z => ?_) (fun z => absurd z ?_)
          · rw [eI61, upq, ekd]; rfl
          · rw [ekd] at z; exact absurd z (by decide)
          · rw [ekd]; decide
    · exact absurd ((hr_d hT8).mp c152).1 (by omega)
  | succ f ih =>
    intro k Y K hkf hkn hL hJM h7 h8 hwd
    refine x_aload_n (q := 145) dX12_token_144 rfl rfl ?_
    refine x_iload_n (q := 146) dX12_token_145 rfl rfl ?_
    refine q_callV (ci := 12) (N := 79) (T := TX12) (As := [.int (nI k)]) (rest := []) (q := 149) dX12_token_146 rfl okX12_here tw_1344 rfl rfl (c_here hT h5 r K (k := k) hL hqn (by omega)) rfl rfl (Nat.le_of_ble_eq_true rfl) ⟨by decide, by decide⟩ ⟨rfl, rfl⟩ (fun rv_ I_ r_ J_ hv_ => ?_)
    obtain ⟨a1_, a2_, a3_, a4_⟩ := hv_
    rw [a1_, a2_, a3_, a4_]
    show Wq MX12_token 149 [some (.ref 100), some (.int x1), some (.int (nI k))] [.int (hrF T n (q + k))] Y r K _
    refine q_callS (As := [.int (hrF T n (q + k))]) (rest := []) (q := 152) dX12_token_149 rfl okX12_isDigit tw_1351 (c_misD (hrF T n (q + k)) _ r K) rfl rfl (Nat.le_of_ble_eq_true rfl) ⟨by decide, by decide⟩ ⟨rfl, rfl⟩ (fun rv_ I_ r_ J_ hv_ => ?_)
    obtain ⟨a1_, a2_, a3_, a4_⟩ := hv_
    rw [a1_, a2_, a3_, a4_]
    show Wq MX12_token 152 [some (.ref 100), some (.int x1), some (.int (nI k))] [.int (dI (hrF T n (q + k)))] Y r K _
    refine x_if_eq (t := 186) (q := 155) dX12_token_152 (by decide) rfl (fun c152 => ?_) (fun c152 => ?_)
    · have hnl : ¬ (q + k < n ∧ dgi (T (q + k)) = true) := fun z => absurd c152 ((hr_d hT8).mpr z)
      have ew : dge T n q = q + k := by
        rw [← hwd]
        by_cases z : q + k < n
        · exact rlp_0 z (fun y => hnl ⟨z, y⟩)
        · exact rlp_e (by omega)
      refine x_aload_n (q := 187) dX12_token_186 rfl rfl ?_
      refine x_iload_n (q := 188) dX12_token_187 rfl rfl ?_
      refine x_iconst (4) (q := 189) dX12_token_188 rfl (by decide) ?_
      refine x_icmp_gt (t := 203) (q := 192) dX12_token_189 (by decide) rfl (fun c189 => ?_) (fun c189 => ?_)
      · have nb : nbd T n q := by
          unfold nbd
          rw [ew]
          first
          | exact Or.inl (by have := (nI_ltI (a := 4) (b := k) (by decide) (by omega)).mp c189; omega)
          | exact Or.inr ((hr_l hT8).mp c200)
        have ekd := (kdQ_n glt hd0).1 nb
        refine x_iconst (3) (q := 204) dX12_token_203 rfl (by decide) ?_
        refine x_goto (t := 208) dX12_token_204 (by decide) ?_
        refine q_pi (K := 6) (q := 211) dX12_token_208 rfl cl_12 (by decide) tw_1088 rfl rfl rfl rfl (fun I61 eI61 => ?_)
        refine x_goto (t := 237) dX12_token_211 (by decide) ?_
        refine l_tkE hT h5 r hqn (by rw [eI61]; exact hL.u (by decide)) hJM (by rw [eI61, ups (by decide)]; exact h7) ?_ (fun _ => by rw [enQ_n glt hd0, ew]) (fun z => ?_) (fun z => absurd z ?_)
        · rw [eI61, upq, ekd]; rfl
        · rw [ekd] at z; exact absurd z (by decide)
        · rw [ekd]; decide
      · refine x_aload_n (q := 193) dX12_token_192 rfl rfl ?_
        refine x_iload_n (q := 194) dX12_token_193 rfl rfl ?_
        refine q_callV (ci := 12) (N := 79) (T := TX12) (As := [.int (nI k)]) (rest := [.ref 100]) (q := 197) dX12_token_194 rfl okX12_here tw_1344 rfl rfl (c_here hT h5 r K (k := k) hL hqn (by omega)) rfl rfl (Nat.le_of_ble_eq_true rfl) ⟨by decide, by decide⟩ ⟨rfl, rfl⟩ (fun rv_ I_ r_ J_ hv_ => ?_)
        obtain ⟨a1_, a2_, a3_, a4_⟩ := hv_
        rw [a1_, a2_, a3_, a4_]
        show Wq MX12_token 197 [some (.ref 100), some (.int x1), some (.int (nI k))] [.int (hrF T n (q + k)), .ref 100] Y r K _
        refine q_callS (As := [.int (hrF T n (q + k))]) (rest := [.ref 100]) (q := 200) dX12_token_197 rfl okX12_isLetter tw_1348 (c_misL (hrF T n (q + k)) _ r K) rfl rfl (Nat.le_of_ble_eq_true rfl) ⟨by decide, by decide⟩ ⟨rfl, rfl⟩ (fun rv_ I_ r_ J_ hv_ => ?_)
        obtain ⟨a1_, a2_, a3_, a4_⟩ := hv_
        rw [a1_, a2_, a3_, a4_]
        show Wq MX12_token 200 [some (.ref 100), some (.int x1), some (.int (nI k))] [.int (lI (hrF T n (q + k))), .ref 100] Y r K _
        refine x_if_eq (t := 207) (q := 203) dX12_token_200 (by decide) rfl (fun c200 => ?_) (fun c200 => ?_)
        · have nb : ¬ nbd T n q := by
            unfold nbd
            rw [ew]
            rintro (z | z)
            · exact c189 (nI_lt (a := 4) (by omega) (by omega))
            · exact absurd c200 ((hr_l hT8).mpr z)
          have ekd := (kdQ_n glt hd0).2 nb
          refine x_iconst (2) (q := 208) dX12_token_207 rfl (by decide) ?_
          refine q_pi (K := 6) (q := 211) dX12_token_208 rfl cl_12 (by decide) tw_1088 rfl rfl rfl rfl (fun I61 eI61 => ?_)
          refine x_goto (t := 237) dX12_token_211 (by decide) ?_
          refine l_tkE hT h5 r hqn (by rw [eI61]; exact hL.u (by decide)) hJM (by rw [eI61, ups (by decide)]; exact h7) ?_ (fun _ => by rw [enQ_n glt hd0, ew]) (fun z => ?_) (fun z => absurd z ?_)
          · rw [eI61, upq, ekd]; rfl
          · rw [eI61, ups (by decide), h8]
            have k4 : ¬ 4 < k := fun w => nb (Or.inl (by rw [ew]; omega))
            unfold vlQ
            rw [ew, show q + k - q = k by omega, show min k 4 = k by omega]
          · rw [ekd]; decide
        · have nb : nbd T n q := by
            unfold nbd
            rw [ew]
            first
            | exact Or.inl (by have := (nI_ltI (a := 4) (b := k) (by decide) (by omega)).mp c189; omega)
            | exact Or.inr ((hr_l hT8).mp c200)
          have ekd := (kdQ_n glt hd0).1 nb
          refine x_iconst (3) (q := 204) dX12_token_203 rfl (by decide) ?_
          refine x_goto (t := 208) dX12_token_204 (by decide) ?_
          refine q_pi (K := 6) (q := 211) dX12_token_208 rfl cl_12 (by decide) tw_1088 rfl rfl rfl rfl (fun I61 eI61 => ?_)
          refine x_goto (t := 237) dX12_token_211 (by decide) ?_
          refine l_tkE hT h5 r hqn (by rw [eI61]; exact hL.u (by decide)) hJM (by rw [eI61, ups (by decide)]; exact h7) ?_ (fun _ => by rw [enQ_n glt hd0, ew]) (fun z => ?_) (fun z => absurd z ?_)
          · rw [eI61, upq, ekd]; rfl
          · rw [ekd] at z; exact absurd z (by decide)
          · rw [ekd]; decide
    · have hl : q + k < n ∧ dgi (T (q + k)) = true := (hr_d hT8).mp c152
      refine x_iload_n (q := 156) dX12_token_155 rfl rfl ?_
      refine x_iconst (4) (q := 157) dX12_token_156 rfl (by decide) ?_
      refine x_icmp_ge (t := 180) (q := 160) dX12_token_157 (by decide) rfl (fun c157 => ?_) (fun c157 => ?_)
      · obtain ⟨v61, ev61⟩ : ∃ y_ : Int32, y_ = (nI k) + 1 := ⟨_, rfl⟩
        refine x_iinc (v := v61) (L2 := [some (.ref 100), some (.int x1), some (.int v61)]) (q := 183) dX12_token_180 rfl (by decide) rfl rfl (by rw [ev61]; rfl) rfl ?_
        refine x_goto (t := 144) dX12_token_183 (by decide) ?_
        rw [show v61 = nI (k + 1) by rw [ev61, nI_p1]]
        refine ih (k + 1) Y _ (by omega) (by omega) hL hJM h7 ?_ (by rw [show q + (k + 1) = q + k + 1 by omega, ← hwd]; exact (rlp_1 hl.1 hl.2).symm)
        rw [h8]; congr 2; have : ¬ k < 4 := fun z => absurd c157 (nI_ge (b := 4) z (by decide)); omega
      · refine x_aload_n (q := 161) dX12_token_160 rfl rfl ?_
        refine x_bipush (10) (q := 163) dX12_token_161 rfl (by decide) ?_
        refine x_aload_n (q := 164) dX12_token_163 rfl rfl ?_
        refine q_gi (K := 8) (q := 167) dX12_token_164 rfl cl_12 (by decide) tw_1090 rfl rfl ?_
        refine x_imul (q := 168) dX12_token_167 rfl ?_
        refine x_aload_n (q := 169) dX12_token_168 rfl rfl ?_
        refine x_iload_n (q := 170) dX12_token_169 rfl rfl ?_
        refine q_callV (ci := 12) (N := 79) (T := TX12) (As := [.int (nI k)]) (rest := [.int (10 * (Y 100 8)), .ref 100]) (q := 173) dX12_token_170 rfl okX12_here tw_1344 rfl rfl (c_here hT h5 r K (k := k) hL hqn (by omega)) rfl rfl (Nat.le_of_ble_eq_true rfl) ⟨by decide, by decide⟩ ⟨rfl, rfl⟩ (fun rv_ I_ r_ J_ hv_ => ?_)
        obtain ⟨a1_, a2_, a3_, a4_⟩ := hv_
        rw [a1_, a2_, a3_, a4_]
        show Wq MX12_token 173 [some (.ref 100), some (.int x1), some (.int (nI k))] [.int (hrF T n (q + k)), .int (10 * (Y 100 8)), .ref 100] Y r K _
        refine x_iadd (q := 174) dX12_token_173 rfl ?_
        refine x_bipush (48) (q := 176) dX12_token_174 rfl (by decide) ?_
        refine x_isub (q := 177) dX12_token_176 rfl ?_
        refine q_pi (K := 8) (q := 180) dX12_token_177 rfl cl_12 (by decide) tw_1090 rfl rfl rfl rfl (fun I31 eI31 => ?_)
        obtain ⟨v61, ev61⟩ : ∃ y_ : Int32, y_ = (nI k) + 1 := ⟨_, rfl⟩
        refine x_iinc (v := v61) (L2 := [some (.ref 100), some (.int x1), some (.int v61)]) (q := 183) dX12_token_180 rfl (by decide) rfl rfl (by rw [ev61]; rfl) rfl ?_
        refine x_goto (t := 144) dX12_token_183 (by decide) ?_
        rw [show v61 = nI (k + 1) by rw [ev61, nI_p1]]
        refine ih (k + 1) I31 _ (by omega) (by omega) (by rw [eI31]; exact hL.u (by decide)) hJM (by rw [eI31, ups (by decide)]; exact h7) ?_ (by rw [show q + (k + 1) = q + k + 1 by omega, ← hwd]; exact (rlp_1 hl.1 hl.2).symm)
        have k4 : k < 4 := by
          by_cases z : k < 4
          · exact z
          · exact absurd (nI_le (a := 4) (by omega) (by omega)) c157
        have eh : hrF T n (q + k) = nI (T (q + k)) := if_pos hl.1
        rw [eI31, upq, h8, eh, show min k 4 = k by omega, show min (k + 1) 4 = k + 1 by omega]
        exact v10_m hl.2
theorem so_1 {c : Nat} {x : Int32} (h : c < 256) (e : nI c = 59) (hx : x = nI c) : x = msI (if c = 59 then 4 else if c = 45 then 5 else 1) := by
  rw [hx, if_pos ((nI_eq (b := 59) (by omega) (by decide)).mp e), e]; rfl
theorem so_2 {c : Nat} {x : Int32} (h : c < 256) (e : nI c = 45) (hx : x = nI c) : x = msI (if c = 59 then 4 else if c = 45 then 5 else 1) := by
  have e2 := (nI_eq (b := 45) (by omega) (by decide)).mp e
  rw [hx, if_neg (by omega), if_pos e2, e]; rfl
theorem so_3 {c : Nat} (h : c < 256) (e : ¬ nI c = 59) (e2 : ¬ nI c = 45) : (3 : Int32) = msI (if c = 59 then 4 else if c = 45 then 5 else 1) := by
  rw [if_neg (fun z => e (by rw [z]; rfl)), if_neg (fun z => e2 (by rw [z]; rfl))]; rfl
theorem so_n3 {c : Nat} : ¬ (if c = 59 then 4 else if c = 45 then 5 else 1) = 3 := by
  by_cases z : c = 59
  · rw [if_pos z]; decide
  · rw [if_neg z]
    by_cases y : c = 45
    · rw [if_pos y]; decide
    · rw [if_neg y]; decide
theorem so_n2 {c : Nat} : ¬ (if c = 59 then 4 else if c = 45 then 5 else 1) = 2 := by
  by_cases z : c = 59
  · rw [if_pos z]; decide
  · rw [if_neg z]
    by_cases y : c = 45
    · rw [if_pos y]; decide
    · rw [if_neg y]; decide
set_option maxRecDepth 100000 in
theorem l_tkA {T : Nat → Nat} {n : Nat} {M : MI} (hT : TXM T n M) (h5 : M 100 5 = nI n) (r : MR) {J : MJ} {q : Nat} (hqn : q ≤ n) {Y : MI} (hL : Lm q M Y) (x1 x2 : Option Value) : Wq MX12_token 33 [some (.ref 100), x1, x2] [] Y r J (fun v Z r' K => v = none ∧ MFr M J Z K ∧ MLx T n q Z K ∧ r' = r) := by
  have hn := hT.1
  have hT8 := fun j hj => (hT.2 j hj).1
  refine x_aload_n (q := 34) dX12_token_33 rfl rfl ?_
  refine x_aload_n (q := 35) dX12_token_34 rfl rfl ?_
  refine q_gi (K := 4) (q := 38) dX12_token_35 rfl cl_12 (by decide) tw_1086 rfl rfl ?_
  refine q_pi (K := 7) (q := 41) dX12_token_38 rfl cl_12 (by decide) tw_1089 rfl rfl rfl rfl (fun I19 eI19 => ?_)
  have hL1_ : Lm q M I19 := by rw [eI19]; exact hL.u (by decide)
  refine x_aload_n (q := 42) dX12_token_41 rfl rfl ?_
  refine x_iconst (0) (q := 43) dX12_token_42 rfl (by decide) ?_
  refine q_callV (ci := 12) (N := 79) (T := TX12) (As := [.int 0]) (rest := []) (q := 46) dX12_token_43 rfl okX12_here tw_1344 rfl rfl (c_here hT h5 r J (k := 0) hL1_ hqn (by omega)) rfl rfl (Nat.le_of_ble_eq_true rfl) ⟨by decide, by decide⟩ ⟨rfl, rfl⟩ (fun rv_ I_ r_ J_ hv_ => ?_)
  obtain ⟨a1_, a2_, a3_, a4_⟩ := hv_
  rw [a1_, a2_, a3_, a4_]
  show Wq MX12_token 46 [some (.ref 100), x1, x2] [.int (hrF T n (q + 0))] I19 r J _
  refine x_nmi (fun v21 ev21 => ?_)
  refine x_istore_n (L2 := [some (.ref 100), some (.int v21), x2]) (q := 47) dX12_token_46 rfl (by decide) rfl rfl ?_
  refine x_iconst (0) (q := 48) dX12_token_47 rfl (by decide) ?_
  refine x_istore_n (L2 := [some (.ref 100), some (.int v21), some (.int 0)]) (q := 49) dX12_token_48 rfl (by decide) rfl rfl ?_
  refine x_aload_n (q := 50) dX12_token_49 rfl rfl ?_
  refine x_lconst 0 (q := 51) dX12_token_50 rfl (by decide) ?_
  refine q_pl (K := 9) (q := 54) dX12_token_51 rfl cl_12 (by decide) tw_1091 rfl rfl rfl rfl (fun J22 eJ22 => ?_)
  refine x_aload_n (q := 55) dX12_token_54 rfl rfl ?_
  refine x_iconst (0) (q := 56) dX12_token_55 rfl (by decide) ?_
  refine q_pi (K := 8) (q := 59) dX12_token_56 rfl cl_12 (by decide) tw_1090 rfl rfl rfl rfl (fun I23 eI23 => ?_)
  have hL1 : Lm q M I19 := by rw [eI19]; exact hL.u (by decide)
  have hL2 : Lm q M I23 := by rw [eI23]; exact hL1.u (by decide)
  have h7 : I23 100 7 = nI q := by rw [eI23, ups (by decide), eI19, upq]; exact hL.2.2
  have h8 : I23 100 8 = 0 := by rw [eI23, upq]
  have hJM : JM J J22 := fun c k e => by rw [eJ22, upJ_o e]
  have hw : J22 100 9 = 0 := by rw [eJ22, upJq]
  have evv : v21 = hrF T n q := by rw [ev21]; rfl
  refine x_iload_n (q := 60) dX12_token_59 rfl rfl ?_
  refine x_if_ge (t := 71) (q := 63) dX12_token_60 (by decide) rfl (fun c60 => ?_) (fun c60 => ?_)
  · have glt : q < n := by
      by_cases z : q < n
      · exact z
      · exact absurd c60 (by rw [evv, show hrF T n q = -1 from if_neg z]; decide)
    refine x_iload_n (q := 72) dX12_token_71 rfl rfl ?_
    refine q_callS (As := [.int v21]) (rest := []) (q := 75) dX12_token_72 rfl okX12_isLetter tw_1348 (c_misL v21 _ r J22) rfl rfl (Nat.le_of_ble_eq_true rfl) ⟨by decide, by decide⟩ ⟨rfl, rfl⟩ (fun rv_ I_ r_ J_ hv_ => ?_)
    obtain ⟨a1_, a2_, a3_, a4_⟩ := hv_
    rw [a1_, a2_, a3_, a4_]
    show Wq MX12_token 75 [some (.ref 100), some (.int v21), some (.int 0)] [.int (lI v21)] I23 r J22 _
    refine x_if_eq (t := 137) (q := 78) dX12_token_75 (by decide) rfl (fun c75 => ?_) (fun c75 => ?_)
    · have hnl : ¬ ltr (T q) = true := fun z => absurd c75 (by rw [evv]; exact (hr_l hT8).mpr ⟨glt, z⟩)
      refine x_iload_n (q := 138) dX12_token_137 rfl rfl ?_
      refine q_callS (As := [.int v21]) (rest := []) (q := 141) dX12_token_138 rfl okX12_isDigit tw_1351 (c_misD v21 _ r J22) rfl rfl (Nat.le_of_ble_eq_true rfl) ⟨by decide, by decide⟩ ⟨rfl, rfl⟩ (fun rv_ I_ r_ J_ hv_ => ?_)
      obtain ⟨a1_, a2_, a3_, a4_⟩ := hv_
      rw [a1_, a2_, a3_, a4_]
      show Wq MX12_token 141 [some (.ref 100), some (.int v21), some (.int 0)] [.int (dI v21)] I23 r J22 _
      refine x_if_eq (t := 214) (q := 144) dX12_token_141 (by decide) rfl (fun c141 => ?_) (fun c141 => ?_)
      · have hnd : ¬ dgi (T q) = true := fun z => absurd c141 (by rw [evv]; exact (hr_d hT8).mpr ⟨glt, z⟩)
        refine x_iconst (1) (q := 215) dX12_token_214 rfl (by decide) ?_
        refine x_istore_n (L2 := [some (.ref 100), some (.int v21), some (.int 1)]) (q := 216) dX12_token_215 rfl (by decide) rfl rfl ?_
        refine x_aload_n (q := 217) dX12_token_216 rfl rfl ?_
        refine x_iload_n (q := 218) dX12_token_217 rfl rfl ?_
        refine x_bipush (59) (q := 220) dX12_token_218 rfl (by decide) ?_
        refine x_icmp_eq (t := 229) (q := 223) dX12_token_220 (by decide) rfl (fun c220 => ?_) (fun c220 => ?_)
        · refine x_iload_n (q := 230) dX12_token_229 rfl rfl ?_
          refine x_goto (t := 234) dX12_token_230 (by decide) ?_
          refine q_pi (K := 6) (q := 237) dX12_token_234 rfl cl_12 (by decide) tw_1088 rfl rfl rfl rfl (fun I81 eI81 => ?_)
          have ek := enQ_o glt hnl hnd
          have et : hrF T n q = nI (T q) := if_pos glt
          have t8 := hT8 q glt
          refine l_tkE hT h5 r hqn (k := 1) (by rw [eI81]; exact hL2.u (by decide)) hJM (by rw [eI81, ups (by decide)]; exact h7) ?_ (fun _ => by rw [ek.1]) (fun z => absurd z ?_) (fun z => absurd z ?_)
          · rw [eI81, upq, ek.2]
            first
            | exact so_1 t8 (by rw [evv, et] at c220; exact c220) (by rw [evv, et])
            | exact so_2 t8 (by rw [evv, et] at c226; exact c226) (by rw [evv, et])
            | exact so_3 t8 (by rw [evv, et] at c220; exact c220) (by rw [evv, et] at c226; exact c226)
          · rw [ek.2]; exact so_n3
          · rw [ek.2]; exact so_n2
        · refine x_iload_n (q := 224) dX12_token_223 rfl rfl ?_
          refine x_bipush (45) (q := 226) dX12_token_224 rfl (by decide) ?_
          refine x_icmp_ne (t := 233) (q := 229) dX12_token_226 (by decide) rfl (fun c226 => ?_) (fun c226 => ?_)
          · refine x_iconst (3) (q := 234) dX12_token_233 rfl (by decide) ?_
            refine q_pi (K := 6) (q := 237) dX12_token_234 rfl cl_12 (by decide) tw_1088 rfl rfl rfl rfl (fun I82 eI82 => ?_)
            have ek := enQ_o glt hnl hnd
            have et : hrF T n q = nI (T q) := if_pos glt
            have t8 := hT8 q glt
            refine l_tkE hT h5 r hqn (k := 1) (by rw [eI82]; exact hL2.u (by decide)) hJM (by rw [eI82, ups (by decide)]; exact h7) ?_ (fun _ => by rw [ek.1]) (fun z => absurd z ?_) (fun z => absurd z ?_)
            · rw [eI82, upq, ek.2]
              first
              | exact so_1 t8 (by rw [evv, et] at c220; exact c220) (by rw [evv, et])
              | exact so_2 t8 (by rw [evv, et] at c226; exact c226) (by rw [evv, et])
              | exact so_3 t8 (by rw [evv, et] at c220; exact c220) (by rw [evv, et] at c226; exact c226)
            · rw [ek.2]; exact so_n3
            · rw [ek.2]; exact so_n2
          · refine x_iload_n (q := 230) dX12_token_229 rfl rfl ?_
            refine x_goto (t := 234) dX12_token_230 (by decide) ?_
            refine q_pi (K := 6) (q := 237) dX12_token_234 rfl cl_12 (by decide) tw_1088 rfl rfl rfl rfl (fun I83 eI83 => ?_)
            have ek := enQ_o glt hnl hnd
            have et : hrF T n q = nI (T q) := if_pos glt
            have t8 := hT8 q glt
            refine l_tkE hT h5 r hqn (k := 1) (by rw [eI83]; exact hL2.u (by decide)) hJM (by rw [eI83, ups (by decide)]; exact h7) ?_ (fun _ => by rw [ek.1]) (fun z => absurd z ?_) (fun z => absurd z ?_)
            · rw [eI83, upq, ek.2]
              first
              | exact so_1 t8 (by rw [evv, et] at c220; exact c220) (by rw [evv, et])
              | exact so_2 t8 (by rw [evv, et] at c226; exact c226) (by rw [evv, et])
              | exact so_3 t8 (by rw [evv, et] at c220; exact c220) (by rw [evv, et] at c226; exact c226)
            · rw [ek.2]; exact so_n3
            · rw [ek.2]; exact so_n2
      · have hl := (hr_d hT8).mp (by rw [evv] at c141; exact c141)
        exact l_tkd hT h5 r hqn glt hl.2 (n - q) 0 I23 _ (by omega) (by omega) hL2 hJM h7 (by rw [h8]; rfl) rfl
    · have hl := (hr_l hT8).mp (by rw [evv] at c75; exact c75)
      exact l_tkw hT h5 r hqn glt hl.2 (n - q) 0 I23 _ (by omega) (by omega) hL2 hJM h7 (by rw [hw]; rfl) rfl
  · refine x_aload_n (q := 64) dX12_token_63 rfl rfl ?_
    refine x_iconst (0) (q := 65) dX12_token_64 rfl (by decide) ?_
    refine q_pi (K := 6) (q := 68) dX12_token_65 rfl cl_12 (by decide) tw_1088 rfl rfl rfl rfl (fun I41 eI41 => ?_)
    refine x_goto (t := 237) dX12_token_68 (by decide) ?_
    have gq : n ≤ q := by
      by_cases z : n ≤ q
      · exact z
      · exact absurd (by rw [evv, show hrF T n q = nI (T q) from if_pos (by omega)]; exact nI_pos' (by have := hT8 q (by omega); omega)) c60
    have k0 : kdQ T n q = 0 := if_pos gq
    have e0 : enQ T n q = q := if_pos gq
    exact l_tkE hT h5 r hqn (k := 0) (by rw [eI41]; exact hL2.u (by decide)) hJM (by rw [eI41, ups (by decide)]; exact h7) (by rw [eI41, upq, k0]; rfl) (fun _ => by rw [e0]; rfl) (fun z => by rw [k0] at z; exact absurd z (by decide)) (fun z => by rw [k0] at z; exact absurd z (by decide))
set_option maxRecDepth 100000 in
theorem l_tk {T : Nat → Nat} {n : Nat} {M : MI} (hT : TXM T n M) (h5 : M 100 5 = nI n) (r : MR) {J : MJ} {p : Nat} (hpn : p ≤ n) (x1 x2 : Option Value) : ∀ (f : Nat) (i : Nat) (Y : MI) (_ : i + f = n) (_ : i ≤ n) (_ : Lm i M Y) (_ : rlp spc T n i = sk T n p), Wq MX12_token 0 [some (.ref 100), x1, x2] [] Y r J (fun v Z r' K => v = none ∧ MFr M J Z K ∧ MLx T n (sk T n p) Z K ∧ r' = r) := by
  have hn := hT.1
  have hT8 := fun j hj => (hT.2 j hj).1
  intro f
  induction f with
  | zero =>
    intro i Y hif hin hL hw
    refine x_aload_n (q := 1) dX12_token_0 rfl rfl ?_
    refine x_iconst (0) (q := 2) dX12_token_1 rfl (by decide) ?_
    refine q_callV (ci := 12) (N := 79) (T := TX12) (As := [.int 0]) (rest := []) (q := 5) dX12_token_2 rfl okX12_here tw_1344 rfl rfl (c_here hT h5 r J (k := 0) hL hin (by omega)) rfl rfl (Nat.le_of_ble_eq_true rfl) ⟨by decide, by decide⟩ ⟨rfl, rfl⟩ (fun rv_ I_ r_ J_ hv_ => ?_)
    obtain ⟨a1_, a2_, a3_, a4_⟩ := hv_
    rw [a1_, a2_, a3_, a4_]
    show Wq MX12_token 5 [some (.ref 100), x1, x2] [.int (hrF T n (i + 0))] Y r J _
    refine x_bipush (32) (q := 7) dX12_token_5 rfl (by decide) ?_
    refine x_icmp_eq (t := 20) (q := 10) dX12_token_7 (by decide) rfl (fun csp => ?_) (fun c7 => ?_)
    · have hs : i < n := by
        first
        | exact ((hr_32 hT8).mp csp).1
        | exact ((hr_10 hT8).mp csp).1
      omega
    · refine x_aload_n (q := 11) dX12_token_10 rfl rfl ?_
      refine x_iconst (0) (q := 12) dX12_token_11 rfl (by decide) ?_
      refine q_callV (ci := 12) (N := 79) (T := TX12) (As := [.int 0]) (rest := []) (q := 15) dX12_token_12 rfl okX12_here tw_1344 rfl rfl (c_here hT h5 r J (k := 0) hL hin (by omega)) rfl rfl (Nat.le_of_ble_eq_true rfl) ⟨by decide, by decide⟩ ⟨rfl, rfl⟩ (fun rv_ I_ r_ J_ hv_ => ?_)
      obtain ⟨a1_, a2_, a3_, a4_⟩ := hv_
      rw [a1_, a2_, a3_, a4_]
      show Wq MX12_token 15 [some (.ref 100), x1, x2] [.int (hrF T n (i + 0))] Y r J _
      refine x_bipush (10) (q := 17) dX12_token_15 rfl (by decide) ?_
      refine x_icmp_ne (t := 33) (q := 20) dX12_token_17 (by decide) rfl (fun csp => ?_) (fun csp => ?_)
      · have hs : ¬ (i < n ∧ spc (T i) = true) := fun z => by
          rcases (spc_e _).mp z.2 with y | y
          · exact c7 ((hr_32 hT8).mpr ⟨z.1, y⟩)
          · exact csp ((hr_10 hT8).mpr ⟨z.1, y⟩)
        have ew : sk T n p = i := by
          rw [← hw]
          by_cases z : i < n
          · exact rlp_0 z (fun y => hs ⟨z, y⟩)
          · exact rlp_e (by omega)
        have hb := rlp_b (g := spc) (T := T) (n := n) (p := p) hpn
        exact l_tkA hT h5 r (q := sk T n p) (by unfold sk; omega) (by rw [ew]; exact hL) _ _
      · have hs : i < n := by
          first
          | exact ((hr_32 hT8).mp csp).1
          | exact ((hr_10 hT8).mp csp).1
        omega
  | succ f ih =>
    intro i Y hif hin hL hw
    refine x_aload_n (q := 1) dX12_token_0 rfl rfl ?_
    refine x_iconst (0) (q := 2) dX12_token_1 rfl (by decide) ?_
    refine q_callV (ci := 12) (N := 79) (T := TX12) (As := [.int 0]) (rest := []) (q := 5) dX12_token_2 rfl okX12_here tw_1344 rfl rfl (c_here hT h5 r J (k := 0) hL hin (by omega)) rfl rfl (Nat.le_of_ble_eq_true rfl) ⟨by decide, by decide⟩ ⟨rfl, rfl⟩ (fun rv_ I_ r_ J_ hv_ => ?_)
    obtain ⟨a1_, a2_, a3_, a4_⟩ := hv_
    rw [a1_, a2_, a3_, a4_]
    show Wq MX12_token 5 [some (.ref 100), x1, x2] [.int (hrF T n (i + 0))] Y r J _
    refine x_bipush (32) (q := 7) dX12_token_5 rfl (by decide) ?_
    refine x_icmp_eq (t := 20) (q := 10) dX12_token_7 (by decide) rfl (fun csp => ?_) (fun c7 => ?_)
    · have hs : i < n ∧ spc (T i) = true := by
        first
        | (have z := (hr_32 hT8).mp csp; exact ⟨z.1, (spc_e _).mpr (Or.inl z.2)⟩)
        | (have z := (hr_10 hT8).mp csp; exact ⟨z.1, (spc_e _).mpr (Or.inr z.2)⟩)
      refine x_aload_n (q := 21) dX12_token_20 rfl rfl ?_
      refine x_dup (q := 22) dX12_token_21 rfl rfl ?_
      refine q_gi (K := 4) (q := 25) dX12_token_22 rfl cl_12 (by decide) tw_1086 rfl rfl ?_
      refine x_iconst (1) (q := 26) dX12_token_25 rfl (by decide) ?_
      refine x_iadd (q := 27) dX12_token_26 rfl ?_
      refine q_pi (K := 4) (q := 30) dX12_token_27 rfl cl_12 (by decide) tw_1086 rfl rfl rfl rfl (fun I31 eI31 => ?_)
      refine x_goto (t := 0) dX12_token_30 (by decide) ?_
      rw [hL.2.2, nI_p1] at eI31
      rw [eI31]
      exact ih (i + 1) _ (by have := hs.1; omega) (by have := hs.1; omega) hL.a (by rw [← hw]; exact (rlp_1 hs.1 hs.2).symm)
    · refine x_aload_n (q := 11) dX12_token_10 rfl rfl ?_
      refine x_iconst (0) (q := 12) dX12_token_11 rfl (by decide) ?_
      refine q_callV (ci := 12) (N := 79) (T := TX12) (As := [.int 0]) (rest := []) (q := 15) dX12_token_12 rfl okX12_here tw_1344 rfl rfl (c_here hT h5 r J (k := 0) hL hin (by omega)) rfl rfl (Nat.le_of_ble_eq_true rfl) ⟨by decide, by decide⟩ ⟨rfl, rfl⟩ (fun rv_ I_ r_ J_ hv_ => ?_)
      obtain ⟨a1_, a2_, a3_, a4_⟩ := hv_
      rw [a1_, a2_, a3_, a4_]
      show Wq MX12_token 15 [some (.ref 100), x1, x2] [.int (hrF T n (i + 0))] Y r J _
      refine x_bipush (10) (q := 17) dX12_token_15 rfl (by decide) ?_
      refine x_icmp_ne (t := 33) (q := 20) dX12_token_17 (by decide) rfl (fun csp => ?_) (fun csp => ?_)
      · have hs : ¬ (i < n ∧ spc (T i) = true) := fun z => by
          rcases (spc_e _).mp z.2 with y | y
          · exact c7 ((hr_32 hT8).mpr ⟨z.1, y⟩)
          · exact csp ((hr_10 hT8).mpr ⟨z.1, y⟩)
        have ew : sk T n p = i := by
          rw [← hw]
          by_cases z : i < n
          · exact rlp_0 z (fun y => hs ⟨z, y⟩)
          · exact rlp_e (by omega)
        have hb := rlp_b (g := spc) (T := T) (n := n) (p := p) hpn
        exact l_tkA hT h5 r (q := sk T n p) (by unfold sk; omega) (by rw [ew]; exact hL) _ _
      · have hs : i < n ∧ spc (T i) = true := by
          first
          | (have z := (hr_32 hT8).mp csp; exact ⟨z.1, (spc_e _).mpr (Or.inl z.2)⟩)
          | (have z := (hr_10 hT8).mp csp; exact ⟨z.1, (spc_e _).mpr (Or.inr z.2)⟩)
        refine x_aload_n (q := 21) dX12_token_20 rfl rfl ?_
        refine x_dup (q := 22) dX12_token_21 rfl rfl ?_
        refine q_gi (K := 4) (q := 25) dX12_token_22 rfl cl_12 (by decide) tw_1086 rfl rfl ?_
        refine x_iconst (1) (q := 26) dX12_token_25 rfl (by decide) ?_
        refine x_iadd (q := 27) dX12_token_26 rfl ?_
        refine q_pi (K := 4) (q := 30) dX12_token_27 rfl cl_12 (by decide) tw_1086 rfl rfl rfl rfl (fun I31 eI31 => ?_)
        refine x_goto (t := 0) dX12_token_30 (by decide) ?_
        rw [hL.2.2, nI_p1] at eI31
        rw [eI31]
        exact ih (i + 1) _ (by have := hs.1; omega) (by have := hs.1; omega) hL.a (by rw [← hw]; exact (rlp_1 hs.1 hs.2).symm)
def RT (T : Nat → Nat) (n p : Nat) (M : MI) (J : MJ) (r : MR) : Option Value → MI → MR → MJ → Prop := fun v Z r' K => v = none ∧ MFr M J Z K ∧ MLx T n (sk T n p) Z K ∧ r' = r
theorem c_tok {T : Nat → Nat} {n : Nat} {M : MI} (hT : TXM T n M) (h5 : M 100 5 = nI n) (r : MR) {J : MJ} {p : Nat} (hpn : p ≤ n) (h4 : M 100 4 = nI p) : Cq yX12_token MX12_token [.ref 100] M r J (RT T n p M J r) := by
  refine cq_of [some (.ref 100), none, none] 2 (by decide +kernel) rfl rfl (Nat.le_of_ble_eq_true rfl) rfl ?_
  exact l_tk hT h5 r hpn none none (n - p) p M (by omega) hpn ⟨fun _ _ => rfl, fun _ _ _ _ _ => rfl, h4⟩ rfl
