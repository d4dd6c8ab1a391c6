/-- salt never grows in a step -/
theorem salt_step {so la n : Nat} {T fl wt tr : Int32} {G : GT} (hs : so < 4) (h1 : 1 ≤ la) (h5 : la ≤ 5) (hn : n ≤ 900) (he : EB T fl wt tr) (h : GB la n G) : (stepG so la T fl wt tr G 8).toInt ≤ (G 8).toInt := by
  obtain ⟨hT, hf, hw, ht⟩ := he
  obtain ⟨hW, a5, a6, a7, as, a8, a8'⟩ := h
  have hr := rainB hf hw
  have w5 : warmG so la T G 5 = G 5 := warmG_hi T G h5 (by decide)
  have w6 : warmG so la T G 6 = G 6 := warmG_hi T G h5 (by decide)
  have w7 : warmG so la T G 7 = G 7 := warmG_hi T G h5 (by decide)
  have w8 : warmG so la T G 8 = G 8 := warmG_hi T G h5 (by decide)
  have hWw := BW_warm hs h1 hT hW
  have b1 : HB (100 * n) (warmG so la T G) := by
    unfold HB
    rw [w5, w6, w7, w8]
    exact ⟨a5, a6, a7, as, a8, a8'⟩
  rw [show stepG so la T fl wt tr G = stepR so la T fl (fl * wt / 10) tr G from rfl]
  generalize fl * wt / 10 = rain at hr ⊢
  unfold stepR
  obtain ⟨b2, s2⟩ := HB_fall (by omega) b1 hr.1 hr.2 hf.2
  have f0 : fallG fl rain (warmG so la T G) 0 = warmG so la T G 0 := rfl
  obtain ⟨b3, t3, s3⟩ := HB_melt (by omega) b2 (by rw [f0]; exact hWw 0 (by omega))
  have f8 : meltG (fallG fl rain (warmG so la T G)) 8 = G 8 := by
    have e : fallG fl rain (warmG so la T G) 8 = G 8 := w8
    rw [← e]
    unfold meltG
    split <;> rfl
  have x1 := WHf_k hs
  have r8 : 0 ≤ (runOffG (WHf so) (meltG (fallG fl rain (warmG so la T G))) 8).toInt ∧ (runOffG (WHf so) (meltG (fallG fl rain (warmG so la T G))) 8).toInt ≤ (G 8).toInt := by
    generalize meltG (fallG fl rain (warmG so la T G)) = F at b3 f8 ⊢
    obtain ⟨c5, c6, c7, cs, c8, c8'⟩ := b3
    unfold runOffG
    by_cases hc : F 5 - WHf so ≤ 0
    · rw [if_pos hc, f8]
      exact ⟨a8, Int.le_refl _⟩
    · rw [if_neg hc]
      have e : (F 5 - WHf so).toInt = (F 5).toInt - (WHf so).toInt := Kit.i32_sub (by omega) (by omega)
      have hc2 : ¬ (F 5 - WHf so).toInt ≤ 0 := fun q => hc (Int32.le_iff_toInt_le.mpr (by rw [Int32.toInt_zero]; exact q))
      have hsh := share (s := F 8) (o := F 5 - WHf so) (w := F 5) ⟨c8, c8'⟩ (by omega) (by omega) (by omega) (by omega)
      rw [f8] at hsh
      have g8 : upd (upd F 8 (F 8 - F 8 * (F 5 - WHf so) / F 5)) 5 (WHf so) 8 = F 8 - F 8 * (F 5 - WHf so) / F 5 := rfl
      rw [g8, f8]
      exact hsh
  have g8 : packG tr (saltG tr (runOffG (WHf so) (meltG (fallG fl rain (warmG so la T G))))) 8 = runOffG (WHf so) (meltG (fallG fl rain (warmG so la T G))) 8 - runOffG (WHf so) (meltG (fallG fl rain (warmG so la T G))) 8 * tr / 100 := rfl
  rw [g8]
  have hsh := share (s := runOffG (WHf so) (meltG (fallG fl rain (warmG so la T G))) 8) (o := tr) (w := 100) ⟨r8.1, by omega⟩ ht.1 (by rw [c100]; omega) (by rw [c100]; omega) (by rw [c100]; omega)
  omega
def GC (la n : Nat) (c : Int) (G : GT) : Prop := GB la n G ∧ (G 8).toInt ≤ c
theorem GC_stepY {I : MI} {b yn hn y n : Nat} {c : Int} (h : LOk I b yn hn) (hy : y < yn) {sh : Int32} (hsh : ShOk sh) (s : Nat) (hn9 : n ≤ 900) {G : GT} (hG : GC (laN I b y) n c G) : GC (laN I b y) (n + 1) c (stepY I b y hn sh s G) ∧ (stepY I b y hn sh s G 6).toInt ≤ (G 6).toInt + ((I (b + 5) (hourN s hn)).toInt - (I (b + 5) (hourN s hn) * I (b + 7) (hourN s hn) / 10).toInt) := by
  refine ⟨⟨GB_stepY h hy hsh s hn9 hG.1, ?_⟩, ?_⟩
  · obtain ⟨hb, e1, h8, e9, h12, hys, hh⟩ := h
    obtain ⟨so, la, q1, q2, q3, q4, q5, q6, q7, q8⟩ := hys y hy
    have hG1 := hG.1
    have hG2 := hG.2
    unfold stepY
    rw [so_of q1 q2]
    rw [la_of (so := so) q3 q5] at hG1 ⊢
    exact Int.le_trans (salt_step q2 q4 q5 hn9 (envOk hh hsh s q7) hG1) hG2
  · obtain ⟨hb, e1, h8, e9, h12, hys, hh⟩ := h
    obtain ⟨so, la, q1, q2, q3, q4, q5, q6, q7, q8⟩ := hys y hy
    have hG1 := hG.1
    unfold stepY
    rw [so_of q1 q2]
    rw [la_of (so := so) q3 q5] at hG1 ⊢
    exact (GB_step q2 q4 q5 hn9 (envOk hh hsh s q7) hG1).2.2.2.2
/-- salt spread behind step k, if that is the one -/
def sprG (k at0 : Nat) (much : Int32) (G : GT) : GT := if k = at0 then upd G 8 (G 8 + much) else G
def fwG (I : MI) (b y hn : Nat) (sh : Int32) (st : Nat) (much : Int32) (at0 : Nat) (G : GT) : Nat → GT
  | 0 => G
  | k + 1 => stepY I b y hn sh (st + k) (sprG k at0 much (fwG I b y hn sh st much at0 G k))
theorem GC_spr {la n k at0 : Nat} {c : Int} {much : Int32} {G : GT} (hm : 0 ≤ much.toInt ∧ much.toInt ≤ 99) (hc : c + 99 ≤ 20000) (h : GC la n c G) (h5 : la ≤ 5) : GC la n (c + 99) (sprG k at0 much G) := by
  unfold sprG
  split
  · obtain ⟨⟨hW, a5, a6, a7, as, a8, a8'⟩, hc2⟩ := h
    have e : (G 8 + much).toInt = (G 8).toInt + much.toInt := Kit.i32_add (by omega) (by omega)
    have f5 : upd G 8 (G 8 + much) 5 = G 5 := rfl
    have f6 : upd G 8 (G 8 + much) 6 = G 6 := rfl
    have f7 : upd G 8 (G 8 + much) 7 = G 7 := rfl
    have f8 : upd G 8 (G 8 + much) 8 = G 8 + much := rfl
    refine ⟨⟨fun j hj => ?_, ?_⟩, ?_⟩
    · have : ¬ j = 8 := by omega
      simp only [upd, this, if_false]
      exact hW j hj
    · rw [f5, f6, f7, f8, e]
      omega
    · rw [f8, e]
      omega
  · exact ⟨h.1, by have := h.2; omega⟩
theorem spr_6 {k at0 : Nat} {much : Int32} {G : GT} : sprG k at0 much G 6 = G 6 := by
  unfold sprG
  split <;> rfl
/-- before the salt, and behind it -/
theorem GC_fw {I : MI} {b yn hn y n : Nat} {c : Int} (h : LOk I b yn hn) (hy : y < yn) {sh : Int32} (hsh : ShOk sh) {st : Nat} {much : Int32} {at0 : Nat} (hm : 0 ≤ much.toInt ∧ much.toInt ≤ 99) (hc : c + 99 ≤ 20000) {G : GT} (hG : GC (laN I b y) n c G) : ∀ k, n + k ≤ 900 → GC (laN I b y) (n + k) (if k ≤ at0 then c else c + 99) (fwG I b y hn sh st much at0 G k) ∧ GC (laN I b y) (n + k) (if k < at0 then c else c + 99) (sprG k at0 much (fwG I b y hn sh st much at0 G k)) := by
  have h5 : laN I b y ≤ 5 := by
    obtain ⟨hb, e1, h8, e9, h12, hys, hh⟩ := h
    obtain ⟨so, la, q1, q2, q3, q4, q5, q6, q7, q8⟩ := hys y hy
    rw [la_of (so := so) q3 q5]
    exact q5
  intro k
  induction k with
  | zero =>
    intro _
    refine ⟨by rw [if_pos (Nat.zero_le _)]; exact hG, ?_⟩
    by_cases h0 : 0 < at0
    · rw [if_pos h0]
      unfold sprG
      rw [if_neg (by omega)]
      exact hG
    · rw [if_neg h0]
      exact GC_spr hm hc hG h5
  | succ k ih =>
    intro hk
    have h2 := (ih (by omega)).2
    have h3 := (GC_stepY (c := if k < at0 then c else c + 99) h hy hsh (st + k) (show n + k ≤ 900 by omega) h2).1
    have e : (if k + 1 ≤ at0 then c else c + 99) = (if k < at0 then c else c + 99) := rfl
    refine ⟨by rw [e]; exact h3, ?_⟩
    by_cases h0 : k + 1 < at0
    · rw [if_pos h0]
      unfold sprG
      rw [if_neg (by omega)]
      have h4 : k < at0 := by omega
      rw [if_pos h4] at h3
      exact h3
    · rw [if_neg h0]
      by_cases h1 : k + 1 = at0
      · have h4 : k < at0 := by omega
        rw [if_pos h4] at h3
        exact GC_spr hm hc h3 h5
      · have h4 : ¬ k < at0 := by omega
        rw [if_neg h4] at h3
        unfold sprG
        rw [if_neg h1]
        exact h3
/-- the first of k+1 .. k+f with W, or none -/
def fstW (W : Nat → Bool) : Nat → Nat → Int32
  | _, 0 => -1
  | k, f + 1 => if W (k + 1) then nI (k + 1) else fstW W (k + 1) f
theorem fstW_no {W : Nat → Bool} : ∀ (f k : Nat), (∀ j, k < j → j ≤ k + f → W j = false) → fstW W k f = -1 := by
  intro f
  induction f with
  | zero => intro k _; rfl
  | succ f ih =>
    intro k h
    unfold fstW
    rw [h (k + 1) (by omega) (by omega)]
    exact ih (k + 1) (fun j h1 h2 => h j (by omega) (by omega))
def whB (G : GT) : Bool := decide (10 ≤ G 6)
theorem whB_iff {G : GT} : whB G = true ↔ 10 ≤ (G 6).toInt := by
  unfold whB
  rw [decide_eq_true_iff, Int32.le_iff_toInt_le]
  have : (10 : Int32).toInt = 10 := by decide
  rw [this]
theorem whiteF_B (G : GT) : whiteF (G 6) = if whB G then 1 else 0 := by
  unfold whiteF whB
  by_cases h : 10 ≤ G 6 <;> simp [h]
/-- from which step on nothing falls as snow -/
def snowy (I : MI) (b h : Nat) : Prop := I (b + 5) h * I (b + 7) h / 10 < I (b + 5) h
def snlN (I : MI) (b hn : Nat) : Nat → Int32
  | 0 => 0
  | h + 1 => if I (b + 5) h * I (b + 7) h / 10 < I (b + 5) h then (if h + 1 = hn then 1000000000 else nI ((h + 1) * 6)) else snlN I b hn h
set_option maxRecDepth 100000 in
theorem l_snl {b : Nat} (hb : SH b = (15, 18)) {hn : Nat} (hn12 : hn ≤ 12) (I : MI) (e9 : I b 9 = nI hn) (r : MR) (J : MJ) : ∀ h, h ≤ hn → Wq MX5_snowlessFrom 7 [some (.ref b), some (.int (nI h - 1))] [] I r J (Rt (some (.int (snlN I b hn h))) I r J) := by
  intro h
  induction h with
  | zero =>
    intro _
    refine x_iload_n (q := 8) dX5_snowlessFrom_7 rfl rfl ?_
    refine x_if_lt (t := 64) (q := 11) dX5_snowlessFrom_8 (by decide) rfl (fun c8 => ?_) (fun c8 => absurd c8 (by decide))
    refine x_iconst (0) (q := 65) dX5_snowlessFrom_64 rfl (by decide) ?_
    refine q_iret dX5_snowlessFrom_65 rfl ?_
    exact ⟨rfl, rfl, rfl, rfl⟩
  | succ h ih =>
    intro hh
    have eh : nI (h + 1) - 1 = nI h := nI_pred h
    have hch : (nI h).toNatClampNeg = h := nI_clamp (by omega)
    refine x_iload_n (q := 8) dX5_snowlessFrom_7 rfl rfl ?_
    refine x_if_lt (t := 64) (q := 11) dX5_snowlessFrom_8 (by decide) rfl (fun c8 => absurd c8 (by rw [eh]; exact nI_pos (by omega))) (fun c8 => ?_)
    refine x_aload_n (q := 12) dX5_snowlessFrom_11 rfl rfl ?_
    refine q_gr (K := 6) (b := (b + 5)) (q := 15) dX5_snowlessFrom_12 rfl cl_5 (by decide) tw_189 hb rfl (lr_w hb _).2.2.2.2.1 ?_
    refine x_iload_n (q := 16) dX5_snowlessFrom_15 rfl rfl ?_
    refine q_iald (q := 17) dX5_snowlessFrom_16 rfl (ls_w hb).2.2.2.2.1 (by rw [eh]; exact vp_in_nI (by omega) (by decide)) ?_
    refine x_aload_n (q := 18) dX5_snowlessFrom_17 rfl rfl ?_
    refine q_gr (K := 6) (b := (b + 5)) (q := 21) dX5_snowlessFrom_18 rfl cl_5 (by decide) tw_189 hb rfl (lr_w hb _).2.2.2.2.1 ?_
    refine x_iload_n (q := 22) dX5_snowlessFrom_21 rfl rfl ?_
    refine q_iald (q := 23) dX5_snowlessFrom_22 rfl (ls_w hb).2.2.2.2.1 (by rw [eh]; exact vp_in_nI (by omega) (by decide)) ?_
    refine x_aload_n (q := 24) dX5_snowlessFrom_23 rfl rfl ?_
    refine q_gr (K := 8) (b := (b + 7)) (q := 27) dX5_snowlessFrom_24 rfl cl_5 (by decide) tw_195 hb rfl (lr_w hb _).2.2.2.2.2.2.1 ?_
    refine x_iload_n (q := 28) dX5_snowlessFrom_27 rfl rfl ?_
    refine q_iald (q := 29) dX5_snowlessFrom_28 rfl (ls_w hb).2.2.2.2.2.2.1 (by rw [eh]; exact vp_in_nI (by omega) (by decide)) ?_
    refine x_imul (q := 30) dX5_snowlessFrom_29 rfl ?_
    refine x_bipush (10) (q := 32) dX5_snowlessFrom_30 rfl (by decide) ?_
    refine x_idiv (q := 33) dX5_snowlessFrom_32 rfl (by decide) ?_
    refine x_icmp_le (t := 58) (q := 36) dX5_snowlessFrom_33 (by decide) rfl (fun c33 => ?_) (fun c33 => ?_)
    · obtain ⟨v1, ev1⟩ : ∃ y : Int32, y = (nI (h + 1) - 1) + (-1) := ⟨_, rfl⟩
      refine x_iinc (v := v1) (L2 := [some (.ref b), some (.int v1)]) (q := 61) dX5_snowlessFrom_58 rfl (by decide) rfl rfl (by rw [ev1]; rfl) rfl ?_
      refine x_goto (t := 7) dX5_snowlessFrom_61 (by decide) ?_
      have c33 := c33
      rw [eh, hch] at c33
      have e : snlN I b hn (h + 1) = snlN I b hn h := if_neg (Int32.not_lt.mpr c33)
      rw [e]
      rw [show v1 = nI h - 1 by rw [ev1, eh, Int32.sub_eq_add_neg]]
      exact ih (by omega)
    · refine x_iload_n (q := 37) dX5_snowlessFrom_36 rfl rfl ?_
      refine x_aload_n (q := 38) dX5_snowlessFrom_37 rfl rfl ?_
      refine q_gi (K := 9) (q := 41) dX5_snowlessFrom_38 rfl cl_5 (by decide) tw_198 hb rfl ?_
      refine x_iconst (1) (q := 42) dX5_snowlessFrom_41 rfl (by decide) ?_
      refine x_isub (q := 43) dX5_snowlessFrom_42 rfl ?_
      refine x_icmp_ne (t := 51) (q := 46) dX5_snowlessFrom_43 (by decide) rfl (fun c43 => ?_) (fun c43 => ?_)
      · refine x_iload_n (q := 52) dX5_snowlessFrom_51 rfl rfl ?_
        refine x_iconst (1) (q := 53) dX5_snowlessFrom_52 rfl (by decide) ?_
        refine x_iadd (q := 54) dX5_snowlessFrom_53 rfl ?_
        refine x_bipush (6) (q := 56) dX5_snowlessFrom_54 rfl (by decide) ?_
        refine x_imul (q := 57) dX5_snowlessFrom_56 rfl ?_
        refine q_iret dX5_snowlessFrom_57 rfl ?_
        refine ⟨?_, rfl, rfl, rfl⟩
        have c33 := c33
        rw [eh, hch] at c33
        have c34 := Int32.not_le.mp c33
        have e : ¬ h + 1 = hn := by
          intro q
          apply c43
          rw [eh, e9, show nI hn - 1 = nI (hn - 1) from pk_sub (a := hn) (b := 1) (by omega), ← q]
          rfl
        unfold snlN
        rw [if_pos c34, if_neg e, eh, nI_p1]
        exact congrArg (fun z => some (Value.int z)) (pk_mul (h + 1) 6)
      · refine x_ldc (v := 1000000000) (q := 48) dX5_snowlessFrom_46 rfl tw_851 ?_
        refine x_goto (t := 57) dX5_snowlessFrom_48 (by decide) ?_
        refine q_iret dX5_snowlessFrom_57 rfl ?_
        refine ⟨?_, rfl, rfl, rfl⟩
        have c33 := c33
        rw [eh, hch] at c33
        have c34 := Int32.not_le.mp c33
        have e : h + 1 = hn := by
          rw [eh, e9, show nI hn - 1 = nI (hn - 1) from pk_sub (a := hn) (b := 1) (by omega)] at c43
          have := (nI_eq (by omega) (by omega)).mp c43
          omega
        unfold snlN
        rw [if_pos c34, if_pos e]
set_option maxRecDepth 100000 in
theorem c_snl {b : Nat} (hb : SH b = (15, 18)) {hn : Nat} (hn12 : hn ≤ 12) (I : MI) (e9 : I b 9 = nI hn) (r : MR) (J : MJ) : Cq yX5_snowlessFrom MX5_snowlessFrom [.ref b] I r J (Rt (some (.int (snlN I b hn hn))) I r J) := by
  refine cq_of [some (.ref b), none] 1 (by decide +kernel) rfl rfl (Nat.le_of_ble_eq_true rfl) rfl ?_
  refine x_aload_n (q := 1) dX5_snowlessFrom_0 rfl rfl ?_
  refine q_gi (K := 9) (q := 4) dX5_snowlessFrom_1 rfl cl_5 (by decide) tw_198 hb rfl ?_
  refine x_iconst (1) (q := 5) dX5_snowlessFrom_4 rfl (by decide) ?_
  refine x_isub (q := 6) dX5_snowlessFrom_5 rfl ?_
  rw [e9]
  refine x_istore_n (L2 := [some (.ref b), some (.int (nI hn - 1))]) (q := 7) dX5_snowlessFrom_6 rfl (by decide) rfl rfl ?_
  exact l_snl hb hn12 I e9 r J hn (Nat.le_refl _)
