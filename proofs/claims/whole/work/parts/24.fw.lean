theorem snl_prop {I : MI} {b hn s : Nat} (h0 : ¬ hn = 0) (hs : s ≤ 800) (h12 : hn ≤ 12) : ∀ h, h ≤ hn → (∀ q, h ≤ q → q < hn → ¬ snowy I b q) → snlN I b hn h ≤ nI s → ¬ snowy I b (hourN s hn) := by
  intro h
  induction h with
  | zero =>
    intro _ hq _
    exact hq _ (Nat.zero_le _) (hourN_in s h0)
  | succ h ih =>
    intro hh hq hl
    by_cases hc : snowy I b h
    · have e : snlN I b hn (h + 1) = if h + 1 = hn then 1000000000 else nI ((h + 1) * 6) := if_pos hc
      rw [e] at hl
      by_cases h1 : h + 1 = hn
      · rw [if_pos h1] at hl
        exfalso
        have := Int32.le_iff_toInt_le.mp hl
        rw [nI_toInt (by omega)] at this
        have c : (1000000000 : Int32).toInt = 1000000000 := by decide
        omega
      · rw [if_neg h1] at hl
        have h2 := (nI_leI (by omega) (by omega)).mp hl
        refine hq _ ?_ (hourN_in s h0)
        unfold hourN
        rw [if_neg h0]
        split <;> omega
    · have e : snlN I b hn (h + 1) = snlN I b hn h := if_neg hc
      rw [e] at hl
      refine ih (by omega) (fun q h1 h2 => ?_) hl
      by_cases h3 : q = h
      · rw [h3]
        exact hc
      · exact hq q (by omega) h2
theorem nosnow {I : MI} {b yn hn s : Nat} (h : LOk I b yn hn) (hs : s ≤ 800) (hl : snlN I b hn hn ≤ nI s) : (I (b + 5) (hourN s hn)).toInt - (I (b + 5) (hourN s hn) * I (b + 7) (hourN s hn) / 10).toInt ≤ 0 := by
  obtain ⟨hb, e1, h8, e9, h12, hys, hh⟩ := h
  by_cases h0 : hn = 0
  · obtain ⟨z1, z2, z3⟩ := hh.2 h0
    have e : hourN s hn = 0 := by unfold hourN; rw [if_pos h0]
    rw [e, z1, z3]
    decide
  · have h1 := snl_prop h0 hs h12 hn (Nat.le_refl _) (fun q h1 h2 => by omega) hl
    have h2 := Int32.le_iff_toInt_le.mp (Int32.not_lt.mp h1)
    omega
theorem early {I : MI} {b yn hn y n st : Nat} {c : Int} (h : LOk I b yn hn) (hy : y < yn) {sh : Int32} (hsh : ShOk sh) {much : Int32} {at0 : Nat} (hm : 0 ≤ much.toInt ∧ much.toInt ≤ 99) (hc : c + 99 ≤ 20000) {G : GT} (hG : GC (laN I b y) n c G) (hn8 : n ≤ 800) (hst : st ≤ 720) {i : Nat} (hi : i < 72) (hw : whB (fwG I b y hn sh st much at0 G (i + 1)) = false) (hl : snlN I b hn hn ≤ nI (st + i + 1)) : ∀ d, i + 1 + d ≤ 72 → whB (fwG I b y hn sh st much at0 G (i + 1 + d)) = false := by
  have key : ∀ d, i + 1 + d ≤ 72 → (fwG I b y hn sh st much at0 G (i + 1 + d) 6).toInt < 10 := by
    intro d
    induction d with
    | zero =>
      intro _
      refine Int.not_le.mp (fun q => ?_)
      have := whB_iff.mpr q
      rw [show i + 1 + 0 = i + 1 from rfl, hw] at this
      cases this
    | succ d ih =>
      intro hd
      have h1 := ih (by omega)
      have h2 := (GC_fw h hy hsh (st := st) (at0 := at0) hm hc hG (i + 1 + d) (by omega)).2
      have h3 := (GC_stepY h hy hsh (st + (i + 1 + d)) (show n + (i + 1 + d) ≤ 900 by omega) h2).2
      have h4 := nosnow (s := st + (i + 1 + d)) h (by omega) (Int32.le_trans hl (nI_le (by omega) (by omega)))
      rw [spr_6] at h3
      show (stepY I b y hn sh (st + (i + 1 + d)) (sprG (i + 1 + d) at0 much (fwG I b y hn sh st much at0 G (i + 1 + d))) 6).toInt < 10
      omega
  intro d hd
  have h1 := key d hd
  cases hx : whB (fwG I b y hn sh st much at0 G (i + 1 + d)) with
  | false => rfl
  | true =>
    have := whB_iff.mp hx
    omega
/-- an answer; only the ground g has changed -/
def Rs (x : Int32) (I : MI) (g : Nat) (r : MR) (J : MJ) : Option Value → MI → MR → MJ → Prop := fun v I' r' J' => v = some (.int x) ∧ (∃ G, I' = gPut I g G) ∧ r' = r ∧ J' = J
theorem gO77 {I : MI} {G : GT} {a j : Nat} (h1 : a ≠ 77) (h2 : a ≠ 78) : gPut I 77 G a j = I a j := gPut_o _ _ _ _ _ h1 h2
set_option maxRecDepth 100000 in
theorem l_fw {I : MI} {b yn hn y n st : Nat} {c : Int} (h : LOk I b yn hn) (hy : y < yn) {sh : Int32} (hsh : ShOk sh) {much : Int32} {at0 : Nat} (hm : 0 ≤ much.toInt ∧ much.toInt ≤ 99) (hat : at0 < 1000) (hc : c + 99 ≤ 20000) {G : GT} (hG : GC (laN I b y) n c G) (hn8 : n ≤ 800) (est : I 58 2 = nI st) (hst : st ≤ 720) (r : MR) (hr3 : r 3 = b) (J : MJ) : ∀ (f i : Nat), i + f = 72 → Wq MX7_firstWhite 29 [some (.ref 76), some (.ref 58), some (.int (nI y)), some (.int sh), some (.int much), some (.int (nI at0)), some (.ref b), some (.int (snlN I b hn hn)), some (.int (nI i))] [] (gPut I 77 (fwG I b y hn sh st much at0 G i)) r J (Rs (fstW (fun k => whB (fwG I b y hn sh st much at0 G k)) i f) I 77 r J) := by
  have hb := h.1
  have hb9 := sh_L1 hb
  have hy8 : y < 8 := by have := h.2.2.1; omega
  have e58 : ∀ F, gPut I 77 F 58 2 = nI st := fun F => by rw [gO77 (by decide) (by decide)]; exact est
  intro f
  induction f with
  | zero =>
    intro i hif
    refine x_iload (q := 31) dX7_firstWhite_29 rfl rfl ?_
    refine x_bipush (72) (q := 33) dX7_firstWhite_31 rfl (by decide) ?_
    refine x_icmp_ge (t := 118) (q := 36) dX7_firstWhite_33 (by decide) rfl (fun c33 => ?_) (fun c33 => absurd c33 (fun q => q ((nI_leI (a := 72) (by omega) (by omega)).mpr (by omega))))
    refine x_iconst (-1) (q := 119) dX7_firstWhite_118 rfl (by decide) ?_
    refine q_iret dX7_firstWhite_119 rfl ?_
    exact ⟨rfl, ⟨_, rfl⟩, rfl, rfl⟩
  | succ f ih =>
    intro i hif
    have hgb := (GC_fw h hy hsh (st := st) (at0 := at0) hm hc hG i (by omega)).2.1
    have k57 : Wq MX7_firstWhite 57 [some (.ref 76), some (.ref 58), some (.int (nI y)), some (.int sh), some (.int much), some (.int (nI at0)), some (.ref b), some (.int (snlN I b hn hn)), some (.int (nI i))] [] (gPut I 77 (sprG i at0 much (fwG I b y hn sh st much at0 G i))) r J (Rs (fstW (fun k => whB (fwG I b y hn sh st much at0 G k)) i (f + 1)) I 77 r J) := by
      refine x_aload_n (q := 58) dX7_firstWhite_57 rfl rfl ?_
      refine q_gr (K := 0) (b := 77) (q := 61) dX7_firstWhite_58 rfl cl_7 (by decide) tw_455 rfl rfl rfl ?_
      refine x_aload (q := 63) dX7_firstWhite_61 rfl rfl ?_
      refine q_gr (K := 0) (b := (b + 1)) (q := 66) dX7_firstWhite_63 rfl cl_5 (by decide) tw_160 hb rfl (lr_w hb _).1 ?_
      refine x_iload_n (q := 67) dX7_firstWhite_66 rfl rfl ?_
      refine q_aald4 (b := (b + 10 + 2 * y)) (q := 68) dX7_firstWhite_67 rfl (ls_w hb).1 (vp_in_nI hy8 (by decide)) (by rw [nI_clamp (by omega)]; exact (ly_w hb hy8 _).1) ?_
      refine x_aload (q := 70) dX7_firstWhite_68 rfl rfl ?_
      refine x_aload_n (q := 71) dX7_firstWhite_70 rfl rfl ?_
      refine q_gi (K := 2) (q := 74) dX7_firstWhite_71 rfl cl_1 (by decide) tw_430 rfl rfl ?_
      refine x_iload (q := 76) dX7_firstWhite_74 rfl rfl ?_
      refine x_iadd (q := 77) dX7_firstWhite_76 rfl ?_
      rw [e58, nI_add]
      refine x_iload_n (q := 78) dX7_firstWhite_77 rfl rfl ?_
      refine q_callV (ci := 4) (N := 5) (T := TX4) (As := [.ref (b + 10 + 2 * y), .ref b, .int (nI (st + i)), .int sh]) (rest := []) (q := 81) dX7_firstWhite_78 rfl okX4_goStep tw_856 rfl rfl (c_stepY (s := st + i) (n := n + i) rfl h hy hsh (by omega) (by omega) (G := sprG i at0 much (fwG I b y hn sh st much at0 G i)) hgb r J) rfl rfl (Nat.le_of_ble_eq_true rfl) ⟨by decide, by decide⟩ ⟨rfl, rfl⟩ (fun rv_ I_ r_ J_ hv_ => ?_)
      obtain ⟨a1_, a2_, a3_, a4_⟩ := hv_
      rw [a1_, a2_, a3_, a4_]
      show Wq MX7_firstWhite 81 [some (.ref 76), some (.ref 58), some (.int (nI y)), some (.int sh), some (.int much), some (.int (nI at0)), some (.ref b), some (.int (snlN I b hn hn)), some (.int (nI i))] [] (gPut I 77 (fwG I b y hn sh st much at0 G (i + 1))) r J _
      refine x_aload_n (q := 82) dX7_firstWhite_81 rfl rfl ?_
      refine q_gr (K := 0) (b := 77) (q := 85) dX7_firstWhite_82 rfl cl_7 (by decide) tw_455 rfl rfl rfl ?_
      refine q_callV (ci := 4) (N := 5) (T := TX4) (As := []) (rest := []) (q := 88) dX7_firstWhite_85 rfl okX4_isWhite tw_857 rfl rfl (c_isWhite rfl _ _ _) rfl rfl (Nat.le_of_ble_eq_true rfl) ⟨by decide, by decide⟩ ⟨rfl, rfl⟩ (fun rv_ I_ r_ J_ hv_ => ?_)
      obtain ⟨a1_, a2_, a3_, a4_⟩ := hv_
      rw [gPut_f _ _ _ _ (by decide)] at a1_
      rw [a1_, a2_, a3_, a4_]
      show Wq MX7_firstWhite 88 [some (.ref 76), some (.ref 58), some (.int (nI y)), some (.int sh), some (.int much), some (.int (nI at0)), some (.ref b), some (.int (snlN I b hn hn)), some (.int (nI i))] [.int (whiteF ((fwG I b y hn sh st much at0 G (i + 1)) 6))] (gPut I 77 (fwG I b y hn sh st much at0 G (i + 1))) r J _
      refine x_if_eq (t := 96) (q := 91) dX7_firstWhite_88 (by decide) rfl (fun c88 => ?_) (fun c88 => ?_)
      · refine x_aload_n (q := 97) dX7_firstWhite_96 rfl rfl ?_
        refine q_gi (K := 2) (q := 100) dX7_firstWhite_97 rfl cl_1 (by decide) tw_430 rfl rfl ?_
        refine x_iload (q := 102) dX7_firstWhite_100 rfl rfl ?_
        refine x_iadd (q := 103) dX7_firstWhite_102 rfl ?_
        refine x_iconst (1) (q := 104) dX7_firstWhite_103 rfl (by decide) ?_
        refine x_iadd (q := 105) dX7_firstWhite_104 rfl ?_
        refine x_iload (q := 107) dX7_firstWhite_105 rfl rfl ?_
        refine x_icmp_lt (t := 112) (q := 110) dX7_firstWhite_107 (by decide) rfl (fun c107 => ?_) (fun c107 => ?_)
        · obtain ⟨v1, ev1⟩ : ∃ y : Int32, y = (nI i) + 1 := ⟨_, rfl⟩
          refine x_iinc (v := v1) (L2 := [some (.ref 76), some (.ref 58), some (.int (nI y)), some (.int sh), some (.int much), some (.int (nI at0)), some (.ref b), some (.int (snlN I b hn hn)), some (.int v1)]) (q := 115) dX7_firstWhite_112 rfl (by decide) rfl rfl (by rw [ev1]; rfl) rfl ?_
          refine x_goto (t := 29) dX7_firstWhite_115 (by decide) ?_
          have hw : whB (fwG I b y hn sh st much at0 G (i + 1)) = false := by
            rw [whiteF_B] at c88
            cases hx : whB (fwG I b y hn sh st much at0 G (i + 1)) with
            | false => rfl
            | true => rw [hx] at c88; exact absurd c88 (by decide)
          have e : fstW (fun k => whB (fwG I b y hn sh st much at0 G k)) i (f + 1) = fstW (fun k => whB (fwG I b y hn sh st much at0 G k)) (i + 1) f := by
            show (if whB (fwG I b y hn sh st much at0 G (i + 1)) then nI (i + 1) else fstW (fun k => whB (fwG I b y hn sh st much at0 G k)) (i + 1) f) = _
            rw [hw]
            rfl
          rw [e, show v1 = nI (i + 1) by rw [ev1, nI_p1]]
          exact ih (i + 1) (by omega)
        · refine x_iconst (-1) (q := 111) dX7_firstWhite_110 rfl (by decide) ?_
          refine q_iret dX7_firstWhite_111 rfl ?_
          refine ⟨?_, ⟨_, rfl⟩, rfl, rfl⟩
          have hw : whB (fwG I b y hn sh st much at0 G (i + 1)) = false := by
            rw [whiteF_B] at c88
            cases hx : whB (fwG I b y hn sh st much at0 G (i + 1)) with
            | false => rfl
            | true => rw [hx] at c88; exact absurd c88 (by decide)
          have hl : snlN I b hn hn ≤ nI (st + i + 1) := by
            have c107 := c107
            rw [e58, nI_add, nI_p1] at c107
            exact Int32.not_lt.mp c107
          have hall := early h hy hsh hm hc hG hn8 hst (show i < 72 by omega) hw hl
          have e : fstW (fun k => whB (fwG I b y hn sh st much at0 G k)) i (f + 1) = -1 := fstW_no _ _ (fun j j1 j2 => by
            obtain ⟨d, rfl⟩ : ∃ d, j = i + 1 + d := ⟨j - (i + 1), by omega⟩
            exact hall d (by omega))
          rw [e]
      · refine x_iload (q := 93) dX7_firstWhite_91 rfl rfl ?_
        refine x_iconst (1) (q := 94) dX7_firstWhite_93 rfl (by decide) ?_
        refine x_iadd (q := 95) dX7_firstWhite_94 rfl ?_
        refine q_iret dX7_firstWhite_95 rfl ?_
        refine ⟨?_, ⟨_, rfl⟩, rfl, rfl⟩
        have hw : whB (fwG I b y hn sh st much at0 G (i + 1)) = true := by
          rw [whiteF_B] at c88
          cases hx : whB (fwG I b y hn sh st much at0 G (i + 1)) with
          | true => rfl
          | false => rw [hx] at c88; exact absurd rfl c88
        have e : fstW (fun k => whB (fwG I b y hn sh st much at0 G k)) i (f + 1) = nI (i + 1) := if_pos hw
        rw [e, nI_p1]
    refine x_iload (q := 31) dX7_firstWhite_29 rfl rfl ?_
    refine x_bipush (72) (q := 33) dX7_firstWhite_31 rfl (by decide) ?_
    refine x_icmp_ge (t := 118) (q := 36) dX7_firstWhite_33 (by decide) rfl (fun c33 => absurd c33 (fun q => absurd ((nI_leI (a := 72) (by omega) (by omega)).mp q) (by omega))) (fun c33 => ?_)
    refine x_iload (q := 38) dX7_firstWhite_36 rfl rfl ?_
    refine x_iload (q := 40) dX7_firstWhite_38 rfl rfl ?_
    refine x_icmp_ne (t := 57) (q := 43) dX7_firstWhite_40 (by decide) rfl (fun c40 => ?_) (fun c40 => ?_)
    · have e : ¬ i = at0 := fun q => c40 (by rw [q])
      have e9 : sprG i at0 much (fwG I b y hn sh st much at0 G i) = (fwG I b y hn sh st much at0 G i) := if_neg e
      rw [e9] at k57
      exact k57
    · refine x_aload_n (q := 44) dX7_firstWhite_43 rfl rfl ?_
      refine q_gr (K := 0) (b := 77) (q := 47) dX7_firstWhite_44 rfl cl_7 (by decide) tw_455 rfl rfl rfl ?_
      refine x_dup (q := 48) dX7_firstWhite_47 rfl rfl ?_
      refine q_gi (K := 4) (q := 51) dX7_firstWhite_48 rfl cl_4 (by decide) tw_407 rfl rfl ?_
      refine x_iload (q := 53) dX7_firstWhite_51 rfl rfl ?_
      refine x_iadd (q := 54) dX7_firstWhite_53 rfl ?_
      refine q_pi (K := 4) (q := 57) dX7_firstWhite_54 rfl cl_4 (by decide) tw_407 rfl rfl rfl rfl (fun I1 eI1 => ?_)
      have e : i = at0 := (nI_eq (by omega) (by omega)).mp c40
      have e9 : I1 = gPut I 77 (sprG i at0 much (fwG I b y hn sh st much at0 G i)) := by
        rw [eI1, gPut_f _ _ _ _ (by decide), gPut_uf _ _ _ _ _ (by decide)]
        refine congrArg (gPut I 77) (Eq.symm (if_pos e))
      rw [e9]
      exact k57
set_option maxRecDepth 100000 in
theorem snl_77 {I : MI} {b hn : Nat} (hb : b ≤ 28) (F : GT) : ∀ k, snlN (gPut I 77 F) b hn k = snlN I b hn k := by
  intro k
  induction k with
  | zero => rfl
  | succ k ih =>
    unfold snlN
    rw [ih, gO77 (by omega) (by omega), gO77 (by omega) (by omega)]
theorem GC_copy {la n : Nat} {c : Int} {G F : GT} (h5 : la ≤ 5) (h : GC la n c G) : GC la n c (copyG G F) := by
  obtain ⟨⟨hW, a5, a6, a7, as, a8, a8'⟩, hc⟩ := h
  refine ⟨⟨fun j hj => ?_, a5, a6, a7, as, a8, a8'⟩, hc⟩
  have : j < 9 := by omega
  simp only [copyG, this, if_true]
  exact hW j hj
theorem la5 {I : MI} {b yn hn y : Nat} (h : LOk I b yn hn) (hy : y < yn) : 1 ≤ laN I b y ∧ laN I b y ≤ 5 := by
  obtain ⟨hb, e1, h8, e9, h12, hys, hh⟩ := h
  obtain ⟨so, la, q1, q2, q3, q4, q5, q6, q7, q8⟩ := hys y hy
  rw [la_of (so := so) q3 q5]
  exact ⟨q4, q5⟩
set_option maxRecDepth 100000 in
theorem c_fw {I : MI} {b yn hn y n st : Nat} {c : Int} (h : LOk I b yn hn) (hy : y < yn) {sh : Int32} (hsh : ShOk sh) {much : Int32} {at0 : Nat} (hm : 0 ≤ much.toInt ∧ much.toInt ≤ 99) (hat : at0 < 1000) (hc : c + 99 ≤ 20000) (F : GT) (hG : GC (laN I b y) n c (gGet I (60 + 2 * y))) (hn8 : n ≤ 800) (est : I 58 2 = nI st) (hst : st ≤ 720) (r : MR) (hr3 : r 3 = b) (J : MJ) : Cq yX7_firstWhite MX7_firstWhite [.ref 76, .ref 58, .int (nI y), .int sh, .int much, .int (nI at0)] (gPut I 77 F) r J (Rs (fstW (fun k => whB (fwG I b y hn sh st much at0 (copyG (gGet I (60 + 2 * y)) F) k)) 0 72) I 77 r J) := by
  have hb := h.1
  have hb9 := sh_L1 hb
  have hy8 : y < 8 := by have := h.2.2.1; omega
  have e58 : ∀ F, gPut I 77 F 58 2 = nI st := fun F => by rw [gO77 (by decide) (by decide)]; exact est
  have esn : snlN (gPut I 77 F) b hn hn = snlN I b hn hn := snl_77 (by omega) F hn
  refine cq_of [some (.ref 76), some (.ref 58), some (.int (nI y)), some (.int sh), some (.int much), some (.int (nI at0)), none, none, none] 3 (by decide +kernel) rfl rfl (Nat.le_of_ble_eq_true rfl) rfl ?_
  refine x_aload_n (q := 1) dX7_firstWhite_0 rfl rfl ?_
  refine q_gr (K := 0) (b := b) (q := 4) dX7_firstWhite_1 rfl cl_1 (by decide) tw_422 rfl rfl (by rw [← hr3]; rfl) ?_
  refine x_astore (L2 := [some (.ref 76), some (.ref 58), some (.int (nI y)), some (.int sh), some (.int much), some (.int (nI at0)), some (.ref b), none, none]) (q := 6) dX7_firstWhite_4 rfl (by decide) rfl rfl ?_
  refine x_aload (q := 8) dX7_firstWhite_6 rfl rfl ?_
  refine q_callV (ci := 5) (N := 18) (T := TX5) (As := []) (rest := []) (q := 11) dX7_firstWhite_8 rfl okX5_snowlessFrom tw_847 hb rfl (c_snl hb h.2.2.2.2.1 _ (by rw [gO77 (by omega) (by omega)]; exact h.2.2.2.1) _ _) rfl rfl (Nat.le_of_ble_eq_true rfl) ⟨by decide, by decide⟩ ⟨rfl, rfl⟩ (fun rv_ I_ r_ J_ hv_ => ?_)
  obtain ⟨a1_, a2_, a3_, a4_⟩ := hv_
  rw [esn] at a1_
  rw [a1_, a2_, a3_, a4_]
  show Wq MX7_firstWhite 11 [some (.ref 76), some (.ref 58), some (.int (nI y)), some (.int sh), some (.int much), some (.int (nI at0)), some (.ref b), none, none] [.int (snlN I b hn hn)] (gPut I 77 F) r J _
  refine x_nmi (fun v1 ev1 => ?_)
  refine x_istore (L2 := [some (.ref 76), some (.ref 58), some (.int (nI y)), some (.int sh), some (.int much), some (.int (nI at0)), some (.ref b), some (.int v1), none]) (q := 13) dX7_firstWhite_11 rfl (by decide) rfl rfl ?_
  refine x_aload_n (q := 14) dX7_firstWhite_13 rfl rfl ?_
  refine q_gr (K := 0) (b := 77) (q := 17) dX7_firstWhite_14 rfl cl_7 (by decide) tw_455 rfl rfl rfl ?_
  refine x_aload_n (q := 18) dX7_firstWhite_17 rfl rfl ?_
  refine q_gr (K := 1) (b := 59) (q := 21) dX7_firstWhite_18 rfl cl_1 (by decide) tw_427 rfl rfl rfl ?_
  refine x_iload_n (q := 22) dX7_firstWhite_21 rfl rfl ?_
  refine q_aald5 (b := (60 + 2 * y)) (q := 23) dX7_firstWhite_22 rfl rfl (vp_in_nI hy8 (by decide)) (by rw [nI_clamp (by omega)]; exact (gy_w hy8 _).1) ?_
  refine q_callV (ci := 4) (N := 5) (T := TX4) (As := [.ref (60 + 2 * y)]) (rest := []) (q := 26) dX7_firstWhite_23 rfl okX4_copy tw_852 rfl rfl (c_copy rfl (gy_w hy8 r).2 (by omega) (by omega) I F r J) rfl rfl (Nat.le_of_ble_eq_true rfl) ⟨by decide, by decide⟩ ⟨rfl, rfl⟩ (fun rv_ I_ r_ J_ hv_ => ?_)
  obtain ⟨a1_, a2_, a3_, a4_⟩ := hv_
  rw [a1_, a2_, a3_, a4_]
  show Wq MX7_firstWhite 26 [some (.ref 76), some (.ref 58), some (.int (nI y)), some (.int sh), some (.int much), some (.int (nI at0)), some (.ref b), some (.int v1), none] [] (gPut I 77 (copyG (gGet I (60 + 2 * y)) F)) r J _
  refine x_iconst (0) (q := 27) dX7_firstWhite_26 rfl (by decide) ?_
  refine x_istore (L2 := [some (.ref 76), some (.ref 58), some (.int (nI y)), some (.int sh), some (.int much), some (.int (nI at0)), some (.ref b), some (.int v1), some (.int 0)]) (q := 29) dX7_firstWhite_27 rfl (by decide) rfl rfl ?_
  rw [ev1]
  exact l_fw h hy hsh hm hat hc (GC_copy (la5 h hy).2 hG) hn8 est hst r hr3 J 72 0 rfl
