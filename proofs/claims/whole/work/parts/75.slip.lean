theorem cnd_0 {c : Bool} {k g : Nat} {s : Nat × Nat × Nat} (h : (if c then rf k g s else s).1 = 0) (hk : 1 ≤ k) : c = false ∧ s.1 = 0 ∧ (if c then rf k g s else s) = s := by
  cases c with
  | false => exact ⟨rfl, h, rfl⟩
  | true => exact absurd h (rf_n hk)
theorem bb_1 {c : Bool} (h : ¬ (if c then (1 : Int32) else 0) = 0) : c = true := by
  cases c with
  | false => exact absurd rfl h
  | true => rfl
theorem bb_0 {c : Bool} (h : (if c then (1 : Int32) else 0) = 0) : ¬ c = true := by
  cases c with
  | false => decide
  | true => exact absurd h (by decide)
def hsF (A : MI) (x : Int32) : Nat → Bool
  | 0 => false
  | k + 1 => hsF A x k || decide (A 8 k = x)
def hwF (A : MI) (x y : Int32) : Nat → Bool
  | 0 => false
  | k + 1 => hwF A x y k || (decide (A 2 k = x) && decide (A 3 k = y) || decide (A 2 k = y) && decide (A 3 k = x))
theorem hsF_1 {A : MI} {x : Int32} {i : Nat} (h : A 8 i = x) : ∀ k, i < k → hsF A x k = true := by
  intro k
  induction k with
  | zero => intro z; omega
  | succ k ih =>
    intro z
    unfold hsF
    by_cases e : i = k
    · rw [← e, h]; simp
    · rw [ih (by omega)]; rfl
theorem hwF_1 {A : MI} {x y : Int32} {i : Nat} (h : (A 2 i = x ∧ A 3 i = y) ∨ (A 2 i = y ∧ A 3 i = x)) : ∀ k, i < k → hwF A x y k = true := by
  intro k
  induction k with
  | zero => intro z; omega
  | succ k ih =>
    intro z
    unfold hwF
    by_cases e : i = k
    · rw [← e]
      rcases h with h | h
      · rw [h.1, h.2]; simp
      · rw [h.1, h.2]; simp
    · rw [ih (by omega)]; rfl
set_option maxRecDepth 100000 in
theorem l_hsl {A : MI} {b : Nat} (hb : SH b = (15, 18)) {X : MI} (ca : CA A b X) (r : MR) (J : MJ) {sn : Nat} (x12 : X b 12 = nI sn) (h7 : sn ≤ 7) (x : Int32) : ∀ (f : Nat) (i : Nat) (_ : i + f = sn) (_ : hsF A x i = false), Wq MX5_hasSlip 2 [some (.ref b), some (.int x), some (.int (nI i))] [] X r J (Rt (some (.int (if hsF A x sn then 1 else 0))) X r J) := by
  intro f
  induction f with
  | zero =>
    intro i hik hf
    refine x_iload_n (q := 3) dX5_hasSlip_2 rfl rfl ?_
    refine x_aload_n (q := 4) dX5_hasSlip_3 rfl rfl ?_
    refine q_gi (K := 12) (q := 7) dX5_hasSlip_4 rfl cl_5 (by decide) tw_210 hb rfl ?_
    refine x_icmp_ge (t := 28) (q := 10) dX5_hasSlip_7 (by decide) rfl (fun c7 => ?_) (fun c7 => absurd c7 (fun q => q (by rw [x12]; exact nI_le (by omega) (by omega))))
    refine x_iconst (0) (q := 29) dX5_hasSlip_28 rfl (by decide) ?_
    refine q_zret dX5_hasSlip_29 rfl (Or.inl rfl) ?_
    rw [show i = sn by omega] at hf
    rw [hf]
    exact ⟨rfl, rfl, rfl, rfl⟩
  | succ f ih =>
    intro i hik hf
    have e8 : X (b + 8) (nI i).toNatClampNeg = A 8 i := by rw [nI_clamp (by omega), ca 8 (by decide)]
    refine x_iload_n (q := 3) dX5_hasSlip_2 rfl rfl ?_
    refine x_aload_n (q := 4) dX5_hasSlip_3 rfl rfl ?_
    refine q_gi (K := 12) (q := 7) dX5_hasSlip_4 rfl cl_5 (by decide) tw_210 hb rfl ?_
    refine x_icmp_ge (t := 28) (q := 10) dX5_hasSlip_7 (by decide) rfl (fun c7 => absurd c7 (by rw [x12]; exact nI_ge (by omega) (by omega))) (fun c7 => ?_)
    refine x_aload_n (q := 11) dX5_hasSlip_10 rfl rfl ?_
    refine q_gr (K := 10) (b := (b + 8)) (q := 14) dX5_hasSlip_11 rfl cl_5 (by decide) tw_201 hb rfl (lr_w hb _).2.2.2.2.2.2.2.1 ?_
    refine x_iload_n (q := 15) dX5_hasSlip_14 rfl rfl ?_
    refine q_iald (q := 16) dX5_hasSlip_15 rfl (ls_w hb).2.2.2.2.2.2.2.1 (vp_in_nI (by omega) (by decide)) ?_
    refine x_iload_n (q := 17) dX5_hasSlip_16 rfl rfl ?_
    refine x_icmp_ne (t := 22) (q := 20) dX5_hasSlip_17 (by decide) rfl (fun c17 => ?_) (fun c17 => ?_)
    · obtain ⟨v1, ev1⟩ : ∃ y_ : Int32, y_ = (nI i) + 1 := ⟨_, rfl⟩
      refine x_iinc (v := v1) (L2 := [some (.ref b), some (.int x), some (.int v1)]) (q := 25) dX5_hasSlip_22 rfl (by decide) rfl rfl (by rw [ev1]; rfl) rfl ?_
      refine x_goto (t := 2) dX5_hasSlip_25 (by decide) ?_
      rw [e8] at c17
      rw [show v1 = nI (i + 1) by rw [ev1, nI_p1]]
      refine ih (i + 1) (by omega) ?_
      show (hsF A x i || decide (A 8 i = x)) = false
      rw [hf, decide_eq_false c17]; rfl
    · refine x_iconst (1) (q := 21) dX5_hasSlip_20 rfl (by decide) ?_
      refine q_zret dX5_hasSlip_21 rfl (Or.inr rfl) ?_
      rw [e8] at c17
      rw [hsF_1 c17 sn (by omega)]
      exact ⟨rfl, rfl, rfl, rfl⟩
set_option maxRecDepth 100000 in
theorem c_hsl {A : MI} {b : Nat} (hb : SH b = (15, 18)) {X : MI} (ca : CA A b X) (r : MR) (J : MJ) {sn : Nat} (x12 : X b 12 = nI sn) (h7 : sn ≤ 7) (x : Int32) : Cq yX5_hasSlip MX5_hasSlip [.ref b, .int x] X r J (Rt (some (.int (if hsF A x sn then 1 else 0))) X r J) := by
  refine cq_of [some (.ref b), some (.int x), none] 1 (by decide +kernel) rfl rfl (Nat.le_of_ble_eq_true rfl) rfl ?_
  refine x_iconst (0) (q := 1) dX5_hasSlip_0 rfl (by decide) ?_
  refine x_istore_n (L2 := [some (.ref b), some (.int x), some (.int 0)]) (q := 2) dX5_hasSlip_1 rfl (by decide) rfl rfl ?_
  exact l_hsl hb ca r J x12 h7 x sn 0 (by omega) rfl
set_option maxRecDepth 100000 in
theorem l_hwy {A : MI} {b : Nat} (hb : SH b = (15, 18)) {X : MI} (ca : CA A b X) (r : MR) (J : MJ) {wn : Nat} (x5 : X b 5 = nI wn) (h16 : wn ≤ 16) (x y : Int32) : ∀ (f : Nat) (i : Nat) (_ : i + f = wn) (_ : hwF A x y i = false), Wq MX5_hasWay 2 [some (.ref b), some (.int x), some (.int y), some (.int (nI i))] [] X r J (Rt (some (.int (if hwF A x y wn then 1 else 0))) X r J) := by
  intro f
  induction f with
  | zero =>
    intro i hik hf
    refine x_iload_n (q := 3) dX5_hasWay_2 rfl rfl ?_
    refine x_aload_n (q := 4) dX5_hasWay_3 rfl rfl ?_
    refine q_gi (K := 5) (q := 7) dX5_hasWay_4 rfl cl_5 (by decide) tw_184 hb rfl ?_
    refine x_icmp_ge (t := 58) (q := 10) dX5_hasWay_7 (by decide) rfl (fun c7 => ?_) (fun c7 => absurd c7 (fun q => q (by rw [x5]; exact nI_le (by omega) (by omega))))
    refine x_iconst (0) (q := 59) dX5_hasWay_58 rfl (by decide) ?_
    refine q_zret dX5_hasWay_59 rfl (Or.inl rfl) ?_
    rw [show i = wn by omega] at hf
    rw [hf]
    exact ⟨rfl, rfl, rfl, rfl⟩
  | succ f ih =>
    intro i hik hf
    have e2 : X (b + 2) (nI i).toNatClampNeg = A 2 i := by rw [nI_clamp (by omega), ca 2 (by decide)]
    have e3 : X (b + 3) (nI i).toNatClampNeg = A 3 i := by rw [nI_clamp (by omega), ca 3 (by decide)]
    refine x_iload_n (q := 3) dX5_hasWay_2 rfl rfl ?_
    refine x_aload_n (q := 4) dX5_hasWay_3 rfl rfl ?_
    refine q_gi (K := 5) (q := 7) dX5_hasWay_4 rfl cl_5 (by decide) tw_184 hb rfl ?_
    refine x_icmp_ge (t := 58) (q := 10) dX5_hasWay_7 (by decide) rfl (fun c7 => absurd c7 (by rw [x5]; exact nI_ge (by omega) (by omega))) (fun c7 => ?_)
    refine x_aload_n (q := 11) dX5_hasWay_10 rfl rfl ?_
    refine q_gr (K := 2) (b := (b + 2)) (q := 14) dX5_hasWay_11 rfl cl_5 (by decide) tw_172 hb rfl (lr_w hb _).2.1 ?_
    refine x_iload_n (q := 15) dX5_hasWay_14 rfl rfl ?_
    refine q_iald (q := 16) dX5_hasWay_15 rfl (ls_w hb).2.1 (vp_in_nI (by omega) (by decide)) ?_
    refine x_iload_n (q := 17) dX5_hasWay_16 rfl rfl ?_
    refine x_icmp_ne (t := 30) (q := 20) dX5_hasWay_17 (by decide) rfl (fun c17 => ?_) (fun c17 => ?_)
    · have n1 : ¬ (A 2 i = x ∧ A 3 i = y) := by
        rintro ⟨g1, g2⟩
        first
        | exact c17 (by rw [e2]; exact g1)
        | exact cf (by rw [e3]; exact g2)
      refine x_aload_n (q := 31) dX5_hasWay_30 rfl rfl ?_
      refine q_gr (K := 2) (b := (b + 2)) (q := 34) dX5_hasWay_31 rfl cl_5 (by decide) tw_172 hb rfl (lr_w hb _).2.1 ?_
      refine x_iload_n (q := 35) dX5_hasWay_34 rfl rfl ?_
      refine q_iald (q := 36) dX5_hasWay_35 rfl (ls_w hb).2.1 (vp_in_nI (by omega) (by decide)) ?_
      refine x_iload_n (q := 37) dX5_hasWay_36 rfl rfl ?_
      refine x_icmp_ne (t := 52) (q := 40) dX5_hasWay_37 (by decide) rfl (fun c37 => ?_) (fun c37 => ?_)
      · obtain ⟨v11, ev11⟩ : ∃ y_ : Int32, y_ = (nI i) + 1 := ⟨_, rfl⟩
        refine x_iinc (v := v11) (L2 := [some (.ref b), some (.int x), some (.int y), some (.int v11)]) (q := 55) dX5_hasWay_52 rfl (by decide) rfl rfl (by rw [ev11]; rfl) rfl ?_
        refine x_goto (t := 2) dX5_hasWay_55 (by decide) ?_
        have n2 : ¬ (A 2 i = y ∧ A 3 i = x) := by
          rintro ⟨g1, g2⟩
          first
          | exact c37 (by rw [e2]; exact g1)
          | exact cf (by rw [e3]; exact g2)
        rw [show v11 = nI (i + 1) by rw [ev11, nI_p1]]
        refine ih (i + 1) (by omega) ?_
        have hno : ¬ ((A 2 i = x ∧ A 3 i = y) ∨ (A 2 i = y ∧ A 3 i = x)) := by
          rintro (⟨g1, g2⟩ | ⟨g1, g2⟩)
          · first
            | exact n1 ⟨g1, g2⟩
          · first
            | exact n2 ⟨g1, g2⟩
        show (hwF A x y i || (decide (A 2 i = x) && decide (A 3 i = y) || decide (A 2 i = y) && decide (A 3 i = x))) = false
        rw [hf]
        simp only [not_or, not_and] at hno
        by_cases g1 : A 2 i = x
        · have g2 := hno.1 g1
          rw [decide_eq_false g2]
          by_cases g3 : A 2 i = y
          · rw [decide_eq_false (hno.2 g3)]; simp
          · rw [decide_eq_false g3]; simp
        · rw [decide_eq_false g1]
          by_cases g3 : A 2 i = y
          · rw [decide_eq_false (hno.2 g3)]; simp
          · rw [decide_eq_false g3]; simp
      · refine x_aload_n (q := 41) dX5_hasWay_40 rfl rfl ?_
        refine q_gr (K := 3) (b := (b + 3)) (q := 44) dX5_hasWay_41 rfl cl_5 (by decide) tw_176 hb rfl (lr_w hb _).2.2.1 ?_
        refine x_iload_n (q := 45) dX5_hasWay_44 rfl rfl ?_
        refine q_iald (q := 46) dX5_hasWay_45 rfl (ls_w hb).2.2.1 (vp_in_nI (by omega) (by decide)) ?_
        refine x_iload_n (q := 47) dX5_hasWay_46 rfl rfl ?_
        refine x_icmp_ne (t := 52) (q := 50) dX5_hasWay_47 (by decide) rfl (fun cf => ?_) (fun cf => ?_)
        · obtain ⟨v12, ev12⟩ : ∃ y_ : Int32, y_ = (nI i) + 1 := ⟨_, rfl⟩
          refine x_iinc (v := v12) (L2 := [some (.ref b), some (.int x), some (.int y), some (.int v12)]) (q := 55) dX5_hasWay_52 rfl (by decide) rfl rfl (by rw [ev12]; rfl) rfl ?_
          refine x_goto (t := 2) dX5_hasWay_55 (by decide) ?_
          have n2 : ¬ (A 2 i = y ∧ A 3 i = x) := by
            rintro ⟨g1, g2⟩
            first
            | exact c37 (by rw [e2]; exact g1)
            | exact cf (by rw [e3]; exact g2)
          rw [show v12 = nI (i + 1) by rw [ev12, nI_p1]]
          refine ih (i + 1) (by omega) ?_
          have hno : ¬ ((A 2 i = x ∧ A 3 i = y) ∨ (A 2 i = y ∧ A 3 i = x)) := by
            rintro (⟨g1, g2⟩ | ⟨g1, g2⟩)
            · first
              | exact n1 ⟨g1, g2⟩
            · first
              | exact n2 ⟨g1, g2⟩
          show (hwF A x y i || (decide (A 2 i = x) && decide (A 3 i = y) || decide (A 2 i = y) && decide (A 3 i = x))) = false
          rw [hf]
          simp only [not_or, not_and] at hno
          by_cases g1 : A 2 i = x
          · have g2 := hno.1 g1
            rw [decide_eq_false g2]
            by_cases g3 : A 2 i = y
            · rw [decide_eq_false (hno.2 g3)]; simp
            · rw [decide_eq_false g3]; simp
          · rw [decide_eq_false g1]
            by_cases g3 : A 2 i = y
            · rw [decide_eq_false (hno.2 g3)]; simp
            · rw [decide_eq_false g3]; simp
        · have hi : (A 2 i = x ∧ A 3 i = y) ∨ (A 2 i = y ∧ A 3 i = x) := by
            first
            | exact Or.inl ⟨by rw [e2] at c17; exact c17, by rw [e3] at cf; exact cf⟩
            | exact Or.inr ⟨by rw [e2] at c37; exact c37, by rw [e3] at cf; exact cf⟩
          refine x_iconst (1) (q := 51) dX5_hasWay_50 rfl (by decide) ?_
          refine q_zret dX5_hasWay_51 rfl (Or.inr rfl) ?_
          rw [hwF_1 hi wn (by omega)]
          exact ⟨rfl, rfl, rfl, rfl⟩
    · refine x_aload_n (q := 21) dX5_hasWay_20 rfl rfl ?_
      refine q_gr (K := 3) (b := (b + 3)) (q := 24) dX5_hasWay_21 rfl cl_5 (by decide) tw_176 hb rfl (lr_w hb _).2.2.1 ?_
      refine x_iload_n (q := 25) dX5_hasWay_24 rfl rfl ?_
      refine q_iald (q := 26) dX5_hasWay_25 rfl (ls_w hb).2.2.1 (vp_in_nI (by omega) (by decide)) ?_
      refine x_iload_n (q := 27) dX5_hasWay_26 rfl rfl ?_
      refine x_icmp_eq (t := 50) (q := 30) dX5_hasWay_27 (by decide) rfl (fun cf => ?_) (fun cf => ?_)
      · have hi : (A 2 i = x ∧ A 3 i = y) ∨ (A 2 i = y ∧ A 3 i = x) := by
          first
          | exact Or.inl ⟨by rw [e2] at c17; exact c17, by rw [e3] at cf; exact cf⟩
          | exact Or.inr ⟨by rw [e2] at c37; exact c37, by rw [e3] at cf; exact cf⟩
        refine x_iconst (1) (q := 51) dX5_hasWay_50 rfl (by decide) ?_
        refine q_zret dX5_hasWay_51 rfl (Or.inr rfl) ?_
        rw [hwF_1 hi wn (by omega)]
        exact ⟨rfl, rfl, rfl, rfl⟩
      · have n1 : ¬ (A 2 i = x ∧ A 3 i = y) := by
          rintro ⟨g1, g2⟩
          first
          | exact c17 (by rw [e2]; exact g1)
          | exact cf (by rw [e3]; exact g2)
        refine x_aload_n (q := 31) dX5_hasWay_30 rfl rfl ?_
        refine q_gr (K := 2) (b := (b + 2)) (q := 34) dX5_hasWay_31 rfl cl_5 (by decide) tw_172 hb rfl (lr_w hb _).2.1 ?_
        refine x_iload_n (q := 35) dX5_hasWay_34 rfl rfl ?_
        refine q_iald (q := 36) dX5_hasWay_35 rfl (ls_w hb).2.1 (vp_in_nI (by omega) (by decide)) ?_
        refine x_iload_n (q := 37) dX5_hasWay_36 rfl rfl ?_
        refine x_icmp_ne (t := 52) (q := 40) dX5_hasWay_37 (by decide) rfl (fun c37 => ?_) (fun c37 => ?_)
        · obtain ⟨v11, ev11⟩ : ∃ y_ : Int32, y_ = (nI i) + 1 := ⟨_, rfl⟩
          refine x_iinc (v := v11) (L2 := [some (.ref b), some (.int x), some (.int y), some (.int v11)]) (q := 55) dX5_hasWay_52 rfl (by decide) rfl rfl (by rw [ev11]; rfl) rfl ?_
          refine x_goto (t := 2) dX5_hasWay_55 (by decide) ?_
          have n2 : ¬ (A 2 i = y ∧ A 3 i = x) := by
            rintro ⟨g1, g2⟩
            first
            | exact c37 (by rw [e2]; exact g1)
            | exact cf (by rw [e3]; exact g2)
          rw [show v11 = nI (i + 1) by rw [ev11, nI_p1]]
          refine ih (i + 1) (by omega) ?_
          have hno : ¬ ((A 2 i = x ∧ A 3 i = y) ∨ (A 2 i = y ∧ A 3 i = x)) := by
            rintro (⟨g1, g2⟩ | ⟨g1, g2⟩)
            · first
              | exact n1 ⟨g1, g2⟩
            · first
              | exact n2 ⟨g1, g2⟩
          show (hwF A x y i || (decide (A 2 i = x) && decide (A 3 i = y) || decide (A 2 i = y) && decide (A 3 i = x))) = false
          rw [hf]
          simp only [not_or, not_and] at hno
          by_cases g1 : A 2 i = x
          · have g2 := hno.1 g1
            rw [decide_eq_false g2]
            by_cases g3 : A 2 i = y
            · rw [decide_eq_false (hno.2 g3)]; simp
            · rw [decide_eq_false g3]; simp
          · rw [decide_eq_false g1]
            by_cases g3 : A 2 i = y
            · rw [decide_eq_false (hno.2 g3)]; simp
            · rw [decide_eq_false g3]; simp
        · refine x_aload_n (q := 41) dX5_hasWay_40 rfl rfl ?_
          refine q_gr (K := 3) (b := (b + 3)) (q := 44) dX5_hasWay_41 rfl cl_5 (by decide) tw_176 hb rfl (lr_w hb _).2.2.1 ?_
          refine x_iload_n (q := 45) dX5_hasWay_44 rfl rfl ?_
          refine q_iald (q := 46) dX5_hasWay_45 rfl (ls_w hb).2.2.1 (vp_in_nI (by omega) (by decide)) ?_
          refine x_iload_n (q := 47) dX5_hasWay_46 rfl rfl ?_
          refine x_icmp_ne (t := 52) (q := 50) dX5_hasWay_47 (by decide) rfl (fun cf => ?_) (fun cf => ?_)
          · obtain ⟨v12, ev12⟩ : ∃ y_ : Int32, y_ = (nI i) + 1 := ⟨_, rfl⟩
            refine x_iinc (v := v12) (L2 := [some (.ref b), some (.int x), some (.int y), some (.int v12)]) (q := 55) dX5_hasWay_52 rfl (by decide) rfl rfl (by rw [ev12]; rfl) rfl ?_
            refine x_goto (t := 2) dX5_hasWay_55 (by decide) ?_
            have n2 : ¬ (A 2 i = y ∧ A 3 i = x) := by
              rintro ⟨g1, g2⟩
              first
              | exact c37 (by rw [e2]; exact g1)
              | exact cf (by rw [e3]; exact g2)
            rw [show v12 = nI (i + 1) by rw [ev12, nI_p1]]
            refine ih (i + 1) (by omega) ?_
            have hno : ¬ ((A 2 i = x ∧ A 3 i = y) ∨ (A 2 i = y ∧ A 3 i = x)) := by
              rintro (⟨g1, g2⟩ | ⟨g1, g2⟩)
              · first
                | exact n1 ⟨g1, g2⟩
              · first
                | exact n2 ⟨g1, g2⟩
            show (hwF A x y i || (decide (A 2 i = x) && decide (A 3 i = y) || decide (A 2 i = y) && decide (A 3 i = x))) = false
            rw [hf]
            simp only [not_or, not_and] at hno
            by_cases g1 : A 2 i = x
            · have g2 := hno.1 g1
              rw [decide_eq_false g2]
              by_cases g3 : A 2 i = y
              · rw [decide_eq_false (hno.2 g3)]; simp
              · rw [decide_eq_false g3]; simp
            · rw [decide_eq_false g1]
              by_cases g3 : A 2 i = y
              · rw [decide_eq_false (hno.2 g3)]; simp
              · rw [decide_eq_false g3]; simp
          · have hi : (A 2 i = x ∧ A 3 i = y) ∨ (A 2 i = y ∧ A 3 i = x) := by
              first
              | exact Or.inl ⟨by rw [e2] at c17; exact c17, by rw [e3] at cf; exact cf⟩
              | exact Or.inr ⟨by rw [e2] at c37; exact c37, by rw [e3] at cf; exact cf⟩
            refine x_iconst (1) (q := 51) dX5_hasWay_50 rfl (by decide) ?_
            refine q_zret dX5_hasWay_51 rfl (Or.inr rfl) ?_
            rw [hwF_1 hi wn (by omega)]
            exact ⟨rfl, rfl, rfl, rfl⟩
set_option maxRecDepth 100000 in
theorem c_hwy {A : MI} {b : Nat} (hb : SH b = (15, 18)) {X : MI} (ca : CA A b X) (r : MR) (J : MJ) {wn : Nat} (x5 : X b 5 = nI wn) (h16 : wn ≤ 16) (x y : Int32) : Cq yX5_hasWay MX5_hasWay [.ref b, .int x, .int y] X r J (Rt (some (.int (if hwF A x y wn then 1 else 0))) X r J) := by
  refine cq_of [some (.ref b), some (.int x), some (.int y), none] 1 (by decide +kernel) rfl rfl (Nat.le_of_ble_eq_true rfl) rfl ?_
  refine x_iconst (0) (q := 1) dX5_hasWay_0 rfl (by decide) ?_
  refine x_istore_n (L2 := [some (.ref b), some (.int x), some (.int y), some (.int 0)]) (q := 2) dX5_hasWay_1 rfl (by decide) rfl rfl ?_
  exact l_hwy hb ca r J x5 h16 x y wn 0 (by omega) rfl
set_option maxRecDepth 100000 in
theorem c_psl_f {T : Nat → Nat} {n : Nat} {r : MR} (h4 : r 4 = 1) {b : Nat} (h2 : r 2 = b) (hb : SH b = (15, 18)) (hrg : 2 ≤ b ∧ b + 26 ≤ 54) {X : MI} {J : MJ} {s : Nat × Nat × Nat} (h : PS T n s X J) {A : MI} {yn wn hn sn : Nat} (hD : CD T n A b yn wn hn sn X J) (hf : 7 ≤ sn) : Cq yX8_parseSlip MX8_parseSlip [.ref 54] X r J (RLn T n (rfT T n s) b (fun _ _ => False) X J r) := by
  obtain ⟨ca0, cn0, k1, k5, k9, k12, y8, w16, h12, s7_, tb, t256, k17⟩ := hD
  have fd0 : FD b X J X J := FD.rf
  have ps0 := h
  have hb0 : X b = X b := rfl
  have x1 : X b 1 = nI yn := by rw [ca0.b]; exact k1
  have x5 : X b 5 = nI wn := by rw [ca0.b]; exact k5
  have x9 : X b 9 = nI hn := by rw [ca0.b]; exact k9
  have x12 : X b 12 = nI sn := by rw [ca0.b]; exact k12
  refine cq_of [some (.ref 54), none] 1 (by decide +kernel) rfl rfl (Nat.le_of_ble_eq_true rfl) rfl ?_
  refine x_aload_n (q := 1) dX8_parseSlip_0 rfl rfl ?_
  refine q_gr (K := 1) (b := b) (q := 4) dX8_parseSlip_1 rfl cl_8 (by decide) tw_366 rfl rfl (congrArg some h2) ?_
  refine q_gi (K := 12) (q := 7) dX8_parseSlip_4 rfl cl_5 (by decide) tw_213 hb rfl ?_
  refine x_bipush (7) (q := 9) dX8_parseSlip_7 rfl (by decide) ?_
  refine x_icmp_lt (t := 17) (q := 12) dX8_parseSlip_9 (by decide) rfl (fun c9 => absurd c9 (fun z => absurd ((nI_ltI (a := sn) (b := 7) (by omega) (by decide)).mp (by rw [x12] at z; exact z)) (by omega))) (fun c9 => ?_)
  refine x_aload_n (q := 13) dX8_parseSlip_12 rfl rfl ?_
  refine q_callV (ci := 8) (N := 5) (T := TX8) (As := []) (rest := []) (q := 16) dX8_parseSlip_13 rfl okX8_refuseToken tw_665 rfl rfl (c_rfT h4 ps0) rfl rfl (Nat.le_of_ble_eq_true rfl) ⟨by decide, by decide⟩ ⟨rfl, rfl⟩ (fun rv_ V1 r_ K1 hv_ => ?_)
  obtain ⟨a1_, ⟨ps1, fp1⟩, a3_⟩ := hv_
  rw [a1_, a3_]
  obtain ⟨t1, et1⟩ : ∃ z, z = rfT T n s := ⟨_, rfl⟩
  rw [← et1] at ps1
  have ca1 := CA_f ca0 fp1.w hrg
  have fd1 := fd0.tr (FW.d (b := b) fp1.w)
  have cn1 := CN_f cn0 fp1.w hrg
  have hb1 : V1 b = X b := Eq.trans (fp1.w.1 b (by omega) (by omega)) hb0
  show Wq MX8_parseSlip 16 [some (.ref 54), none] [] V1 r K1 _
  refine q_vret dX8_parseSlip_16 rfl ?_
  refine ⟨rfl, ⟨?_, fd1, fun z => absurd z rfT_n⟩, rfl⟩
  rw [← et1]; exact ps1
def slC (T : Nat → Nat) (n : Nat) (A : MI) (sn : Nat) (s : Nat × Nat × Nat) : Nat × Nat × Nat := if hsF A (tvV_ T n (adv T n s)) sn then rf 3 (sk T n (adv T n s).2.2) (tvaT T n 50 (adv T n s)) else tvaT T n 50 (adv T n s)
def slS (T : Nat → Nat) (n : Nat) (A : MI) (sn : Nat) (s : Nat × Nat × Nat) : Nat × Nat × Nat := tnuT T n 1 99 (tkw T n 19 (slC T n A sn s))
def slA (T : Nat → Nat) (n : Nat) (s : Nat × Nat × Nat) (A : MI) (sn : Nat) : MI := upI (upI (upI A 8 sn (tvV_ T n (adv T n s))) 9 sn (nI (vl T n (tkw T n 19 (slC T n A sn s)).2.2))) 0 12 (nI (sn + 1))
set_option maxRecDepth 100000 in
theorem c_psl {T : Nat → Nat} {n : Nat} {r : MR} (h4 : r 4 = 1) {b : Nat} (h2 : r 2 = b) (hb : SH b = (15, 18)) (hrg : 2 ≤ b ∧ b + 26 ≤ 54) {X : MI} {J : MJ} {s : Nat × Nat × Nat} (h : PS T n s X J) {A : MI} {yn wn hn sn : Nat} (hD : CD T n A b yn wn hn sn X J) (hf : sn < 7) : Cq yX8_parseSlip MX8_parseSlip [.ref 54] X r J (RLn T n (slS T n A sn s) b (CD T n (slA T n s A sn) b yn wn hn (sn + 1)) X J r) := by
  obtain ⟨ca0, cn0, k1, k5, k9, k12, y8, w16, h12, s7_, tb, t256, k17⟩ := hD
  have fd0 : FD b X J X J := FD.rf
  have ps0 := h
  have hb0 : X b = X b := rfl
  have x1 : X b 1 = nI yn := by rw [ca0.b]; exact k1
  have x5 : X b 5 = nI wn := by rw [ca0.b]; exact k5
  have x9 : X b 9 = nI hn := by rw [ca0.b]; exact k9
  have x12 : X b 12 = nI sn := by rw [ca0.b]; exact k12
  refine cq_of [some (.ref 54), none] 1 (by decide +kernel) rfl rfl (Nat.le_of_ble_eq_true rfl) rfl ?_
  refine x_aload_n (q := 1) dX8_parseSlip_0 rfl rfl ?_
  refine q_gr (K := 1) (b := b) (q := 4) dX8_parseSlip_1 rfl cl_8 (by decide) tw_366 rfl rfl (congrArg some h2) ?_
  refine q_gi (K := 12) (q := 7) dX8_parseSlip_4 rfl cl_5 (by decide) tw_213 hb rfl ?_
  refine x_bipush (7) (q := 9) dX8_parseSlip_7 rfl (by decide) ?_
  refine x_icmp_lt (t := 17) (q := 12) dX8_parseSlip_9 (by decide) rfl (fun c9 => ?_) (fun c9 => absurd c9 (fun z => z (by rw [x12]; exact nI_lt (b := 7) (by omega) (by decide))))
  refine x_aload_n (q := 18) dX8_parseSlip_17 rfl rfl ?_
  refine q_gr (K := 0) (b := 55) (q := 21) dX8_parseSlip_18 rfl cl_8 (by decide) tw_365 rfl rfl rfl ?_
  refine q_callV (ci := 6) (N := 9) (T := TX6) (As := []) (rest := []) (q := 24) dX8_parseSlip_21 rfl okX6_advance tw_673 rfl rfl (c_advP h4 ps0) rfl rfl (Nat.le_of_ble_eq_true rfl) ⟨by decide, by decide⟩ ⟨rfl, rfl⟩ (fun rv_ V1 r_ K1 hv_ => ?_)
  obtain ⟨a1_, ⟨ps1, fp1⟩, a3_⟩ := hv_
  rw [a1_, a3_]
  obtain ⟨t1, et1⟩ : ∃ z, z = adv T n s := ⟨_, rfl⟩
  rw [← et1] at ps1
  have ca1 := CA_f ca0 fp1.w hrg
  have fd1 := fd0.tr (FW.d (b := b) fp1.w)
  have cn1 := CN_f cn0 fp1.w hrg
  have hb1 : V1 b = X b := Eq.trans (fp1.w.1 b (by omega) (by omega)) hb0
  show Wq MX8_parseSlip 24 [some (.ref 54), none] [] V1 r K1 _
  refine x_aload_n (q := 25) dX8_parseSlip_24 rfl rfl ?_
  refine x_bipush (-50) (q := 27) dX8_parseSlip_25 rfl (by decide) ?_
  refine x_bipush (50) (q := 29) dX8_parseSlip_27 rfl (by decide) ?_
  refine q_callV (ci := 8) (N := 5) (T := TX8) (As := [.int (-50), .int 50]) (rest := []) (q := 32) dX8_parseSlip_29 rfl okX8_takeValue tw_698 rfl rfl (c_tva h4 ps1 (m := 50) (by decide)) rfl rfl (Nat.le_of_ble_eq_true rfl) ⟨by decide, by decide⟩ ⟨rfl, rfl⟩ (fun rv_ V2 r_ K2 hv_ => ?_)
  obtain ⟨x_29, a1_, hx_29, ps2, fp2, vp2, a3_⟩ := hv_
  rw [a1_, a3_]
  obtain ⟨t2, et2⟩ : ∃ z, z = tvaT T n 50 t1 := ⟨_, rfl⟩
  rw [← et2] at ps2
  have ca2 := CA_f ca1 fp2 hrg
  have fd2 := fd1.tr (FW.d (b := b) fp2)
  have cn2 := CN_f cn1 fp2 hrg
  have hb2 : V2 b = X b := Eq.trans (fp2.1 b (by omega) (by omega)) hb1
  rw [← et2] at hx_29
  show Wq MX8_parseSlip 32 [some (.ref 54), none] [.int x_29] V2 r K2 _
  refine x_istore_n (L2 := [some (.ref 54), some (.int x_29)]) (q := 33) dX8_parseSlip_32 rfl (by decide) rfl rfl ?_
  refine x_aload_n (q := 34) dX8_parseSlip_33 rfl rfl ?_
  refine q_gr (K := 1) (b := b) (q := 37) dX8_parseSlip_34 rfl cl_8 (by decide) tw_366 rfl rfl (congrArg some h2) ?_
  refine x_iload_n (q := 38) dX8_parseSlip_37 rfl rfl ?_
  refine q_callV (ci := 5) (N := 18) (T := TX5) (As := [.int x_29]) (rest := []) (q := 41) dX8_parseSlip_38 rfl okX5_hasSlip tw_726 hb rfl (c_hsl hb ca2 r K2 (by rw [hb2]; exact x12) s7_ x_29) rfl rfl (Nat.le_of_ble_eq_true rfl) ⟨by decide, by decide⟩ ⟨rfl, rfl⟩ (fun rv_ I_ r_ J_ hv_ => ?_)
  obtain ⟨a1_, a2_, a3_, a4_⟩ := hv_
  rw [a1_, a2_, a3_, a4_]
  show Wq MX8_parseSlip 41 [some (.ref 54), some (.int x_29)] [.int (if hsF A x_29 sn then 1 else 0)] V2 r K2 _
  refine x_if_eq (t := 53) (q := 44) dX8_parseSlip_41 (by decide) rfl (fun c41 => ?_) (fun c41 => ?_)
  · obtain ⟨t3, et3⟩ : ∃ z, z = if hsF A (tvV_ T n t1) sn then rf 3 (sk T n t1.2.2) t2 else t2 := ⟨_, rfl⟩
    have eq_t3 : t2 = t3 := by
      rw [et3]
      by_cases z : t2.1 = 0
      · rw [if_neg (by rw [hx_29 z] at c41; exact bb_0 c41)]
      · rw [rf_s z]
        cases (hsF A (tvV_ T n t1) sn) <;> rfl
    rw [eq_t3] at ps2
    refine x_aload_n (q := 54) dX8_parseSlip_53 rfl rfl ?_
    refine x_bipush (19) (q := 56) dX8_parseSlip_54 rfl (by decide) ?_
    refine q_callV (ci := 8) (N := 5) (T := TX8) (As := [.int 19]) (rest := []) (q := 59) dX8_parseSlip_56 rfl okX8_takeKeyword tw_686 rfl rfl (c_tkw h4 ps2 (i := 19) (by decide)) rfl rfl (Nat.le_of_ble_eq_true rfl) ⟨by decide, by decide⟩ ⟨rfl, rfl⟩ (fun rv_ V3 r_ K3 hv_ => ?_)
    obtain ⟨a1_, ⟨ps3, fp3⟩, a3_⟩ := hv_
    rw [a1_, a3_]
    obtain ⟨t4, et4⟩ : ∃ z, z = tkw T n 19 t3 := ⟨_, rfl⟩
    rw [← et4] at ps3
    have ca3 := CA_f ca2 fp3.w hrg
    have fd3 := fd2.tr (FW.d (b := b) fp3.w)
    have cn3 := CN_f cn2 fp3.w hrg
    have hb3 : V3 b = X b := Eq.trans (fp3.w.1 b (by omega) (by omega)) hb2
    show Wq MX8_parseSlip 59 [some (.ref 54), some (.int x_29)] [] V3 r K3 _
    refine x_aload_n (q := 60) dX8_parseSlip_59 rfl rfl ?_
    refine q_gr (K := 1) (b := b) (q := 63) dX8_parseSlip_60 rfl cl_8 (by decide) tw_366 rfl rfl (congrArg some h2) ?_
    refine q_gr (K := 10) (b := (b + 8)) (q := 66) dX8_parseSlip_63 rfl cl_5 (by decide) tw_204 hb rfl (lr_w hb _).2.2.2.2.2.2.2.1 ?_
    refine x_aload_n (q := 67) dX8_parseSlip_66 rfl rfl ?_
    refine q_gr (K := 1) (b := b) (q := 70) dX8_parseSlip_67 rfl cl_8 (by decide) tw_366 rfl rfl (congrArg some h2) ?_
    refine q_gi (K := 12) (q := 73) dX8_parseSlip_70 rfl cl_5 (by decide) tw_213 hb rfl ?_
    refine x_iload_n (q := 74) dX8_parseSlip_73 rfl rfl ?_
    refine q_iast (q := 75) dX8_parseSlip_74 rfl (ls_w hb).2.2.2.2.2.2.2.1 (by rw [hb3, x12]; exact vp_in_nI (by omega) (by decide)) (fun I21 eI21 => ?_)
    rw [hb3, x12, nI_clamp (by omega)] at eI21
    have ca4 : CA (upI A 8 sn x_29) b I21 := by rw [eI21]; exact CA_u ca3 (by decide)
    have rg4 : ∀ c, ¬ regL b c → I21 c = V3 c := fun c e => by rw [eI21, upc (fun z => e (by rw [z]; exact ⟨by omega, by omega⟩))]
    have ps4 := PS_d ps3 hrg rg4
    have fd4 := fd3.tr (FD.i rg4)
    have cn4 := cn3
    have hb4 : I21 b = X b := Eq.trans (by rw [eI21, upc (by omega)]) hb3
    refine x_aload_n (q := 76) dX8_parseSlip_75 rfl rfl ?_
    refine q_gr (K := 1) (b := b) (q := 79) dX8_parseSlip_76 rfl cl_8 (by decide) tw_366 rfl rfl (congrArg some h2) ?_
    refine q_gr (K := 11) (b := (b + 9)) (q := 82) dX8_parseSlip_79 rfl cl_5 (by decide) tw_208 hb rfl (lr_w hb _).2.2.2.2.2.2.2.2 ?_
    refine x_aload_n (q := 83) dX8_parseSlip_82 rfl rfl ?_
    refine q_gr (K := 1) (b := b) (q := 86) dX8_parseSlip_83 rfl cl_8 (by decide) tw_366 rfl rfl (congrArg some h2) ?_
    refine q_gi (K := 12) (q := 89) dX8_parseSlip_86 rfl cl_5 (by decide) tw_213 hb rfl ?_
    refine x_aload_n (q := 90) dX8_parseSlip_89 rfl rfl ?_
    refine x_iconst (1) (q := 91) dX8_parseSlip_90 rfl (by decide) ?_
    refine x_bipush (99) (q := 93) dX8_parseSlip_91 rfl (by decide) ?_
    refine q_callV (ci := 8) (N := 5) (T := TX8) (As := [.int 1, .int 99]) (rest := [.int (I21 b 12), .ref (b + 9)]) (q := 96) dX8_parseSlip_93 rfl okX8_takeNumber tw_690 rfl rfl (c_tnu h4 ps4 (lo := 1) (hi := 99) (by decide) (by decide)) rfl rfl (Nat.le_of_ble_eq_true rfl) ⟨by decide, by decide⟩ ⟨rfl, rfl⟩ (fun rv_ V5 r_ K5 hv_ => ?_)
    obtain ⟨x_93, a1_, hx_93, ps5, fp5, a3_⟩ := hv_
    rw [a1_, a3_]
    obtain ⟨t5, et5⟩ : ∃ z, z = tnuT T n 1 99 t4 := ⟨_, rfl⟩
    rw [← et5] at ps5
    have ca5 := CA_f ca4 fp5.w hrg
    have fd5 := fd4.tr (FW.d (b := b) fp5.w)
    have cn5 := CN_f cn4 fp5.w hrg
    have hb5 : V5 b = X b := Eq.trans (fp5.w.1 b (by omega) (by omega)) hb4
    rw [← et5] at hx_93
    show Wq MX8_parseSlip 96 [some (.ref 54), some (.int x_29)] [.int x_93, .int (I21 b 12), .ref (b + 9)] V5 r K5 _
    refine q_iast (q := 97) dX8_parseSlip_96 rfl (ls_w hb).2.2.2.2.2.2.2.2 (by rw [hb4, x12]; exact vp_in_nI (by omega) (by decide)) (fun I61 eI61 => ?_)
    rw [hb4, x12, nI_clamp (by omega)] at eI61
    have ca6 : CA (upI (upI A 8 sn x_29) 9 sn x_93) b I61 := by rw [eI61]; exact CA_u ca5 (by decide)
    have rg6 : ∀ c, ¬ regL b c → I61 c = V5 c := fun c e => by rw [eI61, upc (fun z => e (by rw [z]; exact ⟨by omega, by omega⟩))]
    have ps6 := PS_d ps5 hrg rg6
    have fd6 := fd5.tr (FD.i rg6)
    have cn6 := cn5
    have hb6 : I61 b = X b := Eq.trans (by rw [eI61, upc (by omega)]) hb5
    refine x_aload_n (q := 98) dX8_parseSlip_97 rfl rfl ?_
    refine q_gr (K := 1) (b := b) (q := 101) dX8_parseSlip_98 rfl cl_8 (by decide) tw_366 rfl rfl (congrArg some h2) ?_
    refine x_dup (q := 102) dX8_parseSlip_101 rfl rfl ?_
    refine q_gi (K := 12) (q := 105) dX8_parseSlip_102 rfl cl_5 (by decide) tw_213 hb rfl ?_
    refine x_iconst (1) (q := 106) dX8_parseSlip_105 rfl (by decide) ?_
    refine x_iadd (q := 107) dX8_parseSlip_106 rfl ?_
    refine q_pi (K := 12) (q := 110) dX8_parseSlip_107 rfl cl_5 (by decide) tw_213 rfl rfl hb rfl (fun I81 eI81 => ?_)
    refine q_vret dX8_parseSlip_110 rfl ?_
    rw [hb6, x12, nI_p1] at eI81
    have ca7 : CA (upI (upI (upI A 8 sn x_29) 9 sn x_93) 0 12 (nI (sn + 1))) b I81 := by rw [eI81]; exact CA_0 ca6
    have rg7 : ∀ c, ¬ regL b c → I81 c = I61 c := fun c e => by rw [eI81, upc (fun z => e (by rw [z]; exact ⟨by omega, by omega⟩))]
    have ps7 := PS_d ps6 hrg rg7
    have fd7 := fd6.tr (FD.i rg7)
    have cn7 := cn6
    have ec : slC T n A sn s = t3 := by unfold slC; rw [← et1, ← et2, et3]
    have es : slS T n A sn s = t5 := by unfold slS; rw [ec, et5, et4]
    refine ⟨rfl, ⟨by rw [es]; exact ps7, fd7, fun z => ?_⟩, rfl⟩
    rw [es] at z
    have f_t5 := tnuT_0 (by rw [et5] at z; exact z)
    have z_t4 : t4.1 = 0 := f_t5.1.1
    have f_t4 := tkw_0 (by rw [et4] at z_t4; exact z_t4)
    have z_t3 : t3.1 = 0 := f_t4.1
    have f_t3 := cnd_0 (by rw [et3] at z_t3; exact z_t3) (by decide)
    have z_t2 : t2.1 = 0 := f_t3.2.1
    have f_t2 := tvaT_0 (by rw [et2] at z_t2; exact z_t2)
    have z_t1 : t1.1 = 0 := f_t2.1
    have z_s : s.1 = 0 := by rw [et1] at z_t1; exact z_t1
    have eA : slA T n s A sn = upI (upI (upI A 8 sn x_29) 9 sn x_93) 0 12 (nI (sn + 1)) := by
      unfold slA
      rw [hx_29 z_t2, hx_93 z, ec, ← et1, ← et4]
    rw [eA]
    exact ⟨ca7, CN_u cn7 (by rw [upc (by decide), upc (by decide), upc (by decide)]), by rw [ups (by decide), upc (by decide), upc (by decide)]; exact k1, by rw [ups (by decide), upc (by decide), upc (by decide)]; exact k5, by rw [ups (by decide), upc (by decide), upc (by decide)]; exact k9, by rw [upq], y8, w16, h12, by omega, tb, t256, by rw [ups (by decide), upc (by decide), upc (by decide)]; exact k17⟩
  · refine x_aload_n (q := 45) dX8_parseSlip_44 rfl rfl ?_
    refine x_iconst (3) (q := 46) dX8_parseSlip_45 rfl (by decide) ?_
    refine x_aload_n (q := 47) dX8_parseSlip_46 rfl rfl ?_
    refine q_gi (K := 4) (q := 50) dX8_parseSlip_47 rfl cl_8 (by decide) tw_371 rfl rfl ?_
    refine q_callV (ci := 8) (N := 5) (T := TX8) (As := [.int 3, .int (V2 54 4)]) (rest := []) (q := 53) dX8_parseSlip_50 rfl okX8_refuse tw_669 rfl rfl (by rw [vp2]; exact c_ref h4 ps2 (k := 3) (g := sk T n t1.2.2) (by decide)) rfl rfl (Nat.le_of_ble_eq_true rfl) ⟨by decide, by decide⟩ ⟨rfl, rfl⟩ (fun rv_ V3 r_ K3 hv_ => ?_)
    obtain ⟨a1_, ⟨ps3, fp3⟩, a3_⟩ := hv_
    rw [a1_, a3_]
    obtain ⟨t3, et3⟩ : ∃ z, z = rf 3 (sk T n t1.2.2) t2 := ⟨_, rfl⟩
    rw [← et3] at ps3
    have ca3 := CA_f ca2 fp3.w hrg
    have fd3 := fd2.tr (FW.d (b := b) fp3.w)
    have cn3 := CN_f cn2 fp3.w hrg
    have hb3 : V3 b = X b := Eq.trans (fp3.w.1 b (by omega) (by omega)) hb2
    show Wq MX8_parseSlip 53 [some (.ref 54), some (.int x_29)] [] V3 r K3 _
    rw [et3] at ps3
    obtain ⟨t4, et4⟩ : ∃ z, z = if hsF A (tvV_ T n t1) sn then rf 3 (sk T n t1.2.2) t2 else t2 := ⟨_, rfl⟩
    have eq_t4 : rf 3 (sk T n t1.2.2) t2 = t4 := by
      rw [et4]
      by_cases z : t2.1 = 0
      · rw [if_pos (by rw [hx_29 z] at c41; exact bb_1 c41)]
      · rw [rf_s z]
        cases (hsF A (tvV_ T n t1) sn) <;> rfl
    rw [eq_t4] at ps3
    refine x_aload_n (q := 54) dX8_parseSlip_53 rfl rfl ?_
    refine x_bipush (19) (q := 56) dX8_parseSlip_54 rfl (by decide) ?_
    refine q_callV (ci := 8) (N := 5) (T := TX8) (As := [.int 19]) (rest := []) (q := 59) dX8_parseSlip_56 rfl okX8_takeKeyword tw_686 rfl rfl (c_tkw h4 ps3 (i := 19) (by decide)) rfl rfl (Nat.le_of_ble_eq_true rfl) ⟨by decide, by decide⟩ ⟨rfl, rfl⟩ (fun rv_ V4 r_ K4 hv_ => ?_)
    obtain ⟨a1_, ⟨ps4, fp4⟩, a3_⟩ := hv_
    rw [a1_, a3_]
    obtain ⟨t5, et5⟩ : ∃ z, z = tkw T n 19 t4 := ⟨_, rfl⟩
    rw [← et5] at ps4
    have ca4 := CA_f ca3 fp4.w hrg
    have fd4 := fd3.tr (FW.d (b := b) fp4.w)
    have cn4 := CN_f cn3 fp4.w hrg
    have hb4 : V4 b = X b := Eq.trans (fp4.w.1 b (by omega) (by omega)) hb3
    show Wq MX8_parseSlip 59 [some (.ref 54), some (.int x_29)] [] V4 r K4 _
    refine x_aload_n (q := 60) dX8_parseSlip_59 rfl rfl ?_
    refine q_gr (K := 1) (b := b) (q := 63) dX8_parseSlip_60 rfl cl_8 (by decide) tw_366 rfl rfl (congrArg some h2) ?_
    refine q_gr (K := 10) (b := (b + 8)) (q := 66) dX8_parseSlip_63 rfl cl_5 (by decide) tw_204 hb rfl (lr_w hb _).2.2.2.2.2.2.2.1 ?_
    refine x_aload_n (q := 67) dX8_parseSlip_66 rfl rfl ?_
    refine q_gr (K := 1) (b := b) (q := 70) dX8_parseSlip_67 rfl cl_8 (by decide) tw_366 rfl rfl (congrArg some h2) ?_
    refine q_gi (K := 12) (q := 73) dX8_parseSlip_70 rfl cl_5 (by decide) tw_213 hb rfl ?_
    refine x_iload_n (q := 74) dX8_parseSlip_73 rfl rfl ?_
    refine q_iast (q := 75) dX8_parseSlip_74 rfl (ls_w hb).2.2.2.2.2.2.2.1 (by rw [hb4, x12]; exact vp_in_nI (by omega) (by decide)) (fun I41 eI41 => ?_)
    rw [hb4, x12, nI_clamp (by omega)] at eI41
    have ca5 : CA (upI A 8 sn x_29) b I41 := by rw [eI41]; exact CA_u ca4 (by decide)
    have rg5 : ∀ c, ¬ regL b c → I41 c = V4 c := fun c e => by rw [eI41, upc (fun z => e (by rw [z]; exact ⟨by omega, by omega⟩))]
    have ps5 := PS_d ps4 hrg rg5
    have fd5 := fd4.tr (FD.i rg5)
    have cn5 := cn4
    have hb5 : I41 b = X b := Eq.trans (by rw [eI41, upc (by omega)]) hb4
    refine x_aload_n (q := 76) dX8_parseSlip_75 rfl rfl ?_
    refine q_gr (K := 1) (b := b) (q := 79) dX8_parseSlip_76 rfl cl_8 (by decide) tw_366 rfl rfl (congrArg some h2) ?_
    refine q_gr (K := 11) (b := (b + 9)) (q := 82) dX8_parseSlip_79 rfl cl_5 (by decide) tw_208 hb rfl (lr_w hb _).2.2.2.2.2.2.2.2 ?_
    refine x_aload_n (q := 83) dX8_parseSlip_82 rfl rfl ?_
    refine q_gr (K := 1) (b := b) (q := 86) dX8_parseSlip_83 rfl cl_8 (by decide) tw_366 rfl rfl (congrArg some h2) ?_
    refine q_gi (K := 12) (q := 89) dX8_parseSlip_86 rfl cl_5 (by decide) tw_213 hb rfl ?_
    refine x_aload_n (q := 90) dX8_parseSlip_89 rfl rfl ?_
    refine x_iconst (1) (q := 91) dX8_parseSlip_90 rfl (by decide) ?_
    refine x_bipush (99) (q := 93) dX8_parseSlip_91 rfl (by decide) ?_
    refine q_callV (ci := 8) (N := 5) (T := TX8) (As := [.int 1, .int 99]) (rest := [.int (I41 b 12), .ref (b + 9)]) (q := 96) dX8_parseSlip_93 rfl okX8_takeNumber tw_690 rfl rfl (c_tnu h4 ps5 (lo := 1) (hi := 99) (by decide) (by decide)) rfl rfl (Nat.le_of_ble_eq_true rfl) ⟨by decide, by decide⟩ ⟨rfl, rfl⟩ (fun rv_ V6 r_ K6 hv_ => ?_)
    obtain ⟨x_93, a1_, hx_93, ps6, fp6, a3_⟩ := hv_
    rw [a1_, a3_]
    obtain ⟨t6, et6⟩ : ∃ z, z = tnuT T n 1 99 t5 := ⟨_, rfl⟩
    rw [← et6] at ps6
    have ca6 := CA_f ca5 fp6.w hrg
    have fd6 := fd5.tr (FW.d (b := b) fp6.w)
    have cn6 := CN_f cn5 fp6.w hrg
    have hb6 : V6 b = X b := Eq.trans (fp6.w.1 b (by omega) (by omega)) hb5
    rw [← et6] at hx_93
    show Wq MX8_parseSlip 96 [some (.ref 54), some (.int x_29)] [.int x_93, .int (I41 b 12), .ref (b + 9)] V6 r K6 _
    refine q_iast (q := 97) dX8_parseSlip_96 rfl (ls_w hb).2.2.2.2.2.2.2.2 (by rw [hb5, x12]; exact vp_in_nI (by omega) (by decide)) (fun I61 eI61 => ?_)
    rw [hb5, x12, nI_clamp (by omega)] at eI61
    have ca7 : CA (upI (upI A 8 sn x_29) 9 sn x_93) b I61 := by rw [eI61]; exact CA_u ca6 (by decide)
    have rg7 : ∀ c, ¬ regL b c → I61 c = V6 c := fun c e => by rw [eI61, upc (fun z => e (by rw [z]; exact ⟨by omega, by omega⟩))]
    have ps7 := PS_d ps6 hrg rg7
    have fd7 := fd6.tr (FD.i rg7)
    have cn7 := cn6
    have hb7 : I61 b = X b := Eq.trans (by rw [eI61, upc (by omega)]) hb6
    refine x_aload_n (q := 98) dX8_parseSlip_97 rfl rfl ?_
    refine q_gr (K := 1) (b := b) (q := 101) dX8_parseSlip_98 rfl cl_8 (by decide) tw_366 rfl rfl (congrArg some h2) ?_
    refine x_dup (q := 102) dX8_parseSlip_101 rfl rfl ?_
    refine q_gi (K := 12) (q := 105) dX8_parseSlip_102 rfl cl_5 (by decide) tw_213 hb rfl ?_
    refine x_iconst (1) (q := 106) dX8_parseSlip_105 rfl (by decide) ?_
    refine x_iadd (q := 107) dX8_parseSlip_106 rfl ?_
    refine q_pi (K := 12) (q := 110) dX8_parseSlip_107 rfl cl_5 (by decide) tw_213 rfl rfl hb rfl (fun I81 eI81 => ?_)
    refine q_vret dX8_parseSlip_110 rfl ?_
    rw [hb7, x12, nI_p1] at eI81
    have ca8 : CA (upI (upI (upI A 8 sn x_29) 9 sn x_93) 0 12 (nI (sn + 1))) b I81 := by rw [eI81]; exact CA_0 ca7
    have rg8 : ∀ c, ¬ regL b c → I81 c = I61 c := fun c e => by rw [eI81, upc (fun z => e (by rw [z]; exact ⟨by omega, by omega⟩))]
    have ps8 := PS_d ps7 hrg rg8
    have fd8 := fd7.tr (FD.i rg8)
    have cn8 := cn7
    have ec : slC T n A sn s = t4 := by unfold slC; rw [← et1, ← et2, et4]
    have es : slS T n A sn s = t6 := by unfold slS; rw [ec, et6, et5]
    refine ⟨rfl, ⟨by rw [es]; exact ps8, fd8, fun z => ?_⟩, rfl⟩
    rw [es] at z
    have f_t6 := tnuT_0 (by rw [et6] at z; exact z)
    have z_t5 : t5.1 = 0 := f_t6.1.1
    have f_t5 := tkw_0 (by rw [et5] at z_t5; exact z_t5)
    have z_t4 : t4.1 = 0 := f_t5.1
    have f_t4 := cnd_0 (by rw [et4] at z_t4; exact z_t4) (by decide)
    have z_t2 : t2.1 = 0 := f_t4.2.1
    have f_t2 := tvaT_0 (by rw [et2] at z_t2; exact z_t2)
    have z_t1 : t1.1 = 0 := f_t2.1
    have z_s : s.1 = 0 := by rw [et1] at z_t1; exact z_t1
    have eA : slA T n s A sn = upI (upI (upI A 8 sn x_29) 9 sn x_93) 0 12 (nI (sn + 1)) := by
      unfold slA
      rw [hx_29 z_t2, hx_93 z, ec, ← et1, ← et5]
    rw [eA]
    exact ⟨ca8, CN_u cn8 (by rw [upc (by decide), upc (by decide), upc (by decide)]), by rw [ups (by decide), upc (by decide), upc (by decide)]; exact k1, by rw [ups (by decide), upc (by decide), upc (by decide)]; exact k5, by rw [ups (by decide), upc (by decide), upc (by decide)]; exact k9, by rw [upq], y8, w16, h12, by omega, tb, t256, by rw [ups (by decide), upc (by decide), upc (by decide)]; exact k17⟩
