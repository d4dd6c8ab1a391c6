def blk (B : Nat → Nat) (sp m y : Nat) : Prop := (B (min 72 (sp + m / 10))).testBit y = true
def ed (I : MI) (a c k : Nat) : Prop := a < 8 ∧ c < 8 ∧ 1 ≤ k ∧ k ≤ 60 ∧ I 119 (8 * a + c) = nI k
def Sr (I : MI) (B : Nat → Nat) (sp fr : Nat) : Nat → Nat → Nat → Prop
  | 0, m', y => m' = 0 ∧ y = fr
  | m + 1, m', y => Sr I B sp fr m m' y ∨ ∃ a k, ed I a y k ∧ m' = m + k ∧ Sr I B sp fr m m a ∧ ¬ blk B sp m a
def Rr (I : MI) (B : Nat → Nat) (sp fr m y : Nat) : Prop := Sr I B sp fr m m y ∧ ¬ blk B sp m y
def Ur (I : MI) (b : Nat) (B : Nat → Nat) (sp fr m i m' y : Nat) : Prop := Sr I B sp fr m m' y ∨ ∃ j a k, j < i ∧ wayIs I b j a y ∧ I (b + 4) j = nI k ∧ ed I a y k ∧ m' = m + k ∧ Rr I B sp fr m a
def th (c lo : Nat) (Q : Nat → Nat → Prop) (X : MI) : Prop := ∀ m', lo ≤ m' → m' ≤ 720 → ∃ N, N < 256 ∧ X c m' = nI N ∧ ∀ y, y < 8 → (N.testBit y = true ↔ Q m' y)
theorem th_q {c lo lo' : Nat} {Q Q' : Nat → Nat → Prop} {X : MI} (h : th c lo Q X) (hl : lo ≤ lo') (hQ : ∀ m' y, lo' ≤ m' → m' ≤ 720 → y < 8 → (Q' m' y ↔ Q m' y)) : th c lo' Q' X := by
  intro m' h1 h2
  obtain ⟨N, q1, q2, q3⟩ := h m' (by omega) h2
  exact ⟨N, q1, q2, fun y hy => by rw [q3 y hy, hQ m' y h1 h2 hy]⟩
theorem th_add {c lo m0 y0 : Nat} {Q Q' : Nat → Nat → Prop} {X : MI} (h : th c lo Q X) (hy0 : y0 < 8) (h1 : lo ≤ m0) (h2 : m0 ≤ 720) (hQ : ∀ m' y, lo ≤ m' → m' ≤ 720 → y < 8 → (Q' m' y ↔ Q m' y ∨ (m' = m0 ∧ y = y0))) : th c lo Q' (upI X c m0 (X c m0 ||| (1 : Int32) <<< (nI y0 &&& 31))) := by
  intro m' g1 g2
  by_cases e : m' = m0
  · subst e
    obtain ⟨N, q1, q2, q3⟩ := h m' g1 g2
    have hp : 2 ^ y0 < 2 ^ 8 := Nat.pow_lt_pow_right (by decide) hy0
    refine ⟨N ||| 2 ^ y0, Nat.or_lt_two_pow (n := 8) q1 hp, by rw [upq, q2, sh1 (by omega), nI_or], fun y hy => ?_⟩
    rw [Nat.testBit_or, Nat.testBit_two_pow, Bool.or_eq_true, q3 y hy, hQ m' y g1 g2 hy, decide_eq_true_eq]
    constructor
    · rintro (z | z)
      · exact Or.inl z
      · exact Or.inr ⟨rfl, z.symm⟩
    · rintro (z | z)
      · exact Or.inl z
      · exact Or.inr z.2.symm
  · obtain ⟨N, q1, q2, q3⟩ := h m' g1 g2
    refine ⟨N, q1, by rw [ups e]; exact q2, fun y hy => ?_⟩
    rw [q3 y hy, hQ m' y g1 g2 hy]
    constructor
    · exact Or.inl
    · rintro (z | z)
      · exact z
      · exact absurd z.1 e
def CI (I : MI) (B : Nat → Nat) (Q : Nat → Nat → Prop) (X : MI) : Prop := Kp I X ∧ (∀ s, s < 73 → X 86 s = nI (B s)) ∧ th 87 0 Q X
theorem bh_v {sp m : Nat} (h1 : sp ≤ 71) (h2 : m ≤ 780) : (if nI sp + nI m / 10 < 72 then nI sp + nI m / 10 else 72) = nI (min 72 (sp + m / 10)) := by
  rw [show nI m / 10 = nI (m / 10) from pk_div (a := m) (d := 10) (by omega) (by decide) (by decide), nI_add]
  by_cases q : sp + m / 10 < 72
  · rw [if_pos (show nI (sp + m / 10) < 72 from (nI_ltI (b := 72) (by omega) (by omega)).mpr q), show min 72 (sp + m / 10) = sp + m / 10 by omega]
  · rw [if_neg (show ¬ nI (sp + m / 10) < 72 from fun z => q ((nI_ltI (b := 72) (by omega) (by omega)).mp z)), show min 72 (sp + m / 10) = 72 by omega]
    rfl
theorem blk_1 {B : Nat → Nat} {sp m y : Nat} (h : ¬ (nI (B (min 72 (sp + m / 10))) >>> (nI y &&& 31)) &&& 1 = 0) (hB : B (min 72 (sp + m / 10)) < 256 := by omega) (hy : y < 8 := by omega) : blk B sp m y := by
  rw [bit_0 (by omega) (by omega)] at h
  unfold blk
  cases q : (B (min 72 (sp + m / 10))).testBit y
  · exact absurd q h
  · rfl
set_option maxRecDepth 100000 in
theorem c_arrive {I X : MI} {B : Nat → Nat} {Q Q' : Nat → Nat → Prop} (hX : CI I B Q X) (hB : ∀ s, B s < 256) {y0 m0 sp : Nat} (hy0 : y0 < 8) (hm0 : m0 ≤ 780) (hsp : sp ≤ 71) (hQ : ∀ m' y, m' ≤ 720 → y < 8 → (Q' m' y ↔ Q m' y ∨ (m' = m0 ∧ y = y0 ∧ ¬ blk B sp m0 y0))) (r : MR) (J : MJ) : Cq yX0_arrive MX0_arrive [.ref 85, .int (nI y0), .int (nI m0), .int (nI sp)] X r J (Rp none (CI I B Q') r J) := by
  refine cq_of [some (.ref 85), some (.int (nI y0)), some (.int (nI m0)), some (.int (nI sp)), none] 1 (by decide +kernel) rfl rfl (Nat.le_of_ble_eq_true rfl) rfl ?_
  refine x_bipush (72) (q := 2) dX0_arrive_0 rfl (by decide) ?_
  refine x_iload_n (q := 3) dX0_arrive_2 rfl rfl ?_
  refine x_iload_n (q := 4) dX0_arrive_3 rfl rfl ?_
  refine x_bipush (10) (q := 6) dX0_arrive_4 rfl (by decide) ?_
  refine x_idiv (q := 7) dX0_arrive_6 rfl (by decide) ?_
  refine x_iadd (q := 8) dX0_arrive_7 rfl ?_
  refine x_min (q := 11) dX0_arrive_8 rfl tw_994 mm_min_s mm_i mm_min_c (by decide) (Nat.le_of_ble_eq_true rfl) (by decide) (by decide) ?_
  refine x_nmi (fun v1 ev1 => ?_)
  refine x_istore (L2 := [some (.ref 85), some (.int (nI y0)), some (.int (nI m0)), some (.int (nI sp)), some (.int v1)]) (q := 13) dX0_arrive_11 rfl (by decide) rfl rfl ?_
  rw [bh_v hsp hm0] at ev1
  subst ev1
  have eB : X 86 (nI (min 72 (sp + m0 / 10))).toNatClampNeg = nI (B (min 72 (sp + m0 / 10))) := by
    rw [nI_clamp (by omega)]; exact hX.2.1 _ (by omega)
  have hBl := hB (min 72 (sp + m0 / 10))
  refine x_iload_n (q := 14) dX0_arrive_13 rfl rfl ?_
  refine x_sipush (720) (q := 17) dX0_arrive_14 rfl (by decide) ?_
  refine x_icmp_gt (t := 46) (q := 20) dX0_arrive_17 (by decide) rfl (fun c17 => ?_) (fun c17 => ?_)
  · refine q_vret dX0_arrive_46 rfl ?_
    refine ⟨rfl, ⟨hX.1, hX.2.1, th_q hX.2.2 (Nat.le_refl _) (fun m1 y1 _ g1 g2 => ?_)⟩, rfl, rfl⟩
    rw [hQ m1 y1 g1 g2]
    refine ⟨fun z => z.elim id (fun g => ?_), Or.inl⟩
    first
      | exact absurd g.1 (by have := (nI_ltI (a := 720) (by omega) (by omega)).mp c17; omega)
      | exact absurd (blk_1 (by rw [← eB]; exact c31)) g.2.2
  · refine x_aload_n (q := 21) dX0_arrive_20 rfl rfl ?_
    refine q_gr (K := 0) (b := 86) (q := 24) dX0_arrive_21 rfl cl_0 (by decide) tw_518 rfl rfl rfl ?_
    refine x_iload (q := 26) dX0_arrive_24 rfl rfl ?_
    refine q_iald (q := 27) dX0_arrive_26 rfl rfl (vp_in_nI (by omega) (by decide)) ?_
    refine x_iload_n (q := 28) dX0_arrive_27 rfl rfl ?_
    refine x_ishr (q := 29) dX0_arrive_28 rfl ?_
    refine x_iconst (1) (q := 30) dX0_arrive_29 rfl (by decide) ?_
    refine x_iand (q := 31) dX0_arrive_30 rfl ?_
    refine x_if_ne (t := 46) (q := 34) dX0_arrive_31 (by decide) rfl (fun c31 => ?_) (fun c31 => ?_)
    · refine q_vret dX0_arrive_46 rfl ?_
      refine ⟨rfl, ⟨hX.1, hX.2.1, th_q hX.2.2 (Nat.le_refl _) (fun m1 y1 _ g1 g2 => ?_)⟩, rfl, rfl⟩
      rw [hQ m1 y1 g1 g2]
      refine ⟨fun z => z.elim id (fun g => ?_), Or.inl⟩
      first
        | exact absurd g.1 (by have := (nI_ltI (a := 720) (by omega) (by omega)).mp c17; omega)
        | exact absurd (blk_1 (by rw [← eB]; exact c31)) g.2.2
    · have g0 : m0 ≤ 720 := by
        by_cases z : m0 ≤ 720
        · exact z
        · exact absurd ((nI_ltI (a := 720) (by omega) (by omega)).mpr (by omega)) c17
      have nb : ¬ blk B sp m0 y0 := fun z => by
        unfold blk at z
        rw [eB, bit_0 (by omega) (by omega), z] at c31
        exact absurd c31 (by decide)
      refine x_aload_n (q := 35) dX0_arrive_34 rfl rfl ?_
      refine q_gr (K := 1) (b := 87) (q := 38) dX0_arrive_35 rfl cl_0 (by decide) tw_519 rfl rfl rfl ?_
      refine x_iload_n (q := 39) dX0_arrive_38 rfl rfl ?_
      refine x_dup2 (q := 40) dX0_arrive_39 rfl rfl rfl ?_
      refine q_iald (q := 41) dX0_arrive_40 rfl rfl (vp_in_nI (by omega) (by decide)) ?_
      refine x_iconst (1) (q := 42) dX0_arrive_41 rfl (by decide) ?_
      refine x_iload_n (q := 43) dX0_arrive_42 rfl rfl ?_
      refine x_ishl (q := 44) dX0_arrive_43 rfl ?_
      refine x_ior (q := 45) dX0_arrive_44 rfl ?_
      refine q_iast (q := 46) dX0_arrive_45 rfl rfl (vp_in_nI (by omega) (by decide)) (fun I21 eI21 => ?_)
      refine q_vret dX0_arrive_46 rfl ?_
      refine ⟨rfl, ⟨?_, fun s hs => ?_, ?_⟩, rfl, rfl⟩
      · rw [eI21]; exact hX.1.tr (Kp_up (by unfold scr; omega))
      · rw [eI21, upc (by decide)]; exact hX.2.1 s hs
      · rw [eI21, nI_clamp (by omega)]
        refine th_add hX.2.2 hy0 (Nat.zero_le _) g0 (fun m1 y1 _ g1 g2 => ?_)
        rw [hQ m1 y1 g1 g2]
        exact ⟨fun z => z.imp id (fun w => ⟨w.1, w.2.1⟩), fun z => z.imp id (fun w => ⟨w.1, w.2, nb⟩)⟩
