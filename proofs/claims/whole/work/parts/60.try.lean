def uW (ws ms w mm : Nat) : Nat := if ws < w ∨ (ws = w ∧ ms < mm) then ws else w
def uM (ws ms w mm : Nat) : Nat := if ws < w ∨ (ws = w ∧ ms < mm) then ms else mm
def uB (ws ms w mm : Nat) (o bo : Nat → Nat) : Nat → Nat := if ws < w ∨ (ws = w ∧ ms < mm) then o else bo
def GI (I : MI) (yn n : Nat) (D o : Nat → Nat) (W : Nat → Nat → Bool) (w mm : Nat) (bo : Nat → Nat) (X : MI) : Prop := Kr I X ∧ dc 81 D X ∧ oc 83 n o X ∧ fnd yn W X ∧ X 80 5 = nI w ∧ X 80 6 = nI mm ∧ (w ≤ n → ∀ k, k < n → X 84 k = nI (bo k))
theorem GI_no {I : MI} {yn n : Nat} {D o : Nat → Nat} {W : Nat → Nat → Bool} {w mm : Nat} {bo : Nat → Nat} {X : MI} {ws ms : Nat} (h : GI I yn n D o W w mm bo X) (hn : ¬ (ws < w ∨ (ws = w ∧ ms < mm))) : GI I yn n D o W (uW ws ms w mm) (uM ws ms w mm) (uB ws ms w mm o bo) X := by
  unfold uW uM uB
  rw [if_neg hn, if_neg hn, if_neg hn]
  exact h
theorem GI_3 {I : MI} {yn n : Nat} {D o : Nat → Nat} {W : Nat → Nat → Bool} {w mm : Nat} {bo : Nat → Nat} {X Y : MI} (h : GI I yn n D o W w mm bo X) (hk : K3 X Y) (hf : fnd yn W Y) : GI I yn n D o W w mm bo Y := by
  obtain ⟨h1, h2, h3, h4, h5, h6, h7⟩ := h
  refine ⟨h1.tr (fun c j q1 q2 q3 q4 q5 => by rw [hk c (fun e => q1 (by unfold scr; omega)) (fun e => q1 (by unfold scr; omega)) (fun e => q1 (by unfold scr; omega))]), fun j hj => ?_, fun j hj => ?_, hf, ?_, ?_, fun q k hk' => ?_⟩
  · rw [hk 81 (by decide) (by decide) (by decide)]; exact h2 j hj
  · rw [hk 83 (by decide) (by decide) (by decide)]; exact h3 j hj
  · rw [hk 80 (by decide) (by decide) (by decide)]; exact h5
  · rw [hk 80 (by decide) (by decide) (by decide)]; exact h6
  · rw [hk 84 (by decide) (by decide) (by decide)]; exact h7 q k hk'
theorem GI_yes {I : MI} {yn n : Nat} {D o : Nat → Nat} {W : Nat → Nat → Bool} {w mm : Nat} {bo : Nat → Nat} {X : MI} {ws ms : Nat} (h : GI I yn n D o W w mm bo X) (hn : ws < w ∨ (ws = w ∧ ms < mm)) : GI I yn n D o W (uW ws ms w mm) (uM ws ms w mm) (uB ws ms w mm o bo) (cpI (upI (upI X 80 5 (nI ws)) 80 6 (nI ms)) 83 0 84 0 n) := by
  obtain ⟨h1, h2, h3, h4, h5, h6, h7⟩ := h
  unfold uW uM uB
  rw [if_pos hn, if_pos hn, if_pos hn]
  refine ⟨h1.tr (fun c j q1 q2 q3 q4 q5 => by rw [cpI_o q2, upc q4, upc q4]), fun j hj => ?_, fun j hj => ?_, fun y s hy hs => ?_, ?_, ?_, fun _ k hk => ?_⟩
  · rw [cpI_o (by decide), upc (by decide), upc (by decide)]; exact h2 j hj
  · rw [cpI_o (by decide), upc (by decide), upc (by decide)]; exact h3 j hj
  · rw [cpI_o (by decide), upc (by decide), upc (by decide)]; exact h4 y s hy hs
  · rw [cpI_o (by decide), ups (by decide), upq]
  · rw [cpI_o (by decide), upq]
  · rw [cpI_i (Nat.zero_le _) (by omega), upc (by decide), upc (by decide), show 0 + (k - 0) = k by omega]
    exact (h3 k hk).2
set_option maxRecDepth 100000 in
theorem l_to {I : MI} {b yn wn hn sn st : Nat} {r : MR} (J : MJ) (hr : RefOk r b) (h : RelL I b yn wn hn sn st) {n d : Nat} {D o : Nat → Nat} (hDl : dl D) (hoy : ∀ k, k < n → o k < yn) (hn7 : n ≤ 7) (hd : d < yn) (hdp : I b 15 = nI d) {much : Int32} (hm : 0 ≤ much.toInt ∧ much.toInt ≤ 99) {W : Nat → Nat → Bool} (hW : ∀ y s, y < yn → s < 72 → W y s = Wb I b hn st much y s) {w mm : Nat} {bo : Nat → Nat} (hw : w ≤ 8) (hmm : mm ≤ 7000000) {X : MI} (hX : GI I yn n D o W w mm bo X) (post : Option Value → MI → MR → MJ → Prop) (kx : Wq MX3_tryOrder 36 [some (.ref 80), some (.ref 58), some (.ref 76), some (.int (nI n)), some (.int much), some (.int (nI (msN D d o n))), some (.int (nI n))] [] X r J post) : ∀ (f : Nat) (i : Nat) (_ : i + f = n), Wq MX3_tryOrder 6 [some (.ref 80), some (.ref 58), some (.ref 76), some (.int (nI n)), some (.int much), some (.int (nI (msN D d o i))), some (.int (nI i))] [] X r J (post) := by
  have hb28 := (refs_L hr).2
  have h8 : yn ≤ 8 := h.1.2.2.1
  have hdp1 : X b 15 = nI d := by rw [hX.1.L hb28 b ⟨by omega, by omega⟩]; exact hdp
  have ho8 : ∀ k, k < n → o k < 8 := fun k hk => (hX.2.2.1 k hk).1
  have hms := msN_le hDl (show d < 8 by omega) ho8
  intro f
  induction f with
  | zero =>
    intro i hik
    refine x_iload (q := 8) dX3_tryOrder_6 rfl rfl ?_
    refine x_iload_n (q := 9) dX3_tryOrder_8 rfl rfl ?_
    refine x_icmp_ge (t := 36) (q := 12) dX3_tryOrder_9 (by decide) rfl (fun c9 => ?_) (fun c9 => absurd c9 (fun q => q (nI_le (by omega) (by omega))))
    rw [show i = n by omega]
    exact kx
  | succ f ih =>
    intro i hik
    refine x_iload (q := 8) dX3_tryOrder_6 rfl rfl ?_
    refine x_iload_n (q := 9) dX3_tryOrder_8 rfl rfl ?_
    refine x_icmp_ge (t := 36) (q := 12) dX3_tryOrder_9 (by decide) rfl (fun c9 => absurd c9 (nI_ge (by omega) (by omega))) (fun c9 => ?_)
    refine x_iload (q := 14) dX3_tryOrder_12 rfl rfl ?_
    refine x_aload_n (q := 15) dX3_tryOrder_14 rfl rfl ?_
    refine x_iload (q := 17) dX3_tryOrder_15 rfl rfl ?_
    refine x_aload_n (q := 18) dX3_tryOrder_17 rfl rfl ?_
    refine q_gr (K := 0) (b := b) (q := 21) dX3_tryOrder_18 rfl cl_1 (by decide) tw_425 rfl rfl (by rw [← hr.2.1]; rfl) ?_
    refine q_gi (K := 15) (q := 24) dX3_tryOrder_21 rfl cl_5 (by decide) tw_222 h.1.1 rfl ?_
    refine q_callV (ci := 3) (N := 7) (T := TX3) (As := [.int (nI i), .int (X b 15)]) (rest := [.int (nI (msN D d o i))]) (q := 27) dX3_tryOrder_24 rfl okX3_minutesTo tw_950 rfl rfl (by rw [hdp1]; exact c_mto hX.2.1 hX.2.2.1 hn7 (by omega) r J (by omega)) rfl rfl (Nat.le_of_ble_eq_true rfl) ⟨by decide, by decide⟩ ⟨rfl, rfl⟩ (fun rv_ I_ r_ J_ hv_ => ?_)
    obtain ⟨a1_, a2_, a3_, a4_⟩ := hv_
    rw [a1_, a2_, a3_, a4_]
    show Wq MX3_tryOrder 27 [some (.ref 80), some (.ref 58), some (.ref 76), some (.int (nI n)), some (.int much), some (.int (nI (msN D d o i))), some (.int (nI i))] [.int (nI (mtN D d o i)), .int (nI (msN D d o i))] X r J _
    refine x_iadd (q := 28) dX3_tryOrder_27 rfl ?_
    refine x_nmi (fun v1 ev1 => ?_)
    refine x_istore (L2 := [some (.ref 80), some (.ref 58), some (.ref 76), some (.int (nI n)), some (.int much), some (.int v1), some (.int (nI i))]) (q := 30) dX3_tryOrder_28 rfl (by decide) rfl rfl ?_
    obtain ⟨v2, ev2⟩ : ∃ y_ : Int32, y_ = (nI i) + 1 := ⟨_, rfl⟩
    refine x_iinc (v := v2) (L2 := [some (.ref 80), some (.ref 58), some (.ref 76), some (.int (nI n)), some (.int much), some (.int v1), some (.int v2)]) (q := 33) dX3_tryOrder_30 rfl (by decide) rfl rfl (by rw [ev2]; rfl) rfl ?_
    refine x_goto (t := 6) dX3_tryOrder_33 (by decide) ?_
    rw [nI_add] at ev1
    rw [ev1, show v2 = nI (i + 1) by rw [ev2, nI_p1]]
    exact ih (i + 1) (by omega)
set_option maxRecDepth 100000 in
theorem c_try {I : MI} {b yn wn hn sn st : Nat} {r : MR} (J : MJ) (hr : RefOk r b) (h : RelL I b yn wn hn sn st) {n d : Nat} {D o : Nat → Nat} (hDl : dl D) (hoy : ∀ k, k < n → o k < yn) (hn7 : n ≤ 7) (hd : d < yn) (hdp : I b 15 = nI d) {much : Int32} (hm : 0 ≤ much.toInt ∧ much.toInt ≤ 99) {W : Nat → Nat → Bool} (hW : ∀ y s, y < yn → s < 72 → W y s = Wb I b hn st much y s) {w mm : Nat} {bo : Nat → Nat} (hw : w ≤ 8) (hmm : mm ≤ 7000000) {X : MI} (hX : GI I yn n D o W w mm bo X) : Cq yX3_tryOrder MX3_tryOrder [.ref 80, .ref 58, .ref 76, .int (nI n), .int much] X r J (Rp none (GI I yn n D o W (uW (wsN D d o W n) (msN D d o n) w mm) (uM (wsN D d o W n) (msN D d o n) w mm) (uB (wsN D d o W n) (msN D d o n) w mm o bo)) r J) := by
  have hb28 := (refs_L hr).2
  have h8 : yn ≤ 8 := h.1.2.2.1
  have hdp1 : X b 15 = nI d := by rw [hX.1.L hb28 b ⟨by omega, by omega⟩]; exact hdp
  have ho8 : ∀ k, k < n → o k < 8 := fun k hk => (hX.2.2.1 k hk).1
  have hms := msN_le hDl (show d < 8 by omega) ho8
  refine cq_of [some (.ref 80), some (.ref 58), some (.ref 76), some (.int (nI n)), some (.int much), none, none] 2 (by decide +kernel) rfl rfl (Nat.le_of_ble_eq_true rfl) rfl ?_
  refine x_iconst (0) (q := 1) dX3_tryOrder_0 rfl (by decide) ?_
  refine x_istore (L2 := [some (.ref 80), some (.ref 58), some (.ref 76), some (.int (nI n)), some (.int much), some (.int 0), none]) (q := 3) dX3_tryOrder_1 rfl (by decide) rfl rfl ?_
  refine x_iconst (0) (q := 4) dX3_tryOrder_3 rfl (by decide) ?_
  refine x_istore (L2 := [some (.ref 80), some (.ref 58), some (.ref 76), some (.int (nI n)), some (.int much), some (.int 0), some (.int 0)]) (q := 6) dX3_tryOrder_4 rfl (by decide) rfl rfl ?_
  refine l_to J hr h hDl hoy hn7 hd hdp hm hW hw hmm hX _ ?_ n 0 (by omega)
  have hmn := hms n (Nat.le_refl _)
  have hwn := wsN_le D d o W n
  have e5 : X 80 5 = nI w := hX.2.2.2.2.1
  have e6 : X 80 6 = nI mm := hX.2.2.2.2.2.1
  refine x_aload_n (q := 37) dX3_tryOrder_36 rfl rfl ?_
  refine q_gi (K := 5) (q := 40) dX3_tryOrder_37 rfl cl_3 (by decide) tw_493 rfl rfl ?_
  refine x_if_ne (t := 53) (q := 43) dX3_tryOrder_40 (by decide) rfl (fun c40 => ?_) (fun c40 => ?_)
  · refine x_aload_n (q := 54) dX3_tryOrder_53 rfl rfl ?_
    refine x_aload_n (q := 55) dX3_tryOrder_54 rfl rfl ?_
    refine x_aload_n (q := 56) dX3_tryOrder_55 rfl rfl ?_
    refine x_iload_n (q := 57) dX3_tryOrder_56 rfl rfl ?_
    refine x_iload (q := 59) dX3_tryOrder_57 rfl rfl ?_
    refine q_callV (ci := 3) (N := 7) (T := TX3) (As := [.ref 58, .ref 76, .int (nI n), .int much]) (rest := []) (q := 62) dX3_tryOrder_59 rfl okX3_countWhite tw_954 rfl rfl (c_cw J hr (RelL_r hX.1 hb28 h) hX.2.1 hDl hX.2.2.1 hoy hn7 hd hdp1 hm (fun y s hy hs => by rw [Wb_r hX.1 hb28 (by omega)]; exact hW y s hy hs) hX.2.2.2.1) rfl rfl (Nat.le_of_ble_eq_true rfl) ⟨by decide, by decide⟩ ⟨rfl, rfl⟩ (fun rv_ Y r_ J_ hv_ => ?_)
    obtain ⟨a1_, hYY, a3_, a4_⟩ := hv_
    rw [a1_, a3_, a4_]
    have hY := GI_3 hX hYY.1 hYY.2
    have y5 : Y 80 5 = nI w := hY.2.2.2.2.1
    have y6 : Y 80 6 = nI mm := hY.2.2.2.2.2.1
    show Wq MX3_tryOrder 62 [some (.ref 80), some (.ref 58), some (.ref 76), some (.int (nI n)), some (.int much), some (.int (nI (msN D d o n))), some (.int (nI n))] [.int (nI (wsN D d o W n))] Y r J _
    refine x_istore (L2 := [some (.ref 80), some (.ref 58), some (.ref 76), some (.int (nI n)), some (.int much), some (.int (nI (msN D d o n))), some (.int (nI (wsN D d o W n)))]) (q := 64) dX3_tryOrder_62 rfl (by decide) rfl rfl ?_
    refine x_iload (q := 66) dX3_tryOrder_64 rfl rfl ?_
    refine x_aload_n (q := 67) dX3_tryOrder_66 rfl rfl ?_
    refine q_gi (K := 5) (q := 70) dX3_tryOrder_67 rfl cl_3 (by decide) tw_493 rfl rfl ?_
    refine x_icmp_lt (t := 91) (q := 73) dX3_tryOrder_70 (by decide) rfl (fun c70 => ?_) (fun c70 => ?_)
    · refine x_aload_n (q := 92) dX3_tryOrder_91 rfl rfl ?_
      refine x_iload (q := 94) dX3_tryOrder_92 rfl rfl ?_
      refine q_pi (K := 5) (q := 97) dX3_tryOrder_94 rfl cl_3 (by decide) tw_493 rfl rfl rfl rfl (fun I21 eI21 => ?_)
      refine x_aload_n (q := 98) dX3_tryOrder_97 rfl rfl ?_
      refine x_iload (q := 100) dX3_tryOrder_98 rfl rfl ?_
      refine q_pi (K := 6) (q := 103) dX3_tryOrder_100 rfl cl_3 (by decide) tw_495 rfl rfl rfl rfl (fun I22 eI22 => ?_)
      refine x_aload_n (q := 104) dX3_tryOrder_103 rfl rfl ?_
      refine q_gr (K := 2) (b := 83) (q := 107) dX3_tryOrder_104 rfl cl_3 (by decide) tw_488 rfl rfl rfl ?_
      refine x_iconst (0) (q := 108) dX3_tryOrder_107 rfl (by decide) ?_
      refine x_aload_n (q := 109) dX3_tryOrder_108 rfl rfl ?_
      refine q_gr (K := 3) (b := 84) (q := 112) dX3_tryOrder_109 rfl cl_3 (by decide) tw_489 rfl rfl rfl ?_
      refine x_iconst (0) (q := 113) dX3_tryOrder_112 rfl (by decide) ?_
      refine x_iload_n (q := 114) dX3_tryOrder_113 rfl rfl ?_
      refine q_copy (q := 117) dX3_tryOrder_114 rfl tw_959 tw_748 tw_747 tw_100 (by decide) (Nat.le_of_ble_eq_true rfl) rfl rfl (by decide) (by decide) (nI_pos (by omega)) (by rw [nI_clamp (by omega)]; show 0 + n ≤ 7; omega) (by rw [nI_clamp (by omega)]; show 0 + n ≤ 7; omega) (fun I23 eI23 => ?_)
      refine q_vret dX3_tryOrder_117 rfl ?_
      rw [show (0 : Int32).toNatClampNeg = 0 from rfl, nI_clamp (by omega)] at eI23
      rw [eI23, eI22, eI21]
      refine ⟨rfl, GI_yes hY ?_, rfl, rfl⟩
      first
        | exact Or.inl ((nI_ltI (by omega) (by omega)).mp (by rw [y5] at c70; exact c70))
        | (rw [y5, nI_eq (by omega) (by omega)] at cq0; rw [y6, nI_leI (by omega) (by omega)] at cq; exact Or.inr ⟨cq0, by omega⟩)
    · refine x_iload (q := 75) dX3_tryOrder_73 rfl rfl ?_
      refine x_aload_n (q := 76) dX3_tryOrder_75 rfl rfl ?_
      refine q_gi (K := 5) (q := 79) dX3_tryOrder_76 rfl cl_3 (by decide) tw_493 rfl rfl ?_
      refine x_icmp_ne (t := 117) (q := 82) dX3_tryOrder_79 (by decide) rfl (fun cq => ?_) (fun cq => ?_)
      · refine q_vret dX3_tryOrder_117 rfl ?_
        refine ⟨rfl, GI_no hY ?_, rfl, rfl⟩
        rw [y5, nI_ltI (by omega) (by omega)] at c70
        rintro (q | ⟨q1, q2⟩)
        · exact c70 q
        · first
          | (rw [y6, nI_leI (by omega) (by omega)] at cq; omega)
          | exact cq (by rw [y5, q1])
      · have cq0 := cq
        refine x_iload (q := 84) dX3_tryOrder_82 rfl rfl ?_
        refine x_aload_n (q := 85) dX3_tryOrder_84 rfl rfl ?_
        refine q_gi (K := 6) (q := 88) dX3_tryOrder_85 rfl cl_3 (by decide) tw_495 rfl rfl ?_
        refine x_icmp_ge (t := 117) (q := 91) dX3_tryOrder_88 (by decide) rfl (fun cq => ?_) (fun cq => ?_)
        · refine q_vret dX3_tryOrder_117 rfl ?_
          refine ⟨rfl, GI_no hY ?_, rfl, rfl⟩
          rw [y5, nI_ltI (by omega) (by omega)] at c70
          rintro (q | ⟨q1, q2⟩)
          · exact c70 q
          · first
            | (rw [y6, nI_leI (by omega) (by omega)] at cq; omega)
            | exact cq (by rw [y5, q1])
        · refine x_aload_n (q := 92) dX3_tryOrder_91 rfl rfl ?_
          refine x_iload (q := 94) dX3_tryOrder_92 rfl rfl ?_
          refine q_pi (K := 5) (q := 97) dX3_tryOrder_94 rfl cl_3 (by decide) tw_493 rfl rfl rfl rfl (fun I41 eI41 => ?_)
          refine x_aload_n (q := 98) dX3_tryOrder_97 rfl rfl ?_
          refine x_iload (q := 100) dX3_tryOrder_98 rfl rfl ?_
          refine q_pi (K := 6) (q := 103) dX3_tryOrder_100 rfl cl_3 (by decide) tw_495 rfl rfl rfl rfl (fun I42 eI42 => ?_)
          refine x_aload_n (q := 104) dX3_tryOrder_103 rfl rfl ?_
          refine q_gr (K := 2) (b := 83) (q := 107) dX3_tryOrder_104 rfl cl_3 (by decide) tw_488 rfl rfl rfl ?_
          refine x_iconst (0) (q := 108) dX3_tryOrder_107 rfl (by decide) ?_
          refine x_aload_n (q := 109) dX3_tryOrder_108 rfl rfl ?_
          refine q_gr (K := 3) (b := 84) (q := 112) dX3_tryOrder_109 rfl cl_3 (by decide) tw_489 rfl rfl rfl ?_
          refine x_iconst (0) (q := 113) dX3_tryOrder_112 rfl (by decide) ?_
          refine x_iload_n (q := 114) dX3_tryOrder_113 rfl rfl ?_
          refine q_copy (q := 117) dX3_tryOrder_114 rfl tw_959 tw_748 tw_747 tw_100 (by decide) (Nat.le_of_ble_eq_true rfl) rfl rfl (by decide) (by decide) (nI_pos (by omega)) (by rw [nI_clamp (by omega)]; show 0 + n ≤ 7; omega) (by rw [nI_clamp (by omega)]; show 0 + n ≤ 7; omega) (fun I43 eI43 => ?_)
          refine q_vret dX3_tryOrder_117 rfl ?_
          rw [show (0 : Int32).toNatClampNeg = 0 from rfl, nI_clamp (by omega)] at eI43
          rw [eI43, eI42, eI41]
          refine ⟨rfl, GI_yes hY ?_, rfl, rfl⟩
          first
            | exact Or.inl ((nI_ltI (by omega) (by omega)).mp (by rw [y5] at c70; exact c70))
            | (rw [y5, nI_eq (by omega) (by omega)] at cq0; rw [y6, nI_leI (by omega) (by omega)] at cq; exact Or.inr ⟨cq0, by omega⟩)
  · refine x_iload (q := 45) dX3_tryOrder_43 rfl rfl ?_
    refine x_aload_n (q := 46) dX3_tryOrder_45 rfl rfl ?_
    refine q_gi (K := 6) (q := 49) dX3_tryOrder_46 rfl cl_3 (by decide) tw_495 rfl rfl ?_
    refine x_icmp_lt (t := 53) (q := 52) dX3_tryOrder_49 (by decide) rfl (fun c49 => ?_) (fun c49 => ?_)
    · refine x_aload_n (q := 54) dX3_tryOrder_53 rfl rfl ?_
      refine x_aload_n (q := 55) dX3_tryOrder_54 rfl rfl ?_
      refine x_aload_n (q := 56) dX3_tryOrder_55 rfl rfl ?_
      refine x_iload_n (q := 57) dX3_tryOrder_56 rfl rfl ?_
      refine x_iload (q := 59) dX3_tryOrder_57 rfl rfl ?_
      refine q_callV (ci := 3) (N := 7) (T := TX3) (As := [.ref 58, .ref 76, .int (nI n), .int much]) (rest := []) (q := 62) dX3_tryOrder_59 rfl okX3_countWhite tw_954 rfl rfl (c_cw J hr (RelL_r hX.1 hb28 h) hX.2.1 hDl hX.2.2.1 hoy hn7 hd hdp1 hm (fun y s hy hs => by rw [Wb_r hX.1 hb28 (by omega)]; exact hW y s hy hs) hX.2.2.2.1) rfl rfl (Nat.le_of_ble_eq_true rfl) ⟨by decide, by decide⟩ ⟨rfl, rfl⟩ (fun rv_ Y r_ J_ hv_ => ?_)
      obtain ⟨a1_, hYY, a3_, a4_⟩ := hv_
      rw [a1_, a3_, a4_]
      have hY := GI_3 hX hYY.1 hYY.2
      have y5 : Y 80 5 = nI w := hY.2.2.2.2.1
      have y6 : Y 80 6 = nI mm := hY.2.2.2.2.2.1
      show Wq MX3_tryOrder 62 [some (.ref 80), some (.ref 58), some (.ref 76), some (.int (nI n)), some (.int much), some (.int (nI (msN D d o n))), some (.int (nI n))] [.int (nI (wsN D d o W n))] Y r J _
      refine x_istore (L2 := [some (.ref 80), some (.ref 58), some (.ref 76), some (.int (nI n)), some (.int much), some (.int (nI (msN D d o n))), some (.int (nI (wsN D d o W n)))]) (q := 64) dX3_tryOrder_62 rfl (by decide) rfl rfl ?_
      refine x_iload (q := 66) dX3_tryOrder_64 rfl rfl ?_
      refine x_aload_n (q := 67) dX3_tryOrder_66 rfl rfl ?_
      refine q_gi (K := 5) (q := 70) dX3_tryOrder_67 rfl cl_3 (by decide) tw_493 rfl rfl ?_
      refine x_icmp_lt (t := 91) (q := 73) dX3_tryOrder_70 (by decide) rfl (fun c70 => ?_) (fun c70 => ?_)
      · refine x_aload_n (q := 92) dX3_tryOrder_91 rfl rfl ?_
        refine x_iload (q := 94) dX3_tryOrder_92 rfl rfl ?_
        refine q_pi (K := 5) (q := 97) dX3_tryOrder_94 rfl cl_3 (by decide) tw_493 rfl rfl rfl rfl (fun I24 eI24 => ?_)
        refine x_aload_n (q := 98) dX3_tryOrder_97 rfl rfl ?_
        refine x_iload (q := 100) dX3_tryOrder_98 rfl rfl ?_
        refine q_pi (K := 6) (q := 103) dX3_tryOrder_100 rfl cl_3 (by decide) tw_495 rfl rfl rfl rfl (fun I25 eI25 => ?_)
        refine x_aload_n (q := 104) dX3_tryOrder_103 rfl rfl ?_
        refine q_gr (K := 2) (b := 83) (q := 107) dX3_tryOrder_104 rfl cl_3 (by decide) tw_488 rfl rfl rfl ?_
        refine x_iconst (0) (q := 108) dX3_tryOrder_107 rfl (by decide) ?_
        refine x_aload_n (q := 109) dX3_tryOrder_108 rfl rfl ?_
        refine q_gr (K := 3) (b := 84) (q := 112) dX3_tryOrder_109 rfl cl_3 (by decide) tw_489 rfl rfl rfl ?_
        refine x_iconst (0) (q := 113) dX3_tryOrder_112 rfl (by decide) ?_
        refine x_iload_n (q := 114) dX3_tryOrder_113 rfl rfl ?_
        refine q_copy (q := 117) dX3_tryOrder_114 rfl tw_959 tw_748 tw_747 tw_100 (by decide) (Nat.le_of_ble_eq_true rfl) rfl rfl (by decide) (by decide) (nI_pos (by omega)) (by rw [nI_clamp (by omega)]; show 0 + n ≤ 7; omega) (by rw [nI_clamp (by omega)]; show 0 + n ≤ 7; omega) (fun I26 eI26 => ?_)
        refine q_vret dX3_tryOrder_117 rfl ?_
        rw [show (0 : Int32).toNatClampNeg = 0 from rfl, nI_clamp (by omega)] at eI26
        rw [eI26, eI25, eI24]
        refine ⟨rfl, GI_yes hY ?_, rfl, rfl⟩
        first
          | exact Or.inl ((nI_ltI (by omega) (by omega)).mp (by rw [y5] at c70; exact c70))
          | (rw [y5, nI_eq (by omega) (by omega)] at cq0; rw [y6, nI_leI (by omega) (by omega)] at cq; exact Or.inr ⟨cq0, by omega⟩)
      · refine x_iload (q := 75) dX3_tryOrder_73 rfl rfl ?_
        refine x_aload_n (q := 76) dX3_tryOrder_75 rfl rfl ?_
        refine q_gi (K := 5) (q := 79) dX3_tryOrder_76 rfl cl_3 (by decide) tw_493 rfl rfl ?_
        refine x_icmp_ne (t := 117) (q := 82) dX3_tryOrder_79 (by decide) rfl (fun cq => ?_) (fun cq => ?_)
        · refine q_vret dX3_tryOrder_117 rfl ?_
          refine ⟨rfl, GI_no hY ?_, rfl, rfl⟩
          rw [y5, nI_ltI (by omega) (by omega)] at c70
          rintro (q | ⟨q1, q2⟩)
          · exact c70 q
          · first
            | (rw [y6, nI_leI (by omega) (by omega)] at cq; omega)
            | exact cq (by rw [y5, q1])
        · have cq0 := cq
          refine x_iload (q := 84) dX3_tryOrder_82 rfl rfl ?_
          refine x_aload_n (q := 85) dX3_tryOrder_84 rfl rfl ?_
          refine q_gi (K := 6) (q := 88) dX3_tryOrder_85 rfl cl_3 (by decide) tw_495 rfl rfl ?_
          refine x_icmp_ge (t := 117) (q := 91) dX3_tryOrder_88 (by decide) rfl (fun cq => ?_) (fun cq => ?_)
          · refine q_vret dX3_tryOrder_117 rfl ?_
            refine ⟨rfl, GI_no hY ?_, rfl, rfl⟩
            rw [y5, nI_ltI (by omega) (by omega)] at c70
            rintro (q | ⟨q1, q2⟩)
            · exact c70 q
            · first
              | (rw [y6, nI_leI (by omega) (by omega)] at cq; omega)
              | exact cq (by rw [y5, q1])
          · refine x_aload_n (q := 92) dX3_tryOrder_91 rfl rfl ?_
            refine x_iload (q := 94) dX3_tryOrder_92 rfl rfl ?_
            refine q_pi (K := 5) (q := 97) dX3_tryOrder_94 rfl cl_3 (by decide) tw_493 rfl rfl rfl rfl (fun I41 eI41 => ?_)
            refine x_aload_n (q := 98) dX3_tryOrder_97 rfl rfl ?_
            refine x_iload (q := 100) dX3_tryOrder_98 rfl rfl ?_
            refine q_pi (K := 6) (q := 103) dX3_tryOrder_100 rfl cl_3 (by decide) tw_495 rfl rfl rfl rfl (fun I42 eI42 => ?_)
            refine x_aload_n (q := 104) dX3_tryOrder_103 rfl rfl ?_
            refine q_gr (K := 2) (b := 83) (q := 107) dX3_tryOrder_104 rfl cl_3 (by decide) tw_488 rfl rfl rfl ?_
            refine x_iconst (0) (q := 108) dX3_tryOrder_107 rfl (by decide) ?_
            refine x_aload_n (q := 109) dX3_tryOrder_108 rfl rfl ?_
            refine q_gr (K := 3) (b := 84) (q := 112) dX3_tryOrder_109 rfl cl_3 (by decide) tw_489 rfl rfl rfl ?_
            refine x_iconst (0) (q := 113) dX3_tryOrder_112 rfl (by decide) ?_
            refine x_iload_n (q := 114) dX3_tryOrder_113 rfl rfl ?_
            refine q_copy (q := 117) dX3_tryOrder_114 rfl tw_959 tw_748 tw_747 tw_100 (by decide) (Nat.le_of_ble_eq_true rfl) rfl rfl (by decide) (by decide) (nI_pos (by omega)) (by rw [nI_clamp (by omega)]; show 0 + n ≤ 7; omega) (by rw [nI_clamp (by omega)]; show 0 + n ≤ 7; omega) (fun I43 eI43 => ?_)
            refine q_vret dX3_tryOrder_117 rfl ?_
            rw [show (0 : Int32).toNatClampNeg = 0 from rfl, nI_clamp (by omega)] at eI43
            rw [eI43, eI42, eI41]
            refine ⟨rfl, GI_yes hY ?_, rfl, rfl⟩
            first
              | exact Or.inl ((nI_ltI (by omega) (by omega)).mp (by rw [y5] at c70; exact c70))
              | (rw [y5, nI_eq (by omega) (by omega)] at cq0; rw [y6, nI_leI (by omega) (by omega)] at cq; exact Or.inr ⟨cq0, by omega⟩)
    · refine q_vret dX3_tryOrder_52 rfl ?_
      refine ⟨rfl, GI_no hX ?_, rfl, rfl⟩
      rw [e5] at c40
      rw [e6, nI_ltI (by omega) (by omega)] at c49
      have w0 : w = 0 := by
        by_cases z : w = 0
        · exact z
        · exact absurd c40 (nI_ne0 (by omega) (by omega))
      rintro (q | ⟨q1, q2⟩)
      · omega
      · omega
def gdP (D : Nat → Nat) (d yn N : Nat) : Prop := ∀ y, y < yn → N.testBit y = true → D (8 * d + y) < 1000000
theorem cnt_1 {N y : Nat} (h : N.testBit y = true) : cnt N (y + 1) = cnt N y + 1 := by
  show cnt N y + (if N.testBit y then 1 else 0) = _
  rw [if_pos h]
theorem cnt_0 {N y : Nat} (h : N.testBit y = false) : cnt N (y + 1) = cnt N y := by
  show cnt N y + (if N.testBit y then 1 else 0) = _
  rw [h]
  rfl
theorem OF_1 {N y i : Nat} (h : N.testBit y = true) : OF N (y + 1) i = OF N y i := if_pos (Or.inl h)
theorem OF_0 {N y i : Nat} (h : i < cnt N y) : OF N (y + 1) i = OF N y i := if_pos (Or.inr h)
theorem oc_1 {c N y : Nat} {X : MI} (hy : y < 8) (hb : N.testBit y = true) (h : oc c (cnt N y) (OF N y) X) : oc c (cnt N (y + 1)) (OF N (y + 1)) (upI X c (cnt N y) (nI y)) := by
  intro k hk
  have hlo := OF_lo N (y + 1) k hk
  refine ⟨by omega, ?_⟩
  rw [cnt_1 hb] at hk
  rw [OF_1 hb]
  by_cases e : k = cnt N y
  · rw [e, upq, OF_hi N y _ (Nat.le_refl _)]
    congr 1
    omega
  · rw [ups e]
    exact (h k (by omega)).2
theorem oc_0 {c N y : Nat} {X : MI} (hb : N.testBit y = false) (h : oc c (cnt N y) (OF N y) X) : oc c (cnt N (y + 1)) (OF N (y + 1)) X := by
  intro k hk
  rw [cnt_0 hb] at hk
  rw [OF_0 hk]
  exact h k hk
theorem cnt_d {N y yn : Nat} (h : y ≤ yn) : cnt N y ≤ cnt N yn := by
  have := cnt_m N (k := y) (yn - y)
  rw [show y + (yn - y) = yn by omega] at this
  exact this
theorem oc_7 {c N y yn : Nat} {X : MI} (hy : y ≤ yn) (h7 : cnt N yn ≤ cnt N y) (h : oc c (cnt N y) (OF N y) X) : oc c (cnt N yn) (OF N yn) X := by
  intro k hk
  have e := OF_st (N := N) (y := y) (i := k) (by omega) (yn - y)
  rw [show y + (yn - y) = yn by omega] at e
  rw [e]
  exact h k (by omega)
set_option maxRecDepth 100000 in
theorem l_lu {Z : MI} {b yn wn hn sn st : Nat} (r : MR) (J : MJ) (h : RelL Z b yn wn hn sn st) (hb28 : b ≤ 28) {D : Nat → Nat} (hD : dc 81 D Z) (hDl : dl D) {d N : Nat} (hd : d < yn) (hdp : Z b 15 = nI d) (hN : N < 256) (h7 : cnt N yn ≤ 7) {g : Int32} (hg : (gdP D d yn N → g = 1) ∧ (¬ gdP D d yn N → g = 0)) : ∀ (f : Nat) (y : Nat) (X : MI) (_ : y + f = yn) (_ : F1 83 Z X ∧ oc 83 (cnt N y) (OF N y) X ∧ ∀ y1, y1 < y → N.testBit y1 = true → D (8 * d + y1) < 1000000), Wq MX3_lineUp 5 [some (.ref 80), some (.ref b), some (.int (nI N)), some (.int (nI (cnt N y))), some (.int (nI y))] [] X r J (Rp (some (.int g)) (fun Y => F1 83 Z Y ∧ (gdP D d yn N → oc 83 (cnt N yn) (OF N yn) Y)) r J) := by
  have h8 : yn ≤ 8 := h.1.2.2.1
  intro f
  induction f with
  | zero =>
    intro y X hyk hX
    have ey : X b 1 = nI yn := by rw [hX.1 b (by omega)]; exact h.1.2.1
    have hcy := cnt_le N y
    refine x_iload (q := 7) dX3_lineUp_5 rfl rfl ?_
    refine x_aload_n (q := 8) dX3_lineUp_7 rfl rfl ?_
    refine q_gi (K := 1) (q := 11) dX3_lineUp_8 rfl cl_5 (by decide) tw_170 h.1.1 rfl ?_
    refine x_icmp_ge (t := 68) (q := 14) dX3_lineUp_11 (by decide) rfl (fun c11 => ?_) (fun c11 => absurd c11 (fun q => q (by rw [ey]; exact nI_le (by omega) (by omega))))
    refine x_iconst (1) (q := 69) dX3_lineUp_68 rfl (by decide) ?_
    refine q_zret dX3_lineUp_69 rfl (Or.inr rfl) ?_
    have gd : gdP D d yn N := fun y1 g1 g2 => hX.2.2 y1 (by omega) g2
    rw [hg.1 gd]
    refine ⟨rfl, ⟨hX.1, fun _ => ?_⟩, rfl, rfl⟩
    rw [show y = yn by omega] at hX
    exact hX.2.1
  | succ f ih =>
    intro y X hyk hX
    have ey : X b 1 = nI yn := by rw [hX.1 b (by omega)]; exact h.1.2.1
    have hcy := cnt_le N y
    refine x_iload (q := 7) dX3_lineUp_5 rfl rfl ?_
    refine x_aload_n (q := 8) dX3_lineUp_7 rfl rfl ?_
    refine q_gi (K := 1) (q := 11) dX3_lineUp_8 rfl cl_5 (by decide) tw_170 h.1.1 rfl ?_
    refine x_icmp_ge (t := 68) (q := 14) dX3_lineUp_11 (by decide) rfl (fun c11 => absurd c11 (by rw [ey]; exact nI_ge (by omega) (by omega))) (fun c11 => ?_)
    refine x_iload_n (q := 15) dX3_lineUp_14 rfl rfl ?_
    refine x_bipush (7) (q := 17) dX3_lineUp_15 rfl (by decide) ?_
    refine x_icmp_ge (t := 68) (q := 20) dX3_lineUp_17 (by decide) rfl (fun c17 => ?_) (fun c17 => ?_)
    · refine x_iconst (1) (q := 69) dX3_lineUp_68 rfl (by decide) ?_
      refine q_zret dX3_lineUp_69 rfl (Or.inr rfl) ?_
      have c7 : 7 ≤ cnt N y := (nI_leI (a := 7) (by omega) (by omega)).mp c17
      have hmx := cnt_d (N := N) (show y ≤ yn by omega)
      have gd : gdP D d yn N := fun y1 g1 g2 => by
        by_cases e : y1 < y
        · exact hX.2.2 y1 e g2
        · have q1 := cnt_1 g2
          have q2 := cnt_d (N := N) (show y ≤ y1 by omega)
          have q3 := cnt_d (N := N) (show y1 + 1 ≤ yn by omega)
          omega
      rw [hg.1 gd]
      exact ⟨rfl, ⟨hX.1, fun _ => oc_7 (by omega) (by omega) hX.2.1⟩, rfl, rfl⟩
    · have c7 : cnt N y < 7 := by
        by_cases z : cnt N y < 7
        · exact z
        · exact absurd (nI_le (a := 7) (by omega) (by omega)) c17
      have hdp1 : X b 15 = nI d := by rw [hX.1 b (by omega)]; exact hdp
      have hDy := hDl (8 * d + y) (by omega)
      have eD : X 81 (nI d * 8 + nI y).toNatClampNeg = nI (D (8 * d + y)) := by
        rw [ix1, nI_clamp (by omega), hX.1 81 (by decide)]
        exact hD _ (by omega)
      refine x_iload_n (q := 21) dX3_lineUp_20 rfl rfl ?_
      refine x_iload (q := 23) dX3_lineUp_21 rfl rfl ?_
      refine x_ishr (q := 24) dX3_lineUp_23 rfl ?_
      refine x_iconst (1) (q := 25) dX3_lineUp_24 rfl (by decide) ?_
      refine x_iand (q := 26) dX3_lineUp_25 rfl ?_
      refine x_if_eq (t := 62) (q := 29) dX3_lineUp_26 (by decide) rfl (fun c26 => ?_) (fun c26 => ?_)
      · obtain ⟨v21, ev21⟩ : ∃ y_ : Int32, y_ = (nI y) + 1 := ⟨_, rfl⟩
        refine x_iinc (v := v21) (L2 := [some (.ref 80), some (.ref b), some (.int (nI N)), some (.int (nI (cnt N y))), some (.int v21)]) (q := 65) dX3_lineUp_62 rfl (by decide) rfl rfl (by rw [ev21]; rfl) rfl ?_
        refine x_goto (t := 5) dX3_lineUp_65 (by decide) ?_
        rw [bit_0 (by omega) (by omega)] at c26
        have ec := cnt_0 c26
        rw [show v21 = nI (y + 1) by rw [ev21, nI_p1], ← ec]
        refine ih (y + 1) X (by omega) ⟨hX.1, oc_0 c26 hX.2.1, fun y1 g1 g2 => ?_⟩
        by_cases e : y1 = y
        · rw [e, c26] at g2; exact absurd g2 (by decide)
        · exact hX.2.2 y1 (by omega) g2
      · refine x_aload_n (q := 30) dX3_lineUp_29 rfl rfl ?_
        refine q_gr (K := 0) (b := 81) (q := 33) dX3_lineUp_30 rfl cl_3 (by decide) tw_486 rfl rfl rfl ?_
        refine x_aload_n (q := 34) dX3_lineUp_33 rfl rfl ?_
        refine q_gi (K := 15) (q := 37) dX3_lineUp_34 rfl cl_5 (by decide) tw_222 h.1.1 rfl ?_
        refine x_bipush (8) (q := 39) dX3_lineUp_37 rfl (by decide) ?_
        refine x_imul (q := 40) dX3_lineUp_39 rfl ?_
        refine x_iload (q := 42) dX3_lineUp_40 rfl rfl ?_
        refine x_iadd (q := 43) dX3_lineUp_42 rfl ?_
        refine q_iald (q := 44) dX3_lineUp_43 rfl rfl (by rw [hdp1, ix1]; exact vp_in_nI (by omega) (by decide)) ?_
        refine x_ldc (v := 1000000) (q := 46) dX3_lineUp_44 rfl tw_934 ?_
        refine x_icmp_lt (t := 51) (q := 49) dX3_lineUp_46 (by decide) rfl (fun c46 => ?_) (fun c46 => ?_)
        · refine x_aload_n (q := 52) dX3_lineUp_51 rfl rfl ?_
          refine q_gr (K := 2) (b := 83) (q := 55) dX3_lineUp_52 rfl cl_3 (by decide) tw_488 rfl rfl rfl ?_
          refine x_iload_n (q := 56) dX3_lineUp_55 rfl rfl ?_
          refine x_iload (q := 58) dX3_lineUp_56 rfl rfl ?_
          refine q_iast (q := 59) dX3_lineUp_58 rfl rfl (vp_in_nI (by omega) (by decide)) (fun I22 eI22 => ?_)
          obtain ⟨v23, ev23⟩ : ∃ y_ : Int32, y_ = (nI (cnt N y)) + 1 := ⟨_, rfl⟩
          refine x_iinc (v := v23) (L2 := [some (.ref 80), some (.ref b), some (.int (nI N)), some (.int v23), some (.int (nI y))]) (q := 62) dX3_lineUp_59 rfl (by decide) rfl rfl (by rw [ev23]; rfl) rfl ?_
          obtain ⟨v24, ev24⟩ : ∃ y_ : Int32, y_ = (nI y) + 1 := ⟨_, rfl⟩
          refine x_iinc (v := v24) (L2 := [some (.ref 80), some (.ref b), some (.int (nI N)), some (.int v23), some (.int v24)]) (q := 65) dX3_lineUp_62 rfl (by decide) rfl rfl (by rw [ev24]; rfl) rfl ?_
          refine x_goto (t := 5) dX3_lineUp_65 (by decide) ?_
          rw [bit_0 (by omega) (by omega)] at c26
          have tb : N.testBit y = true := by
            cases q : N.testBit y
            · exact absurd q c26
            · rfl
          rw [hdp1, eD] at c46
          rw [nI_clamp (by omega)] at eI22
          rw [eI22, show v24 = nI (y + 1) by rw [ev24, nI_p1], show v23 = nI (cnt N (y + 1)) by rw [ev23, nI_p1, cnt_1 tb]]
          refine ih (y + 1) _ (by omega) ⟨hX.1.up, oc_1 (by omega) tb hX.2.1, fun y1 g1 g2 => ?_⟩
          by_cases e : y1 = y
          · rw [e]; exact (nI_ltI (b := 1000000) (by omega) (by decide)).mp c46
          · exact hX.2.2 y1 (by omega) g2
        · refine x_iconst (0) (q := 50) dX3_lineUp_49 rfl (by decide) ?_
          refine q_zret dX3_lineUp_50 rfl (Or.inl rfl) ?_
          have ng : ¬ gdP D d yn N := fun z => by
            rw [hdp1, eD] at c46
            rw [bit_0 (by omega) (by omega)] at c26
            have q := z y (by omega) (eq_true_of_ne_false c26)
            exact c46 (nI_lt (b := 1000000) q (by decide))
          rw [hg.2 ng]
          exact ⟨rfl, ⟨hX.1, fun z => absurd z ng⟩, rfl, rfl⟩
set_option maxRecDepth 100000 in
theorem c_lu {Z : MI} {b yn wn hn sn st : Nat} (r : MR) (J : MJ) (h : RelL Z b yn wn hn sn st) (hb28 : b ≤ 28) {D : Nat → Nat} (hD : dc 81 D Z) (hDl : dl D) {d N : Nat} (hd : d < yn) (hdp : Z b 15 = nI d) (hN : N < 256) (h7 : cnt N yn ≤ 7) {g : Int32} (hg : (gdP D d yn N → g = 1) ∧ (¬ gdP D d yn N → g = 0)) : Cq yX3_lineUp MX3_lineUp [.ref 80, .ref b, .int (nI N)] Z r J (Rp (some (.int g)) (fun Y => F1 83 Z Y ∧ (gdP D d yn N → oc 83 (cnt N yn) (OF N yn) Y)) r J) := by
  refine cq_of [some (.ref 80), some (.ref b), some (.int (nI N)), none, none] 2 (by decide +kernel) rfl rfl (Nat.le_of_ble_eq_true rfl) rfl ?_
  refine x_iconst (0) (q := 1) dX3_lineUp_0 rfl (by decide) ?_
  refine x_istore_n (L2 := [some (.ref 80), some (.ref b), some (.int (nI N)), some (.int 0), none]) (q := 2) dX3_lineUp_1 rfl (by decide) rfl rfl ?_
  refine x_iconst (0) (q := 3) dX3_lineUp_2 rfl (by decide) ?_
  refine x_istore (L2 := [some (.ref 80), some (.ref b), some (.int (nI N)), some (.int 0), some (.int 0)]) (q := 5) dX3_lineUp_3 rfl (by decide) rfl rfl ?_
  exact l_lu r J h hb28 hD hDl hd hdp hN h7 hg yn 0 Z (by omega) ⟨fun _ _ => rfl, fun k hk => absurd hk (by unfold cnt; omega), fun y1 g1 => absurd g1 (by omega)⟩
