/-- an answer, and nothing has changed -/
def Rt (x : Option Value) (I : MI) (r : MR) (J : MJ) : Option Value → MI → MR → MJ → Prop := fun v I' r' J' => v = x ∧ I' = I ∧ r' = r ∧ J' = J
def minJ (x y : Int32) : Int32 := if y < x then y else x
def maxJ (x y : Int32) : Int32 := if x < y then y else x
def hourF (step hc : Int32) : Int32 := maxJ 0 (minJ (step / 6) (hc - 1))
/-- a ground as numbers: 0..4 its layers, 5 water, 6 snow, 7 ice, 8 salt -/
abbrev GT : Type := Nat → Int32
def gGet (I : MI) (g : Nat) : GT := fun j => if j < 5 then I (g + 1) j else I g (j - 4)
def gPut (I : MI) (g : Nat) (G : GT) : MI := fun b j => if b = g + 1 ∧ j < 5 then G j else if b = g ∧ 1 ≤ j then G (j + 4) else I b j
theorem gPut_get (I : MI) (g : Nat) : gPut I g (gGet I g) = I := by
  funext b j
  unfold gPut gGet
  by_cases h1 : b = g + 1 ∧ j < 5
  · rw [if_pos h1, if_pos h1.2, h1.1]
  · rw [if_neg h1]
    by_cases h2 : b = g ∧ 1 ≤ j
    · rw [if_pos h2, if_neg (by omega), h2.1]
      rfl
    · rw [if_neg h2]
theorem gGet_put (I : MI) (g : Nat) (G : GT) : gGet (gPut I g G) g = G := by
  funext j
  unfold gPut gGet
  by_cases h : j < 5
  · simp [h]
  · have h3 : ¬ (g = g + 1 ∧ j - 4 < 5) := by omega
    have h4 : g = g ∧ 1 ≤ j - 4 := by omega
    rw [if_neg h]
    show (if g = g + 1 ∧ j - 4 < 5 then G (j - 4) else if g = g ∧ 1 ≤ j - 4 then G (j - 4 + 4) else I g (j - 4)) = G j
    rw [if_neg h3, if_pos h4]
    congr 1
    omega
theorem gPut_f (I : MI) (g : Nat) (G : GT) (K : Nat) (h : 1 ≤ K) : gPut I g G g K = G (K + 4) := by
  have h3 : ¬ (g = g + 1 ∧ K < 5) := by omega
  simp [gPut, h3, h]
theorem gPut_w (I : MI) (g : Nat) (G : GT) (j : Nat) (h : j < 5) : gPut I g G (g + 1) j = G j := by
  simp [gPut, h]
theorem gPut_o (I : MI) (g : Nat) (G : GT) (b j : Nat) (h1 : b ≠ g) (h2 : b ≠ g + 1) : gPut I g G b j = I b j := by
  simp [gPut, h1, h2]
theorem gPut_uf (I : MI) (g : Nat) (G : GT) (K : Nat) (x : Int32) (h : 1 ≤ K) : upI (gPut I g G) g K x = gPut I g (upd G (K + 4) x) := by
  funext b j
  unfold upI gPut upd
  by_cases h1 : b = g ∧ j = K
  · have h3 : ¬ (b = g + 1 ∧ j < 5) := by omega
    have h4 : b = g ∧ 1 ≤ j := by omega
    have h5 : j + 4 = K + 4 := by omega
    rw [if_pos h1, if_neg h3, if_pos h4, if_pos h5]
  · rw [if_neg h1]
    by_cases h3 : b = g + 1 ∧ j < 5
    · have h5 : ¬ j = K + 4 := by omega
      rw [if_pos h3, if_pos h3, if_neg h5]
    · rw [if_neg h3, if_neg h3]
      by_cases h4 : b = g ∧ 1 ≤ j
      · have h5 : ¬ j + 4 = K + 4 := by omega
        rw [if_pos h4, if_pos h4, if_neg h5]
      · rw [if_neg h4, if_neg h4]
theorem gPut_uw (I : MI) (g : Nat) (G : GT) (k : Nat) (x : Int32) (h : k < 5) : upI (gPut I g G) (g + 1) k x = gPut I g (upd G k x) := by
  funext b j
  unfold upI gPut upd
  by_cases h1 : b = g + 1 ∧ j = k
  · have h3 : b = g + 1 ∧ j < 5 := by omega
    rw [if_pos h1, if_pos h3, if_pos h1.2]
  · rw [if_neg h1]
    by_cases h3 : b = g + 1 ∧ j < 5
    · have h5 : ¬ j = k := by omega
      rw [if_pos h3, if_pos h3, if_neg h5]
    · rw [if_neg h3, if_neg h3]
      by_cases h4 : b = g ∧ 1 ≤ j
      · have h5 : ¬ j + 4 = k := by omega
        rw [if_pos h4, if_pos h4, if_neg h5]
      · rw [if_neg h4, if_neg h4]
theorem gPut_put (I : MI) (g : Nat) (G G' : GT) : gPut (gPut I g G) g G' = gPut I g G' := by
  funext b j
  unfold gPut
  by_cases h1 : b = g + 1 ∧ j < 5
  · rw [if_pos h1, if_pos h1]
  · rw [if_neg h1, if_neg h1, if_neg h1]
    by_cases h2 : b = g ∧ 1 ≤ j
    · rw [if_pos h2, if_pos h2]
    · rw [if_neg h2, if_neg h2, if_neg h2]
theorem cl_lit0 : (0 : Int32).toNatClampNeg = 0 := by decide
theorem gs_ne {g b : Nat} (hg : SH g = (14, 5)) {k N : Nat} (hb : SH b = (k, N)) (h1 : k ≠ 14) : b ≠ g := fun e => by
  rw [e, hg] at hb
  exact h1 (Prod.mk.inj hb).1.symm
theorem sh_G1 : ∀ g, g < 146 → SH g = (14, 5) → 60 ≤ g := by decide
theorem gs_ne2 {g b : Nat} (hg : SH g = (14, 5)) (hb : b < 60) : b ≠ g ∧ b ≠ g + 1 := by
  have := sh_G1 g (SH_lt hg (by decide)) hg
  omega
theorem sh_T1 : ∀ g, g < 146 → SH g = (20, 6) → g + 1 < 54 ∧ 12 ≤ g := by decide
theorem ts_lt {t : Nat} (h : SH t = (20, 6)) : t + 1 < 54 ∧ 12 ≤ t := sh_T1 t (SH_lt h (by decide)) h
theorem sh_L1 {b : Nat} (h : SH b = (15, 18)) : b ≤ 28 := by
  rcases sh_L b (SH_lt h (by decide)) h with rfl | rfl <;> decide
def whiteF (snow : Int32) : Int32 := if 10 ≤ snow then 1 else 0
def blockedF (slope snow ice : Int32) : Int32 := if 1000 ≤ slope * (snow + 2 * ice) then 1 else 0
def beginG (w : Nat → Int32) (G : GT) : GT := fun j => if j < 5 then w j else if j < 9 then 0 else G j
def runOffG (held : Int32) (G : GT) : GT := if G 5 - held ≤ 0 then G else upd (upd G 8 (G 8 - G 8 * (G 5 - held) / G 5)) 5 held
def pointF (G : GT) : Int32 := maxJ (-80) (-(10 * G 8 / (G 5 + G 6 + G 7 + 10)))
def meltG (G : GT) : GT :=
  if G 0 ≤ pointF G then upd (upd (upd G 5 (G 5 - minJ (G 5) ((pointF G - G 0) / 2))) 7 (G 7 + minJ (G 5) ((pointF G - G 0) / 2))) 0 (G 0 + 2 * minJ (G 5) ((pointF G - G 0) / 2))
  else upd (upd (upd (upd G 6 (G 6 - minJ (G 6) ((G 0 - pointF G) / 2))) 7 (G 7 - minJ (G 7) ((G 0 - 2 * minJ (G 6) ((G 0 - pointF G) / 2) - pointF G) / 2))) 5 (G 5 + (minJ (G 6) ((G 0 - pointF G) / 2) + minJ (G 7) ((G 0 - 2 * minJ (G 6) ((G 0 - pointF G) / 2) - pointF G) / 2)))) 0 (G 0 - 2 * minJ (G 6) ((G 0 - pointF G) / 2) - 2 * minJ (G 7) ((G 0 - 2 * minJ (G 6) ((G 0 - pointF G) / 2) - pointF G) / 2))
set_option maxRecDepth 100000 in
theorem c_hourOf {b : Nat} (hb : SH b = (15, 18)) (step : Int32) (I : MI) (r : MR) (J : MJ) : Cq yX5_hourOf MX5_hourOf [.ref b, .int step] I r J (Rt (some (.int (hourF step (I b 9)))) I r J) := by
  refine cq_of [some (.ref b), some (.int step)] 0 (by decide +kernel) rfl rfl (Nat.le_of_ble_eq_true rfl) rfl ?_
  refine x_iconst (0) dX5_hourOf_0 rfl (by decide) ?_
  refine x_iload_n dX5_hourOf_1 rfl rfl ?_
  refine x_bipush (6) dX5_hourOf_2 rfl (by decide) ?_
  refine x_idiv dX5_hourOf_4 rfl (by decide) ?_
  refine x_aload_n dX5_hourOf_5 rfl rfl ?_
  refine q_gi (K := 9) dX5_hourOf_6 rfl cl_5 (by decide) tw_198 hb rfl ?_
  refine x_iconst (1) dX5_hourOf_9 rfl (by decide) ?_
  refine x_isub dX5_hourOf_10 rfl ?_
  refine x_min dX5_hourOf_11 rfl tw_777 mm_min_s mm_i mm_min_c (by decide) (Nat.le_of_ble_eq_true rfl) (by decide) (by decide) ?_
  refine x_max dX5_hourOf_14 rfl tw_778 mm_max_s mm_i mm_max_c (by decide) (Nat.le_of_ble_eq_true rfl) (by decide) (by decide) ?_
  refine q_iret dX5_hourOf_17 rfl ?_
  exact ⟨rfl, rfl, rfl, rfl⟩
set_option maxRecDepth 100000 in
theorem c_isWhite {g : Nat} (hg : SH g = (14, 5)) (I : MI) (r : MR) (J : MJ) : Cq yX4_isWhite MX4_isWhite [.ref g] I r J (Rt (some (.int (whiteF (I g 2)))) I r J) := by
  refine cq_of [some (.ref g)] 0 (by decide +kernel) rfl rfl (Nat.le_of_ble_eq_true rfl) rfl ?_
  refine x_aload_n dX4_isWhite_0 rfl rfl ?_
  refine q_gi (K := 2) dX4_isWhite_1 rfl cl_4 (by decide) tw_401 hg rfl ?_
  refine x_bipush (10) dX4_isWhite_4 rfl (by decide) ?_
  refine x_icmp_lt (t := 13) (q := 9) dX4_isWhite_6 (by decide) rfl (fun c6 => ?_) (fun c6 => ?_)
  · refine x_iconst (0) dX4_isWhite_13 rfl (by decide) ?_
    refine q_zret dX4_isWhite_14 rfl (Or.inl rfl) ?_
    refine ⟨?_, rfl, rfl, rfl⟩
    simp [whiteF, *]
  · refine x_iconst (1) dX4_isWhite_9 rfl (by decide) ?_
    refine x_goto (t := 14) dX4_isWhite_10 (by decide) ?_
    refine q_zret dX4_isWhite_14 rfl (Or.inr rfl) ?_
    refine ⟨?_, rfl, rfl, rfl⟩
    simp [whiteF, *]
set_option maxRecDepth 100000 in
theorem c_isBlocked {g t : Nat} (hg : SH g = (14, 5)) (ht : SH t = (20, 6)) (I : MI) (r : MR) (J : MJ) : Cq yX4_isBlocked MX4_isBlocked [.ref g, .ref t] I r J (Rt (some (.int (blockedF (I t 2) (I g 2) (I g 3)))) I r J) := by
  refine cq_of [some (.ref g), some (.ref t)] 0 (by decide +kernel) rfl rfl (Nat.le_of_ble_eq_true rfl) rfl ?_
  refine x_aload_n dX4_isBlocked_0 rfl rfl ?_
  refine q_gi (K := 2) dX4_isBlocked_1 rfl cl_10 (by decide) tw_129 ht rfl ?_
  refine x_aload_n dX4_isBlocked_4 rfl rfl ?_
  refine q_gi (K := 2) dX4_isBlocked_5 rfl cl_4 (by decide) tw_401 hg rfl ?_
  refine x_iconst (2) dX4_isBlocked_8 rfl (by decide) ?_
  refine x_aload_n dX4_isBlocked_9 rfl rfl ?_
  refine q_gi (K := 3) dX4_isBlocked_10 rfl cl_4 (by decide) tw_404 hg rfl ?_
  refine x_imul dX4_isBlocked_13 rfl ?_
  refine x_iadd dX4_isBlocked_14 rfl ?_
  refine x_imul dX4_isBlocked_15 rfl ?_
  refine x_sipush (1000) dX4_isBlocked_16 rfl (by decide) ?_
  refine x_icmp_lt (t := 26) (q := 22) dX4_isBlocked_19 (by decide) rfl (fun c19 => ?_) (fun c19 => ?_)
  · refine x_iconst (0) dX4_isBlocked_26 rfl (by decide) ?_
    refine q_zret dX4_isBlocked_27 rfl (Or.inl rfl) ?_
    refine ⟨?_, rfl, rfl, rfl⟩
    simp [blockedF, *]
  · refine x_iconst (1) dX4_isBlocked_22 rfl (by decide) ?_
    refine x_goto (t := 27) dX4_isBlocked_23 (by decide) ?_
    refine q_zret dX4_isBlocked_27 rfl (Or.inr rfl) ?_
    refine ⟨?_, rfl, rfl, rfl⟩
    simp [blockedF, *]
set_option maxRecDepth 100000 in
theorem c_runOff {g : Nat} (hg : SH g = (14, 5)) (x : Int32) (I : MI) (G : GT) (r : MR) (J : MJ) (h0 : ¬ G 5 - x ≤ 0 → ¬ G 5 = 0) : Cq yX4_runOff MX4_runOff [.ref g, .int x] (gPut I g G) r J (Rt none (gPut I g (runOffG x G)) r J) := by
  refine cq_of [some (.ref g), some (.int x), none] 1 (by decide +kernel) rfl rfl (Nat.le_of_ble_eq_true rfl) rfl ?_
  refine x_aload_n dX4_runOff_0 rfl rfl ?_
  refine q_gi (K := 1) dX4_runOff_1 rfl cl_4 (by decide) tw_399 hg rfl ?_
  refine x_iload_n dX4_runOff_4 rfl rfl ?_
  refine x_isub dX4_runOff_5 rfl ?_
  refine x_nmi (fun v1 ev1 => ?_)
  refine x_istore_n (L2 := [some (.ref g), some (.int x), some (.int v1)]) dX4_runOff_6 rfl (by decide) rfl rfl ?_
  refine x_iload_n dX4_runOff_7 rfl rfl ?_
  refine x_if_le (t := 36) (q := 11) dX4_runOff_8 (by decide) rfl (fun c8 => ?_) (fun c8 => ?_)
  · refine q_vret dX4_runOff_36 rfl ?_
    refine ⟨rfl, ?_, rfl, rfl⟩
    rw [ev1] at c8
    simp only [gPut_f, Nat.le_refl, Nat.reduceLeDiff, Nat.reduceAdd] at c8
    simp only [runOffG, if_pos c8]
  · refine x_aload_n dX4_runOff_11 rfl rfl ?_
    refine x_dup dX4_runOff_12 rfl rfl ?_
    refine q_gi (K := 4) dX4_runOff_13 rfl cl_4 (by decide) tw_406 hg rfl ?_
    refine x_aload_n dX4_runOff_16 rfl rfl ?_
    refine q_gi (K := 4) dX4_runOff_17 rfl cl_4 (by decide) tw_406 hg rfl ?_
    refine x_iload_n dX4_runOff_20 rfl rfl ?_
    refine x_imul dX4_runOff_21 rfl ?_
    refine x_aload_n dX4_runOff_22 rfl rfl ?_
    refine q_gi (K := 1) dX4_runOff_23 rfl cl_4 (by decide) tw_399 hg rfl ?_
    refine x_idiv dX4_runOff_26 rfl (by rw [gPut_f _ _ _ _ (by decide)]; exact h0 (by rw [ev1, gPut_f _ _ _ _ (by decide)] at c8; exact c8)) ?_
    refine x_isub dX4_runOff_27 rfl ?_
    refine q_pi (K := 4) dX4_runOff_28 rfl cl_4 (by decide) tw_406 rfl rfl hg rfl (fun I2 eI2 => ?_)
    refine x_aload_n dX4_runOff_31 rfl rfl ?_
    refine x_iload_n dX4_runOff_32 rfl rfl ?_
    refine q_pi (K := 1) dX4_runOff_33 rfl cl_4 (by decide) tw_399 rfl rfl hg rfl (fun I3 eI3 => ?_)
    refine q_vret dX4_runOff_36 rfl ?_
    refine ⟨rfl, ?_, rfl, rfl⟩
    rw [ev1] at c8
    simp only [gPut_f, Nat.le_refl, Nat.reduceLeDiff, Nat.reduceAdd] at c8
    rw [eI3, eI2, ev1]
    simp only [gPut_f, gPut_w, gPut_uf, gPut_uw, cl_lit0, Nat.le_refl, Nat.reduceLeDiff, Nat.reduceLT, Nat.reduceAdd]
    simp only [runOffG, if_neg c8]
set_option maxRecDepth 100000 in
theorem c_melt {g : Nat} (hg : SH g = (14, 5)) (I : MI) (G : GT) (r : MR) (J : MJ) (h0 : ¬ G 5 + G 6 + G 7 + 10 = 0) : Cq yX4_meltOrFreeze MX4_meltOrFreeze [.ref g] (gPut I g G) r J (Rt none (gPut I g (meltG G)) r J) := by
  refine cq_of [some (.ref g), none, none, none, none] 4 (by decide +kernel) rfl rfl (Nat.le_of_ble_eq_true rfl) rfl ?_
  refine x_bipush (-80) dX4_meltOrFreeze_0 rfl (by decide) ?_
  refine x_bipush (10) dX4_meltOrFreeze_2 rfl (by decide) ?_
  refine x_aload_n dX4_meltOrFreeze_4 rfl rfl ?_
  refine q_gi (K := 4) dX4_meltOrFreeze_5 rfl cl_4 (by decide) tw_406 hg rfl ?_
  refine x_imul dX4_meltOrFreeze_8 rfl ?_
  refine x_aload_n dX4_meltOrFreeze_9 rfl rfl ?_
  refine q_gi (K := 1) dX4_meltOrFreeze_10 rfl cl_4 (by decide) tw_399 hg rfl ?_
  refine x_aload_n dX4_meltOrFreeze_13 rfl rfl ?_
  refine q_gi (K := 2) dX4_meltOrFreeze_14 rfl cl_4 (by decide) tw_401 hg rfl ?_
  refine x_iadd dX4_meltOrFreeze_17 rfl ?_
  refine x_aload_n dX4_meltOrFreeze_18 rfl rfl ?_
  refine q_gi (K := 3) dX4_meltOrFreeze_19 rfl cl_4 (by decide) tw_404 hg rfl ?_
  refine x_iadd dX4_meltOrFreeze_22 rfl ?_
  refine x_bipush (10) dX4_meltOrFreeze_23 rfl (by decide) ?_
  refine x_iadd dX4_meltOrFreeze_25 rfl ?_
  refine x_idiv dX4_meltOrFreeze_26 rfl (by simp only [gPut_f, Nat.le_refl, Nat.reduceLeDiff, Nat.reduceAdd]; exact h0) ?_
  refine x_ineg dX4_meltOrFreeze_27 rfl ?_
  refine x_max dX4_meltOrFreeze_28 rfl tw_791 mm_max_s mm_i mm_max_c (by decide) (Nat.le_of_ble_eq_true rfl) (by decide) (by decide) ?_
  refine x_nmi (fun v1 ev1 => ?_)
  refine x_istore_n (L2 := [some (.ref g), some (.int v1), none, none, none]) dX4_meltOrFreeze_31 rfl (by decide) rfl rfl ?_
  refine x_aload_n dX4_meltOrFreeze_32 rfl rfl ?_
  refine q_gr (K := 0) (b := (g + 1)) dX4_meltOrFreeze_33 rfl cl_4 (by decide) tw_396 hg rfl (gr_w hg _) ?_
  refine x_iconst (0) dX4_meltOrFreeze_36 rfl (by decide) ?_
  refine q_iald dX4_meltOrFreeze_37 rfl (gs_w hg) (vin (by decide)) ?_
  refine x_nmi (fun v2 ev2 => ?_)
  refine x_istore_n (L2 := [some (.ref g), some (.int v1), some (.int v2), none, none]) dX4_meltOrFreeze_38 rfl (by decide) rfl rfl ?_
  refine x_iload_n dX4_meltOrFreeze_39 rfl rfl ?_
  refine x_iload_n dX4_meltOrFreeze_40 rfl rfl ?_
  refine x_icmp_le (t := 121) (q := 44) dX4_meltOrFreeze_41 (by decide) rfl (fun c41 => ?_) (fun c41 => ?_)
  · refine x_aload_n dX4_meltOrFreeze_121 rfl rfl ?_
    refine q_gi (K := 1) dX4_meltOrFreeze_122 rfl cl_4 (by decide) tw_399 hg rfl ?_
    refine x_iload_n dX4_meltOrFreeze_125 rfl rfl ?_
    refine x_iload_n dX4_meltOrFreeze_126 rfl rfl ?_
    refine x_isub dX4_meltOrFreeze_127 rfl ?_
    refine x_iconst (2) dX4_meltOrFreeze_128 rfl (by decide) ?_
    refine x_idiv dX4_meltOrFreeze_129 rfl (by decide) ?_
    refine x_min dX4_meltOrFreeze_130 rfl tw_792 mm_min_s mm_i mm_min_c (by decide) (Nat.le_of_ble_eq_true rfl) (by decide) (by decide) ?_
    refine x_nmi (fun v3 ev3 => ?_)
    refine x_istore_n (L2 := [some (.ref g), some (.int v1), some (.int v2), some (.int v3), none]) dX4_meltOrFreeze_133 rfl (by decide) rfl rfl ?_
    refine x_iload_n dX4_meltOrFreeze_134 rfl rfl ?_
    refine x_iconst (2) dX4_meltOrFreeze_135 rfl (by decide) ?_
    refine x_iload_n dX4_meltOrFreeze_136 rfl rfl ?_
    refine x_imul dX4_meltOrFreeze_137 rfl ?_
    refine x_iadd dX4_meltOrFreeze_138 rfl ?_
    refine x_nmi (fun v4 ev4 => ?_)
    refine x_istore_n (L2 := [some (.ref g), some (.int v1), some (.int v4), some (.int v3), none]) dX4_meltOrFreeze_139 rfl (by decide) rfl rfl ?_
    refine x_aload_n dX4_meltOrFreeze_140 rfl rfl ?_
    refine x_dup dX4_meltOrFreeze_141 rfl rfl ?_
    refine q_gi (K := 1) dX4_meltOrFreeze_142 rfl cl_4 (by decide) tw_399 hg rfl ?_
    refine x_iload_n dX4_meltOrFreeze_145 rfl rfl ?_
    refine x_isub dX4_meltOrFreeze_146 rfl ?_
    refine q_pi (K := 1) dX4_meltOrFreeze_147 rfl cl_4 (by decide) tw_399 rfl rfl hg rfl (fun I5 eI5 => ?_)
    refine x_aload_n dX4_meltOrFreeze_150 rfl rfl ?_
    refine x_dup dX4_meltOrFreeze_151 rfl rfl ?_
    refine q_gi (K := 3) dX4_meltOrFreeze_152 rfl cl_4 (by decide) tw_404 hg rfl ?_
    refine x_iload_n dX4_meltOrFreeze_155 rfl rfl ?_
    refine x_iadd dX4_meltOrFreeze_156 rfl ?_
    refine q_pi (K := 3) dX4_meltOrFreeze_157 rfl cl_4 (by decide) tw_404 rfl rfl hg rfl (fun I6 eI6 => ?_)
    refine x_aload_n dX4_meltOrFreeze_160 rfl rfl ?_
    refine q_gr (K := 0) (b := (g + 1)) dX4_meltOrFreeze_161 rfl cl_4 (by decide) tw_396 hg rfl (gr_w hg _) ?_
    refine x_iconst (0) dX4_meltOrFreeze_164 rfl (by decide) ?_
    refine x_iload_n dX4_meltOrFreeze_165 rfl rfl ?_
    refine q_iast dX4_meltOrFreeze_166 rfl (gs_w hg) (vin (by decide)) (fun I7 eI7 => ?_)
    refine q_vret dX4_meltOrFreeze_167 rfl ?_
    refine ⟨rfl, ?_, rfl, rfl⟩
    subst_vars
    simp only [gPut_f, gPut_w, gPut_uf, gPut_uw, cl_lit0, Nat.le_refl, Nat.reduceLeDiff, Nat.reduceLT, Nat.reduceAdd] at *
    refine congrArg (gPut I g) (Eq.trans ?_ (if_pos (show G 0 ≤ pointF G from c41)).symm)
    rfl
  · refine x_aload_n dX4_meltOrFreeze_44 rfl rfl ?_
    refine q_gi (K := 2) dX4_meltOrFreeze_45 rfl cl_4 (by decide) tw_401 hg rfl ?_
    refine x_iload_n dX4_meltOrFreeze_48 rfl rfl ?_
    refine x_iload_n dX4_meltOrFreeze_49 rfl rfl ?_
    refine x_isub dX4_meltOrFreeze_50 rfl ?_
    refine x_iconst (2) dX4_meltOrFreeze_51 rfl (by decide) ?_
    refine x_idiv dX4_meltOrFreeze_52 rfl (by decide) ?_
    refine x_min dX4_meltOrFreeze_53 rfl tw_792 mm_min_s mm_i mm_min_c (by decide) (Nat.le_of_ble_eq_true rfl) (by decide) (by decide) ?_
    refine x_nmi (fun v8 ev8 => ?_)
    refine x_istore_n (L2 := [some (.ref g), some (.int v1), some (.int v2), some (.int v8), none]) dX4_meltOrFreeze_56 rfl (by decide) rfl rfl ?_
    refine x_iload_n dX4_meltOrFreeze_57 rfl rfl ?_
    refine x_iconst (2) dX4_meltOrFreeze_58 rfl (by decide) ?_
    refine x_iload_n dX4_meltOrFreeze_59 rfl rfl ?_
    refine x_imul dX4_meltOrFreeze_60 rfl ?_
    refine x_isub dX4_meltOrFreeze_61 rfl ?_
    refine x_nmi (fun v9 ev9 => ?_)
    refine x_istore_n (L2 := [some (.ref g), some (.int v1), some (.int v9), some (.int v8), none]) dX4_meltOrFreeze_62 rfl (by decide) rfl rfl ?_
    refine x_aload_n dX4_meltOrFreeze_63 rfl rfl ?_
    refine q_gi (K := 3) dX4_meltOrFreeze_64 rfl cl_4 (by decide) tw_404 hg rfl ?_
    refine x_iload_n dX4_meltOrFreeze_67 rfl rfl ?_
    refine x_iload_n dX4_meltOrFreeze_68 rfl rfl ?_
    refine x_isub dX4_meltOrFreeze_69 rfl ?_
    refine x_iconst (2) dX4_meltOrFreeze_70 rfl (by decide) ?_
    refine x_idiv dX4_meltOrFreeze_71 rfl (by decide) ?_
    refine x_min dX4_meltOrFreeze_72 rfl tw_792 mm_min_s mm_i mm_min_c (by decide) (Nat.le_of_ble_eq_true rfl) (by decide) (by decide) ?_
    refine x_nmi (fun v10 ev10 => ?_)
    refine x_istore (L2 := [some (.ref g), some (.int v1), some (.int v9), some (.int v8), some (.int v10)]) dX4_meltOrFreeze_75 rfl (by decide) rfl rfl ?_
    refine x_iload_n dX4_meltOrFreeze_77 rfl rfl ?_
    refine x_iconst (2) dX4_meltOrFreeze_78 rfl (by decide) ?_
    refine x_iload dX4_meltOrFreeze_79 rfl rfl ?_
    refine x_imul dX4_meltOrFreeze_81 rfl ?_
    refine x_isub dX4_meltOrFreeze_82 rfl ?_
    refine x_nmi (fun v11 ev11 => ?_)
    refine x_istore_n (L2 := [some (.ref g), some (.int v1), some (.int v11), some (.int v8), some (.int v10)]) dX4_meltOrFreeze_83 rfl (by decide) rfl rfl ?_
    refine x_aload_n dX4_meltOrFreeze_84 rfl rfl ?_
    refine x_dup dX4_meltOrFreeze_85 rfl rfl ?_
    refine q_gi (K := 2) dX4_meltOrFreeze_86 rfl cl_4 (by decide) tw_401 hg rfl ?_
    refine x_iload_n dX4_meltOrFreeze_89 rfl rfl ?_
    refine x_isub dX4_meltOrFreeze_90 rfl ?_
    refine q_pi (K := 2) dX4_meltOrFreeze_91 rfl cl_4 (by decide) tw_401 rfl rfl hg rfl (fun I12 eI12 => ?_)
    refine x_aload_n dX4_meltOrFreeze_94 rfl rfl ?_
    refine x_dup dX4_meltOrFreeze_95 rfl rfl ?_
    refine q_gi (K := 3) dX4_meltOrFreeze_96 rfl cl_4 (by decide) tw_404 hg rfl ?_
    refine x_iload dX4_meltOrFreeze_99 rfl rfl ?_
    refine x_isub dX4_meltOrFreeze_101 rfl ?_
    refine q_pi (K := 3) dX4_meltOrFreeze_102 rfl cl_4 (by decide) tw_404 rfl rfl hg rfl (fun I13 eI13 => ?_)
    refine x_aload_n dX4_meltOrFreeze_105 rfl rfl ?_
    refine x_dup dX4_meltOrFreeze_106 rfl rfl ?_
    refine q_gi (K := 1) dX4_meltOrFreeze_107 rfl cl_4 (by decide) tw_399 hg rfl ?_
    refine x_iload_n dX4_meltOrFreeze_110 rfl rfl ?_
    refine x_iload dX4_meltOrFreeze_111 rfl rfl ?_
    refine x_iadd dX4_meltOrFreeze_113 rfl ?_
    refine x_iadd dX4_meltOrFreeze_114 rfl ?_
    refine q_pi (K := 1) dX4_meltOrFreeze_115 rfl cl_4 (by decide) tw_399 rfl rfl hg rfl (fun I14 eI14 => ?_)
    refine x_goto (t := 160) dX4_meltOrFreeze_118 (by decide) ?_
    refine x_aload_n dX4_meltOrFreeze_160 rfl rfl ?_
    refine q_gr (K := 0) (b := (g + 1)) dX4_meltOrFreeze_161 rfl cl_4 (by decide) tw_396 hg rfl (gr_w hg _) ?_
    refine x_iconst (0) dX4_meltOrFreeze_164 rfl (by decide) ?_
    refine x_iload_n dX4_meltOrFreeze_165 rfl rfl ?_
    refine q_iast dX4_meltOrFreeze_166 rfl (gs_w hg) (vin (by decide)) (fun I15 eI15 => ?_)
    refine q_vret dX4_meltOrFreeze_167 rfl ?_
    refine ⟨rfl, ?_, rfl, rfl⟩
    subst_vars
    simp only [gPut_f, gPut_w, gPut_uf, gPut_uw, cl_lit0, Nat.le_refl, Nat.reduceLeDiff, Nat.reduceLT, Nat.reduceAdd] at *
    refine congrArg (gPut I g) (Eq.trans ?_ (if_neg (show ¬ G 0 ≤ pointF G from c41)).symm)
    rfl
