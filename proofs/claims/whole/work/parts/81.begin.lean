def ini (X : MI) (b : Nat) : MI := fun c j => if c < 26 then clr X b (b + c) j else 0
theorem clr_c {X X' : MI} {b c : Nat} (h : X c = X' c) : clr X b c = clr X' b c := by
  funext j
  unfold clr
  simp only [upI, h]
theorem clr_o {X : MI} {b c : Nat} (h : ¬ regL b c) : clr X b c = X c := by
  have e : ∀ k, k < 26 → c ≠ b + k := fun k hk z => h ⟨by omega, by omega⟩
  have e0 : c ≠ b := e 0 (by decide)
  unfold clr
  rw [upc (e 7 (by decide)), upc (e 6 (by decide)), upc (e 5 (by decide)), upc e0, upc e0, upc e0, upc e0, upc e0, upc e0, upc e0, upc e0, upc e0]
theorem ini_n {X : MI} {b : Nat} : ini X b 0 1 = 0 ∧ ini X b 0 5 = 0 ∧ ini X b 0 9 = 0 ∧ ini X b 0 12 = 0 ∧ ini X b 0 13 = 0 ∧ ini X b 0 14 = 0 ∧ ini X b 0 15 = -1 ∧ ini X b 0 16 = 999 ∧ ini X b 0 17 = 0 ∧ ini X b 5 0 = 0 ∧ ini X b 6 0 = 0 ∧ ini X b 7 0 = 0 := by
  unfold ini clr
  refine ⟨?_, ?_, ?_, ?_, ?_, ?_, ?_, ?_, ?_, ?_, ?_, ?_⟩ <;> simp [upI]
theorem ini_CD {T : Nat → Nat} {n : Nat} {X Y : MI} {J : MJ} {b : Nat} (h : ∀ c, c < 26 → Y (b + c) = clr X b (b + c)) : CD T n (ini X b) b 0 0 0 0 Y J := by
  have q := ini_n (X := X) (b := b)
  refine ⟨fun c hc => ?_, fun y hy => absurd hy (by omega), q.1, q.2.1, q.2.2.1, q.2.2.2.1, by omega, by omega, by omega, by omega, 0, by omega, q.2.2.2.2.2.2.2.2.1⟩
  funext j
  rw [h c hc]
  exact (if_pos hc).symm
set_option maxRecDepth 100000 in
theorem c_parse {T : Nat → Nat} {n : Nat} {X : MI} (hT : TX T n X) (r : MR) {J : MJ} (hJ : RelJ J) {b : Nat} (hb : SH b = (15, 18)) (hrg : 2 ≤ b ∧ b + 26 ≤ 54) : Cq yX8_parse MX8_parse [.ref 54, .ref 1, .int (nI n), .ref b] X r J (fun v Y r' K => v = some (.int (prV (pF T n (n + 1) (0, 0, 0) (ini X b)))) ∧ prF T n b (pF T n (n + 1) (0, 0, 0) (ini X b)) X J Y K ∧ r' = upR (upR r 2 b) 4 1) := by
  refine cq_of [some (.ref 54), some (.ref 1), some (.int (nI n)), some (.ref b), none] 1 (by decide +kernel) rfl rfl (Nat.le_of_ble_eq_true rfl) rfl ?_
  refine x_aload_n (q := 1) dX8_parse_0 rfl rfl ?_
  refine x_iconst (0) (q := 2) dX8_parse_1 rfl (by decide) ?_
  refine q_pi (K := 2) (q := 5) dX8_parse_2 rfl cl_8 (by decide) tw_367 rfl rfl rfl rfl (fun I1 eI1 => ?_)
  refine x_aload_n (q := 6) dX8_parse_5 rfl rfl ?_
  refine x_iconst (-1) (q := 7) dX8_parse_6 rfl (by decide) ?_
  refine q_pi (K := 3) (q := 10) dX8_parse_7 rfl cl_8 (by decide) tw_369 rfl rfl rfl rfl (fun I2 eI2 => ?_)
  refine x_aload_n (q := 11) dX8_parse_10 rfl rfl ?_
  refine x_aload_n (q := 12) dX8_parse_11 rfl rfl ?_
  refine q_pr (K := 1) 2 (q := 15) dX8_parse_12 rfl cl_8 (by decide) tw_366 rfl ⟨rfl, rfl⟩ rfl rfl (RR_up2 _ _) (fun r3 er3 => ?_)
  have h2 : r3 2 = b := by rw [er3]; rfl
  have e2 : ∀ c, c ≠ 54 → I2 c = X c := fun c e => by rw [eI2, upc e, eI1, upc e]
  have hT2 : TX T n (clr I2 b) := ⟨hT.1, fun j hj => by rw [clr_o (fun z => by have := z.1; omega), e2 1 (by decide)]; exact hT.2 j hj⟩
  refine x_aload_n (q := 16) dX8_parse_15 rfl rfl ?_
  refine q_gr (K := 1) (b := b) (q := 19) dX8_parse_16 rfl cl_8 (by decide) tw_366 rfl rfl (congrArg some h2) ?_
  refine q_callV (ci := 5) (N := 18) (T := TX5) (As := []) (rest := []) (q := 22) dX8_parse_19 rfl okX5_clear tw_631 hb rfl (c_clr hb I2 r3 J) rfl rfl (Nat.le_of_ble_eq_true rfl) ⟨by decide, by decide⟩ ⟨rfl, rfl⟩ (fun rv_ I_ r_ J_ hv_ => ?_)
  obtain ⟨a1_, a2_, a3_, a4_⟩ := hv_
  rw [a1_, a2_, a3_, a4_]
  show Wq MX8_parse 22 [some (.ref 54), some (.ref 1), some (.int (nI n)), some (.ref b), none] [] (clr I2 b) r3 J _
  refine x_aload_n (q := 23) dX8_parse_22 rfl rfl ?_
  refine q_gr (K := 0) (b := 55) (q := 26) dX8_parse_23 rfl cl_8 (by decide) tw_365 rfl rfl rfl ?_
  refine x_aload_n (q := 27) dX8_parse_26 rfl rfl ?_
  refine x_iload_n (q := 28) dX8_parse_27 rfl rfl ?_
  refine q_callV (ci := 6) (N := 9) (T := TX6) (As := [.ref 1, .int (nI n)]) (rest := []) (q := 31) dX8_parse_28 rfl okX6_begin tw_632 rfl rfl (c_beg hT2 r3 hJ) rfl rfl (Nat.le_of_ble_eq_true rfl) ⟨by decide, by decide⟩ ⟨rfl, rfl⟩ (fun rv_ Y r_ K hv_ => ?_)
  obtain ⟨a1_, a3_, hB1, hB2, hB3⟩ := hv_
  rw [a1_, a3_]
  show Wq MX8_parse 31 [some (.ref 54), some (.ref 1), some (.int (nI n)), some (.ref b), none] [] Y (upR r3 4 1) K _
  refine x_iconst (0) (q := 32) dX8_parse_31 rfl (by decide) ?_
  refine x_istore (L2 := [some (.ref 54), some (.ref 1), some (.int (nI n)), some (.ref b), some (.int 0)]) (q := 34) dX8_parse_32 rfl (by decide) rfl rfl ?_
  have hrr : (upR r3 4 1) = upR (upR r 2 b) 4 1 := by rw [er3]
  have c54 : Y 54 = I2 54 := by rw [hB1 54 (by decide), clr_o (fun z => by have := z.2; omega)]
  refine wq_mono (fun v Z r' K' hv => ?_) (l_par (T := T) (n := n) (X0 := X) (J0 := J) (b := b) (r := (upR r3 4 1)) rfl (by rw [hrr]; rfl) hb hrg (n + 1) 0 (0, 0, 0) (ini X b) Y K (by omega) ?_ ?_ (fun _ => ⟨0, 0, 0, 0, ini_CD (fun c hc => ?_)⟩) (fun _ => Nat.le_refl _))
  · exact ⟨hv.1, hv.2.1, by rw [hv.2.2, hrr]⟩
  · refine ⟨⟨hT.1, fun j hj => by rw [hB1 1 (by decide)]; exact hT2.2 j hj⟩, fun k hk => by rw [hB2 56 k (by decide)]; exact hJ k hk, ?_, ?_, Nat.zero_le _, Nat.zero_le _, hB3⟩
    · rw [c54, eI2, ups (by decide), eI1, upq]; rfl
    · rw [c54, eI2, upq]; rfl
  · exact ⟨fun c e1 e3 e4 => by rw [hB1 c e3, clr_o e4, e2 c e1], fun c k e _ => hB2 c k e⟩
  · rw [hB1 (b + c) (by omega)]; exact clr_c (e2 (b + c) (by omega))
def dbF (X : MI) (b n : Nat) (Y : MI) : Prop := (∀ c, ¬ c = 58 → ¬ (60 ≤ c ∧ c < 76) → Y c = X c) ∧ Y 58 2 = 0 ∧ Y 58 3 = 0 ∧ Y 58 4 = X b 16 ∧ ∀ y, y < n → (∀ j, j < 5 → gGet Y (60 + 2 * y) j = X (b + 11 + 2 * y) j) ∧ ∀ j, 5 ≤ j → j < 9 → gGet Y (60 + 2 * y) j = 0
theorem bgG_w {W : Nat → Int32} {G : GT} {j : Nat} (h : j < 5) : beginG W G j = W j := by
  unfold beginG
  have : j = 0 ∨ j = 1 ∨ j = 2 ∨ j = 3 ∨ j = 4 := by omega
  rcases this with rfl | rfl | rfl | rfl | rfl <;> rfl
theorem bgG_f {W : Nat → Int32} {G : GT} {j : Nat} (h1 : 5 ≤ j) (h2 : j < 9) : beginG W G j = 0 := by
  unfold beginG
  have : j = 5 ∨ j = 6 ∨ j = 7 ∨ j = 8 := by omega
  rcases this with rfl | rfl | rfl | rfl <;> rfl
set_option maxRecDepth 100000 in
theorem l_dbg {b yn : Nat} (hb : SH b = (15, 18)) (hrg : 2 ≤ b ∧ b + 26 ≤ 54) (h8 : yn ≤ 8) {X : MI} (ey : X b 1 = nI yn) (r : MR) (J : MJ) : ∀ (f : Nat) (y : Nat) (Y : MI) (_ : y + f = yn) (_ : dbF X b y Y), Wq MX1_begin 25 [some (.ref 58), some (.ref b), some (.int (nI y))] [] Y r J (fun v Z r' K => v = none ∧ dbF X b yn Z ∧ r' = r ∧ K = J) := by
  intro f
  induction f with
  | zero =>
    intro y Y hyk hY
    have eyY : Y b 1 = nI yn := by rw [hY.1 b (by omega) (by omega)]; exact ey
    refine x_iload_n (q := 26) dX1_begin_25 rfl rfl ?_
    refine x_aload_n (q := 27) dX1_begin_26 rfl rfl ?_
    refine q_gi (K := 1) (q := 30) dX1_begin_27 rfl cl_5 (by decide) tw_166 hb rfl ?_
    refine x_icmp_ge (t := 54) (q := 33) dX1_begin_30 (by decide) rfl (fun c30 => ?_) (fun c30 => absurd c30 (fun q => q (by rw [eyY]; exact nI_le (by omega) (by omega))))
    refine q_vret dX1_begin_54 rfl ?_
    rw [show y = yn by omega] at hY
    exact ⟨rfl, hY, rfl, rfl⟩
  | succ f ih =>
    intro y Y hyk hY
    have eyY : Y b 1 = nI yn := by rw [hY.1 b (by omega) (by omega)]; exact ey
    refine x_iload_n (q := 26) dX1_begin_25 rfl rfl ?_
    refine x_aload_n (q := 27) dX1_begin_26 rfl rfl ?_
    refine q_gi (K := 1) (q := 30) dX1_begin_27 rfl cl_5 (by decide) tw_166 hb rfl ?_
    refine x_icmp_ge (t := 54) (q := 33) dX1_begin_30 (by decide) rfl (fun c30 => absurd c30 (by rw [eyY]; exact nI_ge (by omega) (by omega))) (fun c30 => ?_)
    refine x_aload_n (q := 34) dX1_begin_33 rfl rfl ?_
    refine q_gr (K := 1) (b := 59) (q := 37) dX1_begin_34 rfl cl_1 (by decide) tw_426 rfl rfl rfl ?_
    refine x_iload_n (q := 38) dX1_begin_37 rfl rfl ?_
    refine q_aald5 (b := (60 + 2 * y)) (q := 39) dX1_begin_38 rfl rfl (vp_in_nI (by omega) (by decide)) (by rw [nI_clamp (by omega)]; exact (gy_w (by omega) _).1) ?_
    refine x_aload_n (q := 40) dX1_begin_39 rfl rfl ?_
    refine q_gr (K := 0) (b := (b + 1)) (q := 43) dX1_begin_40 rfl cl_5 (by decide) tw_159 hb rfl (lr_w hb _).1 ?_
    refine x_iload_n (q := 44) dX1_begin_43 rfl rfl ?_
    refine q_aald4 (b := (b + 10 + 2 * y)) (q := 45) dX1_begin_44 rfl (ls_w hb).1 (vp_in_nI (by omega) (by decide)) (by rw [nI_clamp (by omega)]; exact (ly_w hb (by omega) _).1) ?_
    refine q_callV (ci := 4) (N := 5) (T := TX4) (As := [.ref (b + 10 + 2 * y)]) (rest := []) (q := 48) dX1_begin_45 rfl okX4_begin tw_742 (gy_w (show y < 8 by omega) r).2 rfl (by have q := c_begin (gy_w (show y < 8 by omega) r).2 (ly_w hb (show y < 8 by omega) r).2 Y (gGet Y (60 + 2 * y)) r J; rw [gPut_get] at q; exact q) rfl rfl (Nat.le_of_ble_eq_true rfl) ⟨by decide, by decide⟩ ⟨rfl, rfl⟩ (fun rv_ I_ r_ J_ hv_ => ?_)
    obtain ⟨a1_, a2_, a3_, a4_⟩ := hv_
    rw [a1_, a2_, a3_, a4_]
    show Wq MX1_begin 48 [some (.ref 58), some (.ref b), some (.int (nI y))] [] (gPut Y (60 + 2 * y) (beginG (Y (b + 10 + 2 * y + 1)) (gGet Y (60 + 2 * y)))) r J _
    obtain ⟨v1, ev1⟩ : ∃ y_ : Int32, y_ = (nI y) + 1 := ⟨_, rfl⟩
    refine x_iinc (v := v1) (L2 := [some (.ref 58), some (.ref b), some (.int v1)]) (q := 51) dX1_begin_48 rfl (by decide) rfl rfl (by rw [ev1]; rfl) rfl ?_
    refine x_goto (t := 25) dX1_begin_51 (by decide) ?_
    rw [show v1 = nI (y + 1) by rw [ev1, nI_p1]]
    refine ih (y + 1) _ (by omega) ⟨fun c e1 e2 => ?_, ?_, ?_, ?_, fun z hz => ?_⟩
    · funext j; rw [gPut_o _ _ _ _ _ (by omega) (by omega), hY.1 c e1 e2]
    · rw [gPut_o _ _ _ _ _ (by omega) (by omega)]; exact hY.2.1
    · rw [gPut_o _ _ _ _ _ (by omega) (by omega)]; exact hY.2.2.1
    · rw [gPut_o _ _ _ _ _ (by omega) (by omega)]; exact hY.2.2.2.1
    · by_cases e : z = y
      · rw [e, gGet_put]
        refine ⟨fun j hj => ?_, fun j h1 h2 => ?_⟩
        · rw [show beginG (Y (b + 10 + 2 * y + 1)) (gGet Y (60 + 2 * y)) j = Y (b + 10 + 2 * y + 1) j from bgG_w hj, show b + 10 + 2 * y + 1 = b + 11 + 2 * y by omega, hY.1 (b + 11 + 2 * y) (by omega) (by omega)]
        · exact bgG_f h1 h2
      · have q := hY.2.2.2.2 z (by omega)
        have eg : ∀ j, gGet (gPut Y (60 + 2 * y) (beginG (Y (b + 10 + 2 * y + 1)) (gGet Y (60 + 2 * y)))) (60 + 2 * z) j = gGet Y (60 + 2 * z) j := fun j => by
          unfold gGet
          by_cases e5 : j < 5
          · rw [if_pos e5, if_pos e5, gPut_o _ _ _ _ _ (by omega) (by omega)]
          · rw [if_neg e5, if_neg e5, gPut_o _ _ _ _ _ (by omega) (by omega)]
        exact ⟨fun j hj => by rw [eg]; exact q.1 j hj, fun j h1 h2 => by rw [eg]; exact q.2 j h1 h2⟩
set_option maxRecDepth 100000 in
theorem c_dbeg {b yn : Nat} (hb : SH b = (15, 18)) (hrg : 2 ≤ b ∧ b + 26 ≤ 54) (h8 : yn ≤ 8) {X : MI} (ey : X b 1 = nI yn) (r : MR) (J : MJ) : Cq yX1_begin MX1_begin [.ref 58, .ref b] X r J (fun v Z r' K => v = none ∧ dbF X b yn Z ∧ r' = upR r 3 b ∧ K = J) := by
  refine cq_of [some (.ref 58), some (.ref b), none] 1 (by decide +kernel) rfl rfl (Nat.le_of_ble_eq_true rfl) rfl ?_
  refine x_aload_n (q := 1) dX1_begin_0 rfl rfl ?_
  refine x_aload_n (q := 2) dX1_begin_1 rfl rfl ?_
  refine q_pr (K := 0) 3 (q := 5) dX1_begin_2 rfl cl_1 (by decide) tw_421 rfl ⟨rfl, rfl⟩ rfl rfl (RR_up3 _ _) (fun r1 er1 => ?_)
  refine x_aload_n (q := 6) dX1_begin_5 rfl rfl ?_
  refine x_iconst (0) (q := 7) dX1_begin_6 rfl (by decide) ?_
  refine q_pi (K := 2) (q := 10) dX1_begin_7 rfl cl_1 (by decide) tw_429 rfl rfl rfl rfl (fun I2 eI2 => ?_)
  refine x_aload_n (q := 11) dX1_begin_10 rfl rfl ?_
  refine x_iconst (0) (q := 12) dX1_begin_11 rfl (by decide) ?_
  refine q_pi (K := 3) (q := 15) dX1_begin_12 rfl cl_1 (by decide) tw_432 rfl rfl rfl rfl (fun I3 eI3 => ?_)
  refine x_aload_n (q := 16) dX1_begin_15 rfl rfl ?_
  refine x_aload_n (q := 17) dX1_begin_16 rfl rfl ?_
  refine q_gi (K := 16) (q := 20) dX1_begin_17 rfl cl_5 (by decide) tw_225 hb rfl ?_
  refine q_pi (K := 4) (q := 23) dX1_begin_20 rfl cl_1 (by decide) tw_434 rfl rfl rfl rfl (fun I4 eI4 => ?_)
  refine x_iconst (0) (q := 24) dX1_begin_23 rfl (by decide) ?_
  refine x_istore_n (L2 := [some (.ref 58), some (.ref b), some (.int 0)]) (q := 25) dX1_begin_24 rfl (by decide) rfl rfl ?_
  refine wq_mono (fun v Z r' K hv => ?_) (l_dbg hb hrg h8 ey r1 J yn 0 I4 (by omega) ⟨fun c e1 e2 => ?_, ?_, ?_, ?_, fun y hy => absurd hy (by omega)⟩)
  · exact ⟨hv.1, hv.2.1, by rw [hv.2.2.1, er1], hv.2.2.2⟩
  · rw [eI4, upc e1, eI3, upc e1, eI2, upc e1]
  · rw [eI4, ups (by decide), eI3, ups (by decide), eI2, upq]
  · rw [eI4, ups (by decide), eI3, upq]
  · rw [eI4, upq, eI3, upc (by omega), eI2, upc (by omega)]
set_option maxRecDepth 100000 in
theorem c_gclr (X : MI) (r : MR) (J : MJ) : Cq yX2_clear MX2_clear [.ref 88] X r J (Rt none (upI X 88 3 0) r J) := by
  refine cq_of [some (.ref 88)] 0 (by decide +kernel) rfl rfl (Nat.le_of_ble_eq_true rfl) rfl ?_
  refine x_aload_n (q := 1) dX2_clear_0 rfl rfl ?_
  refine x_iconst (0) (q := 2) dX2_clear_1 rfl (by decide) ?_
  refine q_pi (K := 3) (q := 5) dX2_clear_2 rfl cl_2 (by decide) tw_536 rfl rfl rfl rfl (fun I1 eI1 => ?_)
  refine q_vret dX2_clear_5 rfl ?_
  exact ⟨rfl, by rw [eI1], rfl, rfl⟩
