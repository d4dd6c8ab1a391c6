theorem CA_g {A : MI} {b c q j : Nat} {x : Int32} {X : MI} (h : CA A b X) (e : q = b + c) (hc : c < 26) : CA (upI A c j x) b (upI X q j x) := by
  subst e; exact CA_u h hc
def lyT (T : Nat → Nat) (n : Nat) (s : Nat × Nat × Nat) : Nat → Nat × Nat × Nat
  | 0 => s
  | k + 1 => tvaT T n 200 (lyT T n s k)
def laK (T : Nat → Nat) (n : Nat) (s : Nat × Nat × Nat) : Nat → Nat → Nat
  | 0, k => k
  | f + 1, k => if (lyT T n s k).1 = 0 ∧ (kd T n (lyT T n s k).2.2 = 3 ∨ kd T n (lyT T n s k).2.2 = 5) then laK T n s f (k + 1) else k
def lyA (T : Nat → Nat) (n : Nat) (s : Nat × Nat × Nat) (A : MI) (c : Nat) : Nat → MI
  | 0 => A
  | k + 1 => upI (upI (lyA T n s A c k) (c + 1) k (tvV_ T n (lyT T n s k))) c 4 (nI (k + 1))
theorem lyA_4 {T : Nat → Nat} {n : Nat} {s : Nat × Nat × Nat} {A : MI} {c k : Nat} : lyA T n s A c (k + 1) c 4 = nI (k + 1) := by
  show upI _ c 4 _ c 4 = _
  rw [upq]
theorem PS_g {T : Nat → Nat} {n : Nat} {s : Nat × Nat × Nat} {X : MI} {J : MJ} {q j : Nat} {x : Int32} (h : PS T n s X J) (h1 : q ≠ 1) (h2 : q ≠ 54) (h3 : q ≠ 55) : PS T n s (upI X q j x) J := by
  obtain ⟨g1, g2, g3, g4, g5, g6, g7⟩ := h
  exact ⟨⟨g1.1, fun i hi => by rw [upc (Ne.symm h1)]; exact g1.2 i hi⟩, g2, by rw [upc (Ne.symm h2)]; exact g3, by rw [upc (Ne.symm h2)]; exact g4, g5, g6, LxQ_54 g7 (upc (Ne.symm h3))⟩
theorem FD_g {b q j : Nat} {X : MI} {J : MJ} {x : Int32} (h : regL b q) : FD b X J (upI X q j x) J := ⟨fun c _ _ e => upc (fun z => e (by rw [z]; exact h)), fun _ _ _ _ => rfl⟩
set_option maxRecDepth 100000 in
theorem l_ply {T : Nat → Nat} {n : Nat} {r : MR} (h4 : r 4 = 1) {b : Nat} (hrg : 2 ≤ b ∧ b + 26 ≤ 54) {g c : Nat} (hg : SH g = (20, 6)) (hgb : g = b + c) (hc : 10 ≤ c ∧ c < 25) {X : MI} {J : MJ} {s : Nat × Nat × Nat} {A : MI} : ∀ (f : Nat) (k : Nat) (Y : MI) (K : MJ) (_ : k + f = 5) (_ : 1 ≤ k) (_ : PS T n (lyT T n s k) Y K) (_ : FD b X J Y K) (_ : JL J K) (_ : (lyT T n s k).1 = 0 → CA (lyA T n s A c k) b Y) (_ : laK T n s f k = laK T n s 4 1), Wq MX8_parseLayers 23 [some (.ref 54), some (.ref g), some (.int (nI k))] [] Y r K (Rq none (fun Y K => PS T n (lyT T n s (laK T n s 4 1)) Y K ∧ FD b X J Y K ∧ JL J K ∧ ((lyT T n s (laK T n s 4 1)).1 = 0 → CA (lyA T n s A c (laK T n s 4 1)) b Y)) r) := by
  intro f
  induction f with
  | zero =>
    intro k Y K hkf hk1 hP hF hJL hC hk4
    refine x_iload_n (q := 24) dX8_parseLayers_23 rfl rfl ?_
    refine x_iconst (5) (q := 25) dX8_parseLayers_24 rfl (by decide) ?_
    refine x_icmp_ge (t := 67) (q := 28) dX8_parseLayers_25 (by decide) rfl (fun c25 => ?_) (fun c25 => absurd c25 (fun z => z (nI_le (a := 5) (by omega) (by omega))))
    refine q_vret dX8_parseLayers_67 rfl ?_
    have hla : k = laK T n s 4 1 := by rw [← hk4]; rfl
    refine ⟨rfl, ⟨?_, hF, hJL, fun z => ?_⟩, rfl⟩
    · rw [← hla]; exact hP
    · rw [← hla] at z ⊢; exact hC z
  | succ f ih =>
    intro k Y K hkf hk1 hP hF hJL hC hk4
    by_cases hiv : (lyT T n s k).1 = 0 ∧ (kd T n (lyT T n s k).2.2 = 3 ∨ kd T n (lyT T n s k).2.2 = 5)
    · refine x_iload_n (q := 24) dX8_parseLayers_23 rfl rfl ?_
      refine x_iconst (5) (q := 25) dX8_parseLayers_24 rfl (by decide) ?_
      refine x_icmp_ge (t := 67) (q := 28) dX8_parseLayers_25 (by decide) rfl (fun c25 => absurd c25 (nI_ge (b := 5) (by omega) (by decide))) (fun c25 => ?_)
      refine x_aload_n (q := 29) dX8_parseLayers_28 rfl rfl ?_
      refine q_callV (ci := 8) (N := 5) (T := TX8) (As := []) (rest := []) (q := 32) dX8_parseLayers_29 rfl okX8_isValueNext tw_702 rfl rfl (c_ivn_g h4 hP hiv) rfl rfl (Nat.le_of_ble_eq_true rfl) ⟨by decide, by decide⟩ ⟨rfl, rfl⟩ (fun rv_ I_ r_ J_ hv_ => ?_)
      obtain ⟨a1_, a2_, a3_, a4_⟩ := hv_
      rw [a1_, a2_, a3_, a4_]
      show Wq MX8_parseLayers 32 [some (.ref 54), some (.ref g), some (.int (nI k))] [.int 1] Y r K _
      refine x_if_eq (t := 67) (q := 35) dX8_parseLayers_32 (by decide) rfl (fun c32 => absurd c32 ((by decide))) (fun c32 => ?_)
      refine x_aload_n (q := 36) dX8_parseLayers_35 rfl rfl ?_
      refine q_gr (K := 5) (b := (g + 1)) (q := 39) dX8_parseLayers_36 rfl cl_10 (by decide) tw_138 hg rfl (tr_w hg _) ?_
      refine x_iload_n (q := 40) dX8_parseLayers_39 rfl rfl ?_
      refine x_aload_n (q := 41) dX8_parseLayers_40 rfl rfl ?_
      refine x_sipush (-200) (q := 44) dX8_parseLayers_41 rfl (by decide) ?_
      refine x_sipush (200) (q := 47) dX8_parseLayers_44 rfl (by decide) ?_
      refine q_callV (ci := 8) (N := 5) (T := TX8) (As := [.int (-200), .int 200]) (rest := [.int (nI k), .ref (g + 1)]) (q := 50) dX8_parseLayers_47 rfl okX8_takeValue tw_698 rfl rfl (c_tva h4 hP (m := 200) (by decide)) rfl rfl (Nat.le_of_ble_eq_true rfl) ⟨by decide, by decide⟩ ⟨rfl, rfl⟩ (fun rv_ V r_ W hv_ => ?_)
      obtain ⟨x, a1_, hx, hV, hVF, hvp, a3_⟩ := hv_
      rw [a1_, a3_]
      show Wq MX8_parseLayers 50 [some (.ref 54), some (.ref g), some (.int (nI k))] [.int x, .int (nI k), .ref (g + 1)] V r W _
      refine q_iast (q := 51) dX8_parseLayers_50 rfl (ts_w hg) (vp_in_nI (by omega) (by decide)) (fun I1 eI1 => ?_)
      refine x_aload_n (q := 52) dX8_parseLayers_51 rfl rfl ?_
      refine x_dup (q := 53) dX8_parseLayers_52 rfl rfl ?_
      refine q_gi (K := 4) (q := 56) dX8_parseLayers_53 rfl cl_10 (by decide) tw_132 hg rfl ?_
      refine x_iconst (1) (q := 57) dX8_parseLayers_56 rfl (by decide) ?_
      refine x_iadd (q := 58) dX8_parseLayers_57 rfl ?_
      refine q_pi (K := 4) (q := 61) dX8_parseLayers_58 rfl cl_10 (by decide) tw_132 rfl rfl hg rfl (fun I2 eI2 => ?_)
      obtain ⟨v3, ev3⟩ : ∃ y_ : Int32, y_ = (nI k) + 1 := ⟨_, rfl⟩
      refine x_iinc (v := v3) (L2 := [some (.ref 54), some (.ref g), some (.int v3)]) (q := 64) dX8_parseLayers_61 rfl (by decide) rfl rfl (by rw [ev3]; rfl) rfl ?_
      refine x_goto (t := 23) dX8_parseLayers_64 (by decide) ?_
      rw [show v3 = nI (k + 1) by rw [ev3, nI_p1]]
      rw [nI_clamp (by omega)] at eI1
      refine ih (k + 1) _ _ (by omega) (by omega) ?_ ?_ ?_ (fun z => ?_) ?_
      · rw [eI2, eI1]; exact PS_g (PS_g hV (by omega) (by omega) (by omega)) (by omega) (by omega) (by omega)
      · rw [eI2, eI1]; exact (hF.tr (FW.d hVF)).tr ((FD_g ⟨by omega, by omega⟩).tr (FD_g ⟨by omega, by omega⟩))
      · exact fun c q e => (hVF.2 c q e).trans (hJL c q e)
      · have z0 := (tvaT_0 z).1
        have hc1 : CA (lyA T n s A c k) b V := CA_f (hC z0) hVF hrg
        have hc2 : CA (upI (lyA T n s A c k) (c + 1) k (tvV_ T n (lyT T n s k))) b I1 := by
          rw [eI1, hx z]; exact CA_g hc1 (by omega) (by omega)
        have e4 : I1 g 4 + 1 = nI (k + 1) := by
          rw [hgb, hc2 c (by omega), upc (by omega)]
          obtain ⟨k, rfl⟩ : ∃ q, k = q + 1 := ⟨k - 1, by omega⟩
          rw [lyA_4, nI_p1]
        rw [eI2, e4]; exact CA_g hc2 hgb (by omega)
      · rw [← hk4]; exact (if_pos hiv).symm
    · refine x_iload_n (q := 24) dX8_parseLayers_23 rfl rfl ?_
      refine x_iconst (5) (q := 25) dX8_parseLayers_24 rfl (by decide) ?_
      refine x_icmp_ge (t := 67) (q := 28) dX8_parseLayers_25 (by decide) rfl (fun c25 => absurd c25 (nI_ge (b := 5) (by omega) (by decide))) (fun c25 => ?_)
      refine x_aload_n (q := 29) dX8_parseLayers_28 rfl rfl ?_
      refine q_callV (ci := 8) (N := 5) (T := TX8) (As := []) (rest := []) (q := 32) dX8_parseLayers_29 rfl okX8_isValueNext tw_702 rfl rfl (c_ivn_b h4 hP hiv) rfl rfl (Nat.le_of_ble_eq_true rfl) ⟨by decide, by decide⟩ ⟨rfl, rfl⟩ (fun rv_ I_ r_ J_ hv_ => ?_)
      obtain ⟨a1_, a2_, a3_, a4_⟩ := hv_
      rw [a1_, a2_, a3_, a4_]
      show Wq MX8_parseLayers 32 [some (.ref 54), some (.ref g), some (.int (nI k))] [.int 0] Y r K _
      refine x_if_eq (t := 67) (q := 35) dX8_parseLayers_32 (by decide) rfl (fun c32 => ?_) (fun c32 => absurd c32 ((by decide)))
      refine q_vret dX8_parseLayers_67 rfl ?_
      have hla : k = laK T n s 4 1 := by rw [← hk4]; exact (if_neg hiv).symm
      refine ⟨rfl, ⟨?_, hF, hJL, fun z => ?_⟩, rfl⟩
      · rw [← hla]; exact hP
      · rw [← hla] at z ⊢; exact hC z
set_option maxRecDepth 100000 in
theorem c_ply {T : Nat → Nat} {n : Nat} {r : MR} (h4 : r 4 = 1) {b : Nat} (hrg : 2 ≤ b ∧ b + 26 ≤ 54) {g c : Nat} (hg : SH g = (20, 6)) (hgb : g = b + c) (hc : 10 ≤ c ∧ c < 25) {X : MI} {J : MJ} {s : Nat × Nat × Nat} {A : MI} (hP : PS T n s X J) (hA : CA A b X) : Cq yX8_parseLayers MX8_parseLayers [.ref 54, .ref g] X r J (Rq none (fun Y K => PS T n (lyT T n s (laK T n s 4 1)) Y K ∧ FD b X J Y K ∧ JL J K ∧ ((lyT T n s (laK T n s 4 1)).1 = 0 → CA (lyA T n s A c (laK T n s 4 1)) b Y)) r) := by
  refine cq_of [some (.ref 54), some (.ref g), none] 1 (by decide +kernel) rfl rfl (Nat.le_of_ble_eq_true rfl) rfl ?_
  refine x_aload_n (q := 1) dX8_parseLayers_0 rfl rfl ?_
  refine q_gr (K := 5) (b := (g + 1)) (q := 4) dX8_parseLayers_1 rfl cl_10 (by decide) tw_138 hg rfl (tr_w hg _) ?_
  refine x_iconst (0) (q := 5) dX8_parseLayers_4 rfl (by decide) ?_
  refine x_aload_n (q := 6) dX8_parseLayers_5 rfl rfl ?_
  refine x_sipush (-200) (q := 9) dX8_parseLayers_6 rfl (by decide) ?_
  refine x_sipush (200) (q := 12) dX8_parseLayers_9 rfl (by decide) ?_
  refine q_callV (ci := 8) (N := 5) (T := TX8) (As := [.int (-200), .int 200]) (rest := [.int 0, .ref (g + 1)]) (q := 15) dX8_parseLayers_12 rfl okX8_takeValue tw_698 rfl rfl (c_tva h4 hP (m := 200) (by decide)) rfl rfl (Nat.le_of_ble_eq_true rfl) ⟨by decide, by decide⟩ ⟨rfl, rfl⟩ (fun rv_ V r_ W hv_ => ?_)
  obtain ⟨x, a1_, hx, hV, hVF, hvp, a3_⟩ := hv_
  rw [a1_, a3_]
  show Wq MX8_parseLayers 15 [some (.ref 54), some (.ref g), none] [.int x, .int 0, .ref (g + 1)] V r W _
  refine q_iast (q := 16) dX8_parseLayers_15 rfl (ts_w hg) (vin (by decide)) (fun I1 eI1 => ?_)
  refine x_aload_n (q := 17) dX8_parseLayers_16 rfl rfl ?_
  refine x_iconst (1) (q := 18) dX8_parseLayers_17 rfl (by decide) ?_
  refine q_pi (K := 4) (q := 21) dX8_parseLayers_18 rfl cl_10 (by decide) tw_132 rfl rfl hg rfl (fun I2 eI2 => ?_)
  refine x_iconst (1) (q := 22) dX8_parseLayers_21 rfl (by decide) ?_
  refine x_istore_n (L2 := [some (.ref 54), some (.ref g), some (.int 1)]) (q := 23) dX8_parseLayers_22 rfl (by decide) rfl rfl ?_
  rw [show (0 : Int32).toNatClampNeg = 0 from rfl] at eI1
  refine l_ply h4 hrg hg hgb hc 4 1 _ _ rfl (by decide) ?_ ?_ hVF.2 (fun z => ?_) rfl
  · rw [eI2, eI1]; exact PS_g (PS_g hV (by omega) (by omega) (by omega)) (by omega) (by omega) (by omega)
  · rw [eI2, eI1]; exact (FW.d hVF).tr ((FD_g ⟨by omega, by omega⟩).tr (FD_g ⟨by omega, by omega⟩))
  · have hc1 : CA A b V := CA_f hA hVF hrg
    rw [eI2, eI1, hx z]
    exact CA_g (CA_g hc1 (c := c + 1) (by omega) (by omega)) hgb (by omega)
