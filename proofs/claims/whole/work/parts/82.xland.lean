def bcP (b c : Nat) : Prop := (b = 2 ∧ c = 28) ∨ (b = 28 ∧ c = 2)
theorem bc_s {b c : Nat} (h : bcP b c) : SH c = (15, 18) ∧ (2 ≤ c ∧ c + 26 ≤ 54) ∧ SH b = (15, 18) ∧ (2 ≤ b ∧ b + 26 ≤ 54) := by
  rcases h with ⟨rfl, rfl⟩ | ⟨rfl, rfl⟩
  · exact ⟨rfl, by decide, rfl, by decide⟩
  · exact ⟨rfl, by decide, rfl, by decide⟩
def lxB (b c : Nat) (R : (Nat × Nat × Nat) × MI) (X : MI) (v : Option Value) (Y : MI) (r' : MR) (K : MJ) : Prop := v = some (.int (-1)) ∧ RefOk r' b ∧ RelJ K ∧ (∀ c', c' ≠ 54 → c' ≠ 55 → ¬ regL c c' → c' ≠ 0 → Y c' = X c') ∧ (∀ j, j ≠ 1 → Y 0 j = X 0 j) ∧ Y 0 1 = 0 ∧ Y 54 2 = nI R.1.1 ∧ Y 54 3 = nI R.1.2.1
def lxG (T : Nat → Nat) (n : Nat) (b c : Nat) (R : (Nat × Nat × Nat) × MI) (X : MI) (v : Option Value) (Y : MI) (r' : MR) (K : MJ) : Prop := ∃ y w h s, v = some (.int (nI y)) ∧ RefOk r' c ∧ RelJ K ∧ CD T n R.2 c y w h s Y K ∧ (∀ c', 100 ≤ c' → Y c' = X c') ∧ (∀ j, j ≠ 1 → Y 0 j = X 0 j) ∧ Y 0 1 = 0 ∧ Y 54 2 = 0 ∧ Y 54 3 = -1 ∧ Y 88 3 = 0 ∧ Y 80 4 = 0 ∧ (∀ k, k < 3 → Y 99 k = 0) ∧ Y 58 2 = 0 ∧ Y 58 3 = 0 ∧ Y 58 4 = Y c 16 ∧ ∀ z, z < y → (∀ j, j < 5 → gGet Y (60 + 2 * z) j = Y (c + 11 + 2 * z) j) ∧ ∀ j, 5 ≤ j → j < 9 → gGet Y (60 + 2 * z) j = 0
set_option maxRecDepth 100000 in
theorem c_Xland_b {T : Nat → Nat} {n : Nat} {X : MI} (hT : TX T n X) {r : MR} {J : MJ} (hJ : RelJ J) {b c : Nat} (hr : RefOk r b) (hc1 : r 1 = c) (hbc : bcP b c) (hn0 : X 0 1 = nI n) (hf : ¬ (pF T n (n + 1) (0, 0, 0) (ini X c)).1.1 = 0) : Cq yX11_land MX11_land [.ref 0] X r J (lxB b c (pF T n (n + 1) (0, 0, 0) (ini X c)) X) := by
  obtain ⟨hc, hcr, hb, hbr⟩ := bc_s hbc
  have hpv : prV (pF T n (n + 1) (0, 0, 0) (ini X c)) = 0 := if_neg hf
  refine cq_of [some (.ref 0), none, none, none] 3 (by decide +kernel) rfl rfl (Nat.le_of_ble_eq_true rfl) rfl ?_
  refine x_aload_n (q := 1) dX11_land_0 rfl rfl ?_
  refine q_gr (K := 4) (b := 54) (q := 4) dX11_land_1 rfl cl_11 (by decide) tw_571 rfl rfl rfl ?_
  refine x_aload_n (q := 5) dX11_land_4 rfl rfl ?_
  refine q_gr (K := 0) (b := 1) (q := 8) dX11_land_5 rfl cl_11 (by decide) tw_567 rfl rfl rfl ?_
  refine x_aload_n (q := 9) dX11_land_8 rfl rfl ?_
  refine q_gi (K := 1) (q := 12) dX11_land_9 rfl cl_11 (by decide) tw_568 rfl rfl ?_
  refine x_aload_n (q := 13) dX11_land_12 rfl rfl ?_
  refine q_gr (K := 3) (b := c) (q := 16) dX11_land_13 rfl cl_11 (by decide) tw_570 rfl rfl (congrArg some hc1) ?_
  refine q_callV (ci := 8) (N := 5) (T := TX8) (As := [.ref 1, .int (X 0 1), .ref c]) (rest := []) (q := 19) dX11_land_16 rfl okX8_parse tw_627 rfl rfl (by rw [hn0]; exact c_parse hT r hJ hc hcr) rfl rfl (Nat.le_of_ble_eq_true rfl) ⟨by decide, by decide⟩ ⟨rfl, rfl⟩ (fun rv_ Y r_ K hv_ => ?_)
  obtain ⟨a1_, hY, a3_⟩ := hv_
  rw [a1_, hpv, a3_]
  show Wq MX11_land 19 [some (.ref 0), none, none, none] [.int 0] Y (upR (upR r 2 c) 4 1) K _
  refine x_istore_n (L2 := [some (.ref 0), some (.int 0), none, none]) (q := 20) dX11_land_19 rfl (by decide) rfl rfl ?_
  refine x_aload_n (q := 21) dX11_land_20 rfl rfl ?_
  refine x_iconst (0) (q := 22) dX11_land_21 rfl (by decide) ?_
  refine q_pi (K := 1) (q := 25) dX11_land_22 rfl cl_11 (by decide) tw_568 rfl rfl rfl rfl (fun I1 eI1 => ?_)
  refine x_iload_n (q := 26) dX11_land_25 rfl rfl ?_
  refine x_if_ne (t := 31) (q := 29) dX11_land_26 (by decide) rfl (fun c26 => absurd c26 ((by decide))) (fun c26 => ?_)
  refine x_iconst (-1) (q := 30) dX11_land_29 rfl (by decide) ?_
  refine q_iret dX11_land_30 rfl ?_
  refine ⟨rfl, ⟨hr.1, hr.2.1, hr.2.2⟩, hY.1.2.1, fun c' e1 e2 e3 e4 => ?_, fun j e => ?_, ?_, ?_, ?_⟩
  · rw [eI1, upc e4]; exact hY.2.1.1 c' e1 e2 e3
  · rw [eI1, ups e, hY.2.1.1 0 (by decide) (by decide) (fun z => by have := z.1; omega)]
  · rw [eI1, upq]
  · rw [eI1, upc (by decide)]; exact hY.1.2.2.1
  · rw [eI1, upc (by decide), hY.1.2.2.2.1, if_neg hf]
set_option maxRecDepth 100000 in
theorem c_Xland_g {T : Nat → Nat} {n : Nat} {X : MI} (hT : TX T n X) {r : MR} {J : MJ} (hJ : RelJ J) {b c : Nat} (hr : RefOk r b) (hc1 : r 1 = c) (hbc : bcP b c) (hn0 : X 0 1 = nI n) (hf : (pF T n (n + 1) (0, 0, 0) (ini X c)).1.1 = 0) : Cq yX11_land MX11_land [.ref 0] X r J (lxG T n b c (pF T n (n + 1) (0, 0, 0) (ini X c)) X) := by
  obtain ⟨hc, hcr, hb, hbr⟩ := bc_s hbc
  have hpv : prV (pF T n (n + 1) (0, 0, 0) (ini X c)) = 1 := if_pos hf
  refine cq_of [some (.ref 0), none, none, none] 3 (by decide +kernel) rfl rfl (Nat.le_of_ble_eq_true rfl) rfl ?_
  refine x_aload_n (q := 1) dX11_land_0 rfl rfl ?_
  refine q_gr (K := 4) (b := 54) (q := 4) dX11_land_1 rfl cl_11 (by decide) tw_571 rfl rfl rfl ?_
  refine x_aload_n (q := 5) dX11_land_4 rfl rfl ?_
  refine q_gr (K := 0) (b := 1) (q := 8) dX11_land_5 rfl cl_11 (by decide) tw_567 rfl rfl rfl ?_
  refine x_aload_n (q := 9) dX11_land_8 rfl rfl ?_
  refine q_gi (K := 1) (q := 12) dX11_land_9 rfl cl_11 (by decide) tw_568 rfl rfl ?_
  refine x_aload_n (q := 13) dX11_land_12 rfl rfl ?_
  refine q_gr (K := 3) (b := c) (q := 16) dX11_land_13 rfl cl_11 (by decide) tw_570 rfl rfl (congrArg some hc1) ?_
  refine q_callV (ci := 8) (N := 5) (T := TX8) (As := [.ref 1, .int (X 0 1), .ref c]) (rest := []) (q := 19) dX11_land_16 rfl okX8_parse tw_627 rfl rfl (by rw [hn0]; exact c_parse hT r hJ hc hcr) rfl rfl (Nat.le_of_ble_eq_true rfl) ⟨by decide, by decide⟩ ⟨rfl, rfl⟩ (fun rv_ Y r_ K hv_ => ?_)
  obtain ⟨a1_, hY, a3_⟩ := hv_
  rw [a1_, hpv, a3_]
  show Wq MX11_land 19 [some (.ref 0), none, none, none] [.int 1] Y (upR (upR r 2 c) 4 1) K _
  refine x_istore_n (L2 := [some (.ref 0), some (.int 1), none, none]) (q := 20) dX11_land_19 rfl (by decide) rfl rfl ?_
  refine x_aload_n (q := 21) dX11_land_20 rfl rfl ?_
  refine x_iconst (0) (q := 22) dX11_land_21 rfl (by decide) ?_
  refine q_pi (K := 1) (q := 25) dX11_land_22 rfl cl_11 (by decide) tw_568 rfl rfl rfl rfl (fun I1 eI1 => ?_)
  refine x_iload_n (q := 26) dX11_land_25 rfl rfl ?_
  refine x_if_ne (t := 31) (q := 29) dX11_land_26 (by decide) rfl (fun c26 => ?_) (fun c26 => absurd c26 ((by decide)))
  have q0 : (upR (upR r 2 c) 4 1) 0 = b := hr.1
  have q1 : (upR (upR r 2 c) 4 1) 1 = c := hc1
  obtain ⟨hk0, y, w, h, sn, hD⟩ := hY.2.2 hf
  refine x_aload_n (q := 32) dX11_land_31 rfl rfl ?_
  refine q_gr (K := 2) (b := b) (q := 35) dX11_land_32 rfl cl_11 (by decide) tw_569 rfl rfl (congrArg some q0) ?_
  refine x_astore_n (L2 := [some (.ref 0), some (.int 1), some (.ref b), none]) (q := 36) dX11_land_35 rfl (by decide) rfl rfl ?_
  refine x_aload_n (q := 37) dX11_land_36 rfl rfl ?_
  refine x_aload_n (q := 38) dX11_land_37 rfl rfl ?_
  refine q_gr (K := 3) (b := c) (q := 41) dX11_land_38 rfl cl_11 (by decide) tw_570 rfl rfl (congrArg some q1) ?_
  refine q_pr (K := 2) 0 (q := 44) dX11_land_41 rfl cl_11 (by decide) tw_569 rfl ⟨rfl, rfl⟩ rfl rfl (RR_up0 _ _) (fun r21 er21 => ?_)
  refine x_aload_n (q := 45) dX11_land_44 rfl rfl ?_
  refine x_aload_n (q := 46) dX11_land_45 rfl rfl ?_
  refine q_pr (K := 3) 1 (q := 49) dX11_land_46 rfl cl_11 (by decide) tw_570 rfl ⟨rfl, rfl⟩ rfl rfl (RR_up1 _ _) (fun r22 er22 => ?_)
  have q2 : r22 0 = c := by rw [er22, er21]; rfl
  have q3 : (upR r22 3 c) 0 = c := q2
  have hrf : RefOk (upR r22 3 c) c := by
    refine ⟨q3, rfl, ?_⟩
    have e1 : (upR r22 3 c) 1 = b := by rw [er22]; rfl
    rw [e1]
    rcases hbc with ⟨g1, g2⟩ | ⟨g1, g2⟩
    · exact Or.inr ⟨g2, g1⟩
    · exact Or.inl ⟨g2, g1⟩
  have eyc : I1 c 1 = nI y := by rw [eI1, upc (by omega), hD.1.b]; exact hD.2.2.1
  refine x_aload_n (q := 50) dX11_land_49 rfl rfl ?_
  refine q_gr (K := 5) (b := 58) (q := 53) dX11_land_50 rfl cl_11 (by decide) tw_572 rfl rfl rfl ?_
  refine x_aload_n (q := 54) dX11_land_53 rfl rfl ?_
  refine q_gr (K := 2) (b := c) (q := 57) dX11_land_54 rfl cl_11 (by decide) tw_569 rfl rfl (congrArg some q2) ?_
  refine q_callV (ci := 1) (N := 5) (T := TX1) (As := [.ref c]) (rest := []) (q := 60) dX11_land_57 rfl okX1_begin tw_738 rfl rfl (c_dbeg hc hcr hD.2.2.2.2.2.2.1 eyc r22 K) rfl rfl (Nat.le_of_ble_eq_true rfl) ⟨by decide, by decide⟩ ⟨rfl, rfl⟩ (fun rv_ Z r_ KZ hv_ => ?_)
  obtain ⟨a1_, hZ, a3_, a4_⟩ := hv_
  rw [a1_, a3_, a4_]
  show Wq MX11_land 60 [some (.ref 0), some (.int 1), some (.ref b), none] [] Z (upR r22 3 c) K _
  refine x_aload_n (q := 61) dX11_land_60 rfl rfl ?_
  refine q_gr (K := 10) (b := 88) (q := 64) dX11_land_61 rfl cl_11 (by decide) tw_577 rfl rfl rfl ?_
  refine q_callV (ci := 2) (N := 9) (T := TX2) (As := []) (rest := []) (q := 67) dX11_land_64 rfl okX2_clear tw_749 rfl rfl (c_gclr Z (upR r22 3 c) K) rfl rfl (Nat.le_of_ble_eq_true rfl) ⟨by decide, by decide⟩ ⟨rfl, rfl⟩ (fun rv_ I_ r_ J_ hv_ => ?_)
  obtain ⟨a1_, a2_, a3_, a4_⟩ := hv_
  rw [a1_, a2_, a3_, a4_]
  show Wq MX11_land 67 [some (.ref 0), some (.int 1), some (.ref b), none] [] (upI Z 88 3 0) (upR r22 3 c) K _
  refine x_aload_n (q := 68) dX11_land_67 rfl rfl ?_
  refine q_gr (K := 8) (b := 80) (q := 71) dX11_land_68 rfl cl_11 (by decide) tw_575 rfl rfl rfl ?_
  refine q_callV (ci := 3) (N := 7) (T := TX3) (As := []) (rest := []) (q := 74) dX11_land_71 rfl okX3_forget tw_753 rfl rfl (c_forget (upI Z 88 3 0) (upR r22 3 c) K) rfl rfl (Nat.le_of_ble_eq_true rfl) ⟨by decide, by decide⟩ ⟨rfl, rfl⟩ (fun rv_ I_ r_ J_ hv_ => ?_)
  obtain ⟨a1_, a2_, a3_, a4_⟩ := hv_
  rw [a1_, a2_, a3_, a4_]
  show Wq MX11_land 74 [some (.ref 0), some (.int 1), some (.ref b), none] [] (upI (upI Z 88 3 0) 80 4 0) (upR r22 3 c) K _
  refine x_iconst (0) (q := 75) dX11_land_74 rfl (by decide) ?_
  refine x_istore_n (L2 := [some (.ref 0), some (.int 1), some (.ref b), some (.int 0)]) (q := 76) dX11_land_75 rfl (by decide) rfl rfl ?_
  refine x_iload_n (q := 77) dX11_land_76 rfl rfl ?_
  refine x_iconst (3) (q := 78) dX11_land_77 rfl (by decide) ?_
  refine x_icmp_ge (t := 94) (q := 81) dX11_land_78 (by decide) rfl (fun c78 => absurd c78 ((by decide))) (fun c78 => ?_)
  refine x_aload_n (q := 82) dX11_land_81 rfl rfl ?_
  refine q_gr (K := 13) (b := 99) (q := 85) dX11_land_82 rfl cl_11 (by decide) tw_580 rfl rfl rfl ?_
  refine x_iload_n (q := 86) dX11_land_85 rfl rfl ?_
  refine x_iconst (0) (q := 87) dX11_land_86 rfl (by decide) ?_
  refine q_zast (q := 88) dX11_land_87 rfl (by decide) rfl (vin (by decide)) (fun I41 eI41 => ?_)
  refine x_iinc (v := 1) (L2 := [some (.ref 0), some (.int 1), some (.ref b), some (.int 1)]) (q := 91) dX11_land_88 rfl (by decide) rfl rfl (by decide) rfl ?_
  refine x_goto (t := 76) dX11_land_91 (by decide) ?_
  refine x_iload_n (q := 77) dX11_land_76 rfl rfl ?_
  refine x_iconst (3) (q := 78) dX11_land_77 rfl (by decide) ?_
  refine x_icmp_ge (t := 94) (q := 81) dX11_land_78 (by decide) rfl (fun c78 => absurd c78 ((by decide))) (fun c78 => ?_)
  refine x_aload_n (q := 82) dX11_land_81 rfl rfl ?_
  refine q_gr (K := 13) (b := 99) (q := 85) dX11_land_82 rfl cl_11 (by decide) tw_580 rfl rfl rfl ?_
  refine x_iload_n (q := 86) dX11_land_85 rfl rfl ?_
  refine x_iconst (0) (q := 87) dX11_land_86 rfl (by decide) ?_
  refine q_zast (q := 88) dX11_land_87 rfl (by decide) rfl (vin (by decide)) (fun I42 eI42 => ?_)
  refine x_iinc (v := 2) (L2 := [some (.ref 0), some (.int 1), some (.ref b), some (.int 2)]) (q := 91) dX11_land_88 rfl (by decide) rfl rfl (by decide) rfl ?_
  refine x_goto (t := 76) dX11_land_91 (by decide) ?_
  refine x_iload_n (q := 77) dX11_land_76 rfl rfl ?_
  refine x_iconst (3) (q := 78) dX11_land_77 rfl (by decide) ?_
  refine x_icmp_ge (t := 94) (q := 81) dX11_land_78 (by decide) rfl (fun c78 => absurd c78 ((by decide))) (fun c78 => ?_)
  refine x_aload_n (q := 82) dX11_land_81 rfl rfl ?_
  refine q_gr (K := 13) (b := 99) (q := 85) dX11_land_82 rfl cl_11 (by decide) tw_580 rfl rfl rfl ?_
  refine x_iload_n (q := 86) dX11_land_85 rfl rfl ?_
  refine x_iconst (0) (q := 87) dX11_land_86 rfl (by decide) ?_
  refine q_zast (q := 88) dX11_land_87 rfl (by decide) rfl (vin (by decide)) (fun I43 eI43 => ?_)
  refine x_iinc (v := 3) (L2 := [some (.ref 0), some (.int 1), some (.ref b), some (.int 3)]) (q := 91) dX11_land_88 rfl (by decide) rfl rfl (by decide) rfl ?_
  refine x_goto (t := 76) dX11_land_91 (by decide) ?_
  refine x_iload_n (q := 77) dX11_land_76 rfl rfl ?_
  refine x_iconst (3) (q := 78) dX11_land_77 rfl (by decide) ?_
  refine x_icmp_ge (t := 94) (q := 81) dX11_land_78 (by decide) rfl (fun c78 => ?_) (fun c78 => absurd c78 ((by decide)))
  refine x_aload_n (q := 95) dX11_land_94 rfl rfl ?_
  refine q_gr (K := 2) (b := c) (q := 98) dX11_land_95 rfl cl_11 (by decide) tw_569 rfl rfl (congrArg some q3) ?_
  refine q_gi (K := 1) (q := 101) dX11_land_98 rfl cl_5 (by decide) tw_169 hc rfl ?_
  refine q_iret dX11_land_101 rfl ?_
  rw [show (0 : Int32).toNatClampNeg = 0 from rfl] at eI41
  rw [show (1 : Int32).toNatClampNeg = 1 from rfl] at eI42
  rw [show (2 : Int32).toNatClampNeg = 2 from rfl] at eI43
  have cl : ∀ q, q ≠ 99 → q ≠ 80 → q ≠ 88 → I43 q = Z q := fun q g1 g2 g3 => by rw [eI43, upc g1, eI42, upc g1, eI41, upc g1, upc g2, upc g3]
  have lc : ∀ q, regL c q → I43 q = Y q := fun q g => by have g1 := g.1; have g2 := g.2; rw [cl q (by omega) (by omega) (by omega), hZ.1 q (by omega) (by omega), eI1, upc (by omega)]
  refine ⟨y, w, h, sn, ?_, hrf, hY.1.2.1, ?_, fun q g => ?_, fun j e => ?_, ?_, ?_, ?_, ?_, ?_, fun j hj => ?_, ?_, ?_, ?_, fun z hz => ?_⟩
  · rw [lc c ⟨by omega, by omega⟩, hD.1.b, hD.2.2.1]
  · exact ⟨fun q hq => by rw [lc (c + q) ⟨by omega, by omega⟩]; exact hD.1 q hq, hD.2⟩
  · rw [cl q (by omega) (by omega) (by omega), hZ.1 q (by omega) (by omega), eI1, upc (by omega)]; exact hY.2.1.1 q (by omega) (by omega) (fun z => by have := z.2; omega)
  · rw [cl 0 (by decide) (by decide) (by decide), hZ.1 0 (by decide) (by omega), eI1, ups e, hY.2.1.1 0 (by decide) (by decide) (fun z => by have := z.1; omega)]
  · rw [cl 0 (by decide) (by decide) (by decide), hZ.1 0 (by decide) (by omega), eI1, upq]
  · rw [cl 54 (by decide) (by decide) (by decide), hZ.1 54 (by decide) (by omega), eI1, upc (by decide), hY.1.2.2.1, hf]; rfl
  · rw [cl 54 (by decide) (by decide) (by decide), hZ.1 54 (by decide) (by omega), eI1, upc (by decide), hY.1.2.2.2.1, if_pos hf]
  · rw [eI43, upc (by decide), eI42, upc (by decide), eI41, upc (by decide), upc (by decide), upq]
  · rw [eI43, upc (by decide), eI42, upc (by decide), eI41, upc (by decide), upq]
  · have : j = 0 ∨ j = 1 ∨ j = 2 := by omega
    rcases this with rfl | rfl | rfl
    · rw [eI43, ups (by decide), eI42, ups (by decide), eI41, upq]
    · rw [eI43, ups (by decide), eI42, upq]
    · rw [eI43, upq]
  · rw [cl 58 (by decide) (by decide) (by decide)]; exact hZ.2.1
  · rw [cl 58 (by decide) (by decide) (by decide)]; exact hZ.2.2.1
  · rw [cl 58 (by decide) (by decide) (by decide), hZ.2.2.2.1, lc c ⟨by omega, by omega⟩, eI1, upc (by omega)]
  · have y8 := hD.2.2.2.2.2.2.1
    have eg : gGet I43 (60 + 2 * z) = gGet Z (60 + 2 * z) := by unfold gGet; rw [cl (60 + 2 * z) (by omega) (by omega) (by omega), cl (60 + 2 * z + 1) (by omega) (by omega) (by omega)]
    have q := hZ.2.2.2.2 z hz
    rw [eg, lc (c + 11 + 2 * z) ⟨by omega, by omega⟩]
    refine ⟨fun j hj => ?_, q.2⟩
    rw [q.1 j hj, eI1, upc (by omega)]
