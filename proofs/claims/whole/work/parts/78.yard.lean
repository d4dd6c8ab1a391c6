set_option maxRecDepth 100000 in
theorem c_pya_f {T : Nat → Nat} {n : Nat} {r : MR} (h4 : r 4 = 1) {b : Nat} (h2 : r 2 = b) (hb : SH b = (15, 18)) (hrg : 2 ≤ b ∧ b + 26 ≤ 54) {X : MI} {J : MJ} {s : Nat × Nat × Nat} (h : PS T n s X J) {A : MI} {yn wn hn sn : Nat} (hD : CD T n A b yn wn hn sn X J) (hf : 8 ≤ yn) : Cq yX8_parseYard MX8_parseYard [.ref 54] X r J (RLn T n (rfT T n s) b (fun _ _ => False) X J r) := by
  obtain ⟨ca0, cn0, k1, k5, k9, k12, y8, w16, h12, s7_, tb, t256, k17⟩ := hD
  have fd0 : FD b X J X J := FD.rf
  have ps0 := h
  have hb0 : X b = X b := rfl
  have x1 : X b 1 = nI yn := by rw [ca0.b]; exact k1
  have x5 : X b 5 = nI wn := by rw [ca0.b]; exact k5
  have x9 : X b 9 = nI hn := by rw [ca0.b]; exact k9
  have x12 : X b 12 = nI sn := by rw [ca0.b]; exact k12
  refine cq_of [some (.ref 54), none, none] 2 (by decide +kernel) rfl rfl (Nat.le_of_ble_eq_true rfl) rfl ?_
  refine x_aload_n (q := 1) dX8_parseYard_0 rfl rfl ?_
  refine q_gr (K := 1) (b := b) (q := 4) dX8_parseYard_1 rfl cl_8 (by decide) tw_366 rfl rfl (congrArg some h2) ?_
  refine q_gi (K := 1) (q := 7) dX8_parseYard_4 rfl cl_5 (by decide) tw_167 hb rfl ?_
  refine x_bipush (8) (q := 9) dX8_parseYard_7 rfl (by decide) ?_
  refine x_icmp_lt (t := 17) (q := 12) dX8_parseYard_9 (by decide) rfl (fun c9 => absurd c9 (fun z => absurd ((nI_ltI (a := yn) (b := 8) (by omega) (by decide)).mp (by rw [x1] at z; exact z)) (by omega))) (fun c9 => ?_)
  refine x_aload_n (q := 13) dX8_parseYard_12 rfl rfl ?_
  refine q_callV (ci := 8) (N := 5) (T := TX8) (As := []) (rest := []) (q := 16) dX8_parseYard_13 rfl okX8_refuseToken tw_665 rfl rfl (c_rfT h4 ps0) rfl rfl (Nat.le_of_ble_eq_true rfl) ⟨by decide, by decide⟩ ⟨rfl, rfl⟩ (fun rv_ V1 r_ K1 hv_ => ?_)
  obtain ⟨a1_, ⟨ps1, fp1⟩, a3_⟩ := hv_
  rw [a1_, a3_]
  obtain ⟨t1, et1⟩ : ∃ z, z = rfT T n s := ⟨_, rfl⟩
  rw [← et1] at ps1
  have ca1 := CA_f ca0 fp1.w hrg
  have fd1 := fd0.tr (FW.d (b := b) fp1.w)
  have cn1 := CN_f cn0 fp1.w hrg
  have hb1 : V1 b = X b := Eq.trans (fp1.w.1 b (by omega) (by omega)) hb0
  show Wq MX8_parseYard 16 [some (.ref 54), none, none] [] V1 r K1 _
  refine q_vret dX8_parseYard_16 rfl ?_
  refine ⟨rfl, ⟨?_, fd1, fun z => absurd z rfT_n⟩, rfl⟩
  rw [← et1]; exact ps1
theorem PS_j {T : Nat → Nat} {n : Nat} {s : Nat × Nat × Nat} {X : MI} {J : MJ} {q k : Nat} {x : Int64} (h : PS T n s X J) (h1 : q ≠ 55) (h2 : q ≠ 56) : PS T n s X (upJ J q k x) := by
  obtain ⟨g1, g2, g3, g4, g5, g6, g7⟩ := h
  refine ⟨g1, fun i hi => by rw [upJc (Ne.symm h2)]; exact g2 i hi, g3, g4, g5, g6, ?_⟩
  obtain ⟨l1, l2, l3, l4, l5, l6, l7⟩ := g7
  exact ⟨l1, l2, l3, l4, l5, fun z => by rw [upJc (Ne.symm h1)]; exact l6 z, l7⟩
def yC (T : Nat → Nat) (n : Nat) (A : MI) (yn : Nat) (s : Nat × Nat × Nat) : Nat × Nat × Nat := if decide (nf T n A (w5 T n s.2.2) yn 0 < 8) then rf 3 (sk T n s.2.2) (tnaT T n s) else tnaT T n s
def y4 (T : Nat → Nat) (n : Nat) (A : MI) (yn : Nat) (s : Nat × Nat × Nat) : Nat × Nat × Nat := tkw T n 12 (tsoT T n (yC T n A yn s))
def y6 (T : Nat → Nat) (n : Nat) (A : MI) (yn : Nat) (s : Nat × Nat × Nat) : Nat × Nat × Nat := tkw T n 13 (tnuT T n 0 99 (y4 T n A yn s))
def y9 (T : Nat → Nat) (n : Nat) (A : MI) (yn : Nat) (s : Nat × Nat × Nat) : Nat × Nat × Nat := tkw T n 14 (tnuT T n 0 99 (y6 T n A yn s))
def yaS (T : Nat → Nat) (n : Nat) (A : MI) (yn : Nat) (s : Nat × Nat × Nat) : Nat × Nat × Nat := lyT T n (y9 T n A yn (adv T n s)) (laK T n (y9 T n A yn (adv T n s)) 4 1)
def yaA (T : Nat → Nat) (n : Nat) (s : Nat × Nat × Nat) (A : MI) (yn : Nat) : MI := upI (upI (lyA T n (y9 T n A yn (adv T n s)) (upI (upI (upI A (10 + 2 * yn) 1 (nI (kw T n (yC T n A yn (adv T n s)).2.2 - 8))) (10 + 2 * yn) 2 (nI (vl T n (y4 T n A yn (adv T n s)).2.2))) (10 + 2 * yn) 3 (nI (vl T n (y6 T n A yn (adv T n s)).2.2))) (10 + 2 * yn) (laK T n (y9 T n A yn (adv T n s)) 4 1)) 0 1 (nI (yn + 1))) 26 yn (nI (adv T n s).2.2)
theorem lyA_o {T : Nat → Nat} {n : Nat} {s : Nat × Nat × Nat} {A : MI} {c d : Nat} (h1 : ¬ d = c) (h2 : ¬ d = c + 1) : ∀ k, lyA T n s A c k d = A d := by
  intro k
  induction k with
  | zero => rfl
  | succ k ih =>
    show upI (upI (lyA T n s A c k) (c + 1) k _) c 4 _ d = _
    rw [upc h1, upc h2, ih]
theorem lyT_0 {T : Nat → Nat} {n : Nat} {s : Nat × Nat × Nat} : ∀ k, (lyT T n s k).1 = 0 → s.1 = 0 := by
  intro k
  induction k with
  | zero => intro h; exact h
  | succ k ih => intro h; exact ih (tvaT_0 h).1
set_option maxRecDepth 100000 in
theorem c_pya {T : Nat → Nat} {n : Nat} {r : MR} (h4 : r 4 = 1) {b : Nat} (h2 : r 2 = b) (hb : SH b = (15, 18)) (hrg : 2 ≤ b ∧ b + 26 ≤ 54) {X : MI} {J : MJ} {s : Nat × Nat × Nat} (h : PS T n s X J) {A : MI} {yn wn hn sn : Nat} (hD : CD T n A b yn wn hn sn X J) (hf : yn < 8) : Cq yX8_parseYard MX8_parseYard [.ref 54] X r J (RLn T n (yaS T n A yn s) b (CD T n (yaA T n s A yn) b (yn + 1) wn hn sn) X J r) := by
  obtain ⟨ca0, cn0, k1, k5, k9, k12, y8, w16, h12, s7_, tb, t256, k17⟩ := hD
  have fd0 : FD b X J X J := FD.rf
  have ps0 := h
  have hb0 : X b = X b := rfl
  have x1 : X b 1 = nI yn := by rw [ca0.b]; exact k1
  have x5 : X b 5 = nI wn := by rw [ca0.b]; exact k5
  have x9 : X b 9 = nI hn := by rw [ca0.b]; exact k9
  have x12 : X b 12 = nI sn := by rw [ca0.b]; exact k12
  obtain ⟨g, hg0⟩ : ∃ g, g = b + 10 + 2 * yn := ⟨_, rfl⟩
  have hgb : g = b + (10 + 2 * yn) := by omega
  have hg : SH g = (20, 6) := by rw [hg0]; exact (ly_w hb (show yn < 8 by omega) r).2
  refine cq_of [some (.ref 54), none, none] 2 (by decide +kernel) rfl rfl (Nat.le_of_ble_eq_true rfl) rfl ?_
  refine x_aload_n (q := 1) dX8_parseYard_0 rfl rfl ?_
  refine q_gr (K := 1) (b := b) (q := 4) dX8_parseYard_1 rfl cl_8 (by decide) tw_366 rfl rfl (congrArg some h2) ?_
  refine q_gi (K := 1) (q := 7) dX8_parseYard_4 rfl cl_5 (by decide) tw_167 hb rfl ?_
  refine x_bipush (8) (q := 9) dX8_parseYard_7 rfl (by decide) ?_
  refine x_icmp_lt (t := 17) (q := 12) dX8_parseYard_9 (by decide) rfl (fun c9 => ?_) (fun c9 => absurd c9 (fun z => z (by rw [x1]; exact nI_lt (b := 8) (by omega) (by decide))))
  refine x_aload_n (q := 18) dX8_parseYard_17 rfl rfl ?_
  refine q_gr (K := 1) (b := b) (q := 21) dX8_parseYard_18 rfl cl_8 (by decide) tw_366 rfl rfl (congrArg some h2) ?_
  refine q_gr (K := 0) (b := (b + 1)) (q := 24) dX8_parseYard_21 rfl cl_5 (by decide) tw_161 hb rfl (lr_w hb _).1 ?_
  refine x_aload_n (q := 25) dX8_parseYard_24 rfl rfl ?_
  refine q_gr (K := 1) (b := b) (q := 28) dX8_parseYard_25 rfl cl_8 (by decide) tw_366 rfl rfl (congrArg some h2) ?_
  refine q_gi (K := 1) (q := 31) dX8_parseYard_28 rfl cl_5 (by decide) tw_167 hb rfl ?_
  refine q_aald4 (b := g) (q := 32) dX8_parseYard_31 rfl (ls_w hb).1 (by rw [hb0, x1]; exact vp_in_nI (by omega) (by decide)) (by rw [x1, nI_clamp (by omega), hg0]; exact (ly_w hb (by omega) _).1) ?_
  refine x_astore_n (L2 := [some (.ref 54), some (.ref g), none]) (q := 33) dX8_parseYard_32 rfl (by decide) rfl rfl ?_
  refine x_aload_n (q := 34) dX8_parseYard_33 rfl rfl ?_
  refine q_gr (K := 0) (b := 55) (q := 37) dX8_parseYard_34 rfl cl_8 (by decide) tw_365 rfl rfl rfl ?_
  refine q_callV (ci := 6) (N := 9) (T := TX6) (As := []) (rest := []) (q := 40) dX8_parseYard_37 rfl okX6_advance tw_673 rfl rfl (c_advP h4 ps0) rfl rfl (Nat.le_of_ble_eq_true rfl) ⟨by decide, by decide⟩ ⟨rfl, rfl⟩ (fun rv_ V1 r_ K1 hv_ => ?_)
  obtain ⟨a1_, ⟨ps1, fp1⟩, a3_⟩ := hv_
  rw [a1_, a3_]
  obtain ⟨t1, et1⟩ : ∃ z, z = adv T n s := ⟨_, rfl⟩
  rw [← et1] at ps1
  have ca1 := CA_f ca0 fp1.w hrg
  have fd1 := fd0.tr (FW.d (b := b) fp1.w)
  have cn1 := CN_f cn0 fp1.w hrg
  have hb1 : V1 b = X b := Eq.trans (fp1.w.1 b (by omega) (by omega)) hb0
  show Wq MX8_parseYard 40 [some (.ref 54), some (.ref g), none] [] V1 r K1 _
  refine x_aload_n (q := 41) dX8_parseYard_40 rfl rfl ?_
  refine q_gr (K := 0) (b := 55) (q := 44) dX8_parseYard_41 rfl cl_8 (by decide) tw_365 rfl rfl rfl ?_
  refine q_gi (K := 5) (q := 47) dX8_parseYard_44 rfl cl_6 (by decide) tw_338 rfl rfl ?_
  refine x_nmi (fun v1 ev1 => ?_)
  refine x_istore_n (L2 := [some (.ref 54), some (.ref g), some (.int v1)]) (q := 48) dX8_parseYard_47 rfl (by decide) rfl rfl ?_
  have evp : v1 = nI (sk T n t1.2.2) := by rw [ev1]; exact ps1.2.2.2.2.2.2.2.2.2.1
  refine x_aload_n (q := 49) dX8_parseYard_48 rfl rfl ?_
  refine x_aload_n (q := 50) dX8_parseYard_49 rfl rfl ?_
  refine q_callV (ci := 8) (N := 5) (T := TX8) (As := []) (rest := [.ref g]) (q := 53) dX8_parseYard_50 rfl okX8_takeName tw_674 rfl rfl (c_tna h4 ps1) rfl rfl (Nat.le_of_ble_eq_true rfl) ⟨by decide, by decide⟩ ⟨rfl, rfl⟩ (fun rv_ V2 r_ K2 hv_ => ?_)
  obtain ⟨xa, a1_, hxa, ps2, fp2, a3_⟩ := hv_
  rw [a1_, a3_]
  obtain ⟨t2, et2⟩ : ∃ z, z = tnaT T n t1 := ⟨_, rfl⟩
  rw [← et2] at ps2
  have ca2 := CA_f ca1 fp2.w hrg
  have fd2 := fd1.tr (FW.d (b := b) fp2.w)
  have cn2 := CN_f cn1 fp2.w hrg
  have hb2 : V2 b = X b := Eq.trans (fp2.w.1 b (by omega) (by omega)) hb1
  show Wq MX8_parseYard 53 [some (.ref 54), some (.ref g), some (.int v1)] [.long xa, .ref g] V2 r K2 _
  refine q_pl (K := 0) (q := 56) dX8_parseYard_53 rfl cl_10 (by decide) tw_125 rfl rfl hg rfl (fun J11 eJ11 => ?_)
  have ejg : J11 g 0 = xa := by rw [eJ11, upJq]
  have ps3 : PS T n t2 V2 J11 := by rw [eJ11]; exact PS_j ps2 (by omega) (by omega)
  have ca3 := ca2
  have hb3 := hb2
  have fd3 : FD b X J V2 J11 := fd2.tr ⟨fun _ _ _ _ => rfl, fun c j _ e => by rw [eJ11, upJc (fun z => e (by rw [z]; exact ⟨by omega, by omega⟩))]⟩
  have cn3 : CN T n A b yn J11 := fun y hy => by rw [eJ11, upJc (by omega)]; exact cn2 y hy
  refine x_aload_n (q := 57) dX8_parseYard_56 rfl rfl ?_
  refine q_gr (K := 1) (b := b) (q := 60) dX8_parseYard_57 rfl cl_8 (by decide) tw_366 rfl rfl (congrArg some h2) ?_
  refine x_aload_n (q := 61) dX8_parseYard_60 rfl rfl ?_
  refine q_gl (K := 0) (q := 64) dX8_parseYard_61 rfl cl_10 (by decide) tw_125 hg rfl ?_
  refine q_callV (ci := 5) (N := 18) (T := TX5) (As := [.long (J11 g 0)]) (rest := []) (q := 67) dX8_parseYard_64 rfl okX5_yardNamed tw_678 hb rfl (by rw [ejg]; exact c_ynm hb V2 r cn3 (by rw [hb3]; exact x1) y8 xa) rfl rfl (Nat.le_of_ble_eq_true rfl) ⟨by decide, by decide⟩ ⟨rfl, rfl⟩ (fun rv_ I_ r_ J_ hv_ => ?_)
  obtain ⟨a1_, a2_, a3_, a4_⟩ := hv_
  rw [a1_, a2_, a3_, a4_]
  show Wq MX8_parseYard 67 [some (.ref 54), some (.ref g), some (.int v1)] [.int (ynV T n A xa yn yn 0)] V2 r J11 _
  refine x_iconst (-1) (q := 68) dX8_parseYard_67 rfl (by decide) ?_
  refine x_icmp_eq (t := 77) (q := 71) dX8_parseYard_68 (by decide) rfl (fun c68 => ?_) (fun c68 => ?_)
  · obtain ⟨t3, et3⟩ : ∃ z, z = if decide (nf T n A (w5 T n t1.2.2) yn 0 < 8) then rf 3 (sk T n t1.2.2) t2 else t2 := ⟨_, rfl⟩
    have eq_t3 : t2 = t3 := by
      rw [et3]
      by_cases z : t2.1 = 0
      · rw [if_neg (by (have q := tnaT_0 (by rw [et2] at z; exact z); have key := ynV_e (A := A) (w5_lt q.1.2.1) (fun y hy => (cn0 y hy).2) yn 0 (by omega) y8; have l8 := nf_8 (T := T) (n := n) (A := A) (w := w5 T n t1.2.2) y8; rw [hxa q.1] at c68; intro w; rw [key.2 (of_decide_eq_true w)] at c68; exact absurd c68 (nI_nm1 (by omega))))]
      · rw [rf_s z]
        cases (decide (nf T n A (w5 T n t1.2.2) yn 0 < 8)) <;> rfl
    rw [eq_t3] at ps3
    refine x_aload_n (q := 78) dX8_parseYard_77 rfl rfl ?_
    refine x_aload_n (q := 79) dX8_parseYard_78 rfl rfl ?_
    refine q_callV (ci := 8) (N := 5) (T := TX8) (As := []) (rest := [.ref g]) (q := 82) dX8_parseYard_79 rfl okX8_takeSort tw_682 rfl rfl (c_tso h4 ps3) rfl rfl (Nat.le_of_ble_eq_true rfl) ⟨by decide, by decide⟩ ⟨rfl, rfl⟩ (fun rv_ V4 r_ K4 hv_ => ?_)
    obtain ⟨x_79, a1_, hx_79, ps4, fp4, a3_⟩ := hv_
    rw [a1_, a3_]
    obtain ⟨t4, et4⟩ : ∃ z, z = tsoT T n t3 := ⟨_, rfl⟩
    rw [← et4] at ps4
    have ca4 := CA_f ca3 fp4.w hrg
    have fd4 := fd3.tr (FW.d (b := b) fp4.w)
    have cn4 := CN_f cn3 fp4.w hrg
    have hb4 : V4 b = X b := Eq.trans (fp4.w.1 b (by omega) (by omega)) hb3
    rw [← et4] at hx_79
    show Wq MX8_parseYard 82 [some (.ref 54), some (.ref g), some (.int v1)] [.int x_79, .ref g] V4 r K4 _
    refine q_pi (K := 1) (q := 85) dX8_parseYard_82 rfl cl_10 (by decide) tw_126 rfl rfl hg rfl (fun I31 eI31 => ?_)
    have ca5 : CA (upI A (10 + 2 * yn) 1 x_79) b I31 := by rw [eI31]; exact CA_g ca4 hgb (by omega)
    have rg5 : ∀ c, ¬ regL b c → I31 c = V4 c := fun c e => by rw [eI31, upc (fun z => e (by rw [z]; exact ⟨by omega, by omega⟩))]
    have ps5 := PS_d ps4 hrg rg5
    have fd5 := fd4.tr (FD.i rg5)
    have cn5 := cn4
    have hb5 : I31 b = X b := Eq.trans (by rw [eI31, upc (by omega)]) hb4
    refine x_aload_n (q := 86) dX8_parseYard_85 rfl rfl ?_
    refine x_bipush (12) (q := 88) dX8_parseYard_86 rfl (by decide) ?_
    refine q_callV (ci := 8) (N := 5) (T := TX8) (As := [.int 12]) (rest := []) (q := 91) dX8_parseYard_88 rfl okX8_takeKeyword tw_686 rfl rfl (c_tkw h4 ps5 (i := 12) (by decide)) rfl rfl (Nat.le_of_ble_eq_true rfl) ⟨by decide, by decide⟩ ⟨rfl, rfl⟩ (fun rv_ V6 r_ K6 hv_ => ?_)
    obtain ⟨a1_, ⟨ps6, fp6⟩, a3_⟩ := hv_
    rw [a1_, a3_]
    obtain ⟨t5, et5⟩ : ∃ z, z = tkw T n 12 t4 := ⟨_, rfl⟩
    rw [← et5] at ps6
    have ca6 := CA_f ca5 fp6.w hrg
    have fd6 := fd5.tr (FW.d (b := b) fp6.w)
    have cn6 := CN_f cn5 fp6.w hrg
    have hb6 : V6 b = X b := Eq.trans (fp6.w.1 b (by omega) (by omega)) hb5
    show Wq MX8_parseYard 91 [some (.ref 54), some (.ref g), some (.int v1)] [] V6 r K6 _
    refine x_aload_n (q := 92) dX8_parseYard_91 rfl rfl ?_
    refine x_aload_n (q := 93) dX8_parseYard_92 rfl rfl ?_
    refine x_iconst (0) (q := 94) dX8_parseYard_93 rfl (by decide) ?_
    refine x_bipush (99) (q := 96) dX8_parseYard_94 rfl (by decide) ?_
    refine q_callV (ci := 8) (N := 5) (T := TX8) (As := [.int 0, .int 99]) (rest := [.ref g]) (q := 99) dX8_parseYard_96 rfl okX8_takeNumber tw_690 rfl rfl (c_tnu h4 ps6 (lo := 0) (hi := 99) (by decide) (by decide)) rfl rfl (Nat.le_of_ble_eq_true rfl) ⟨by decide, by decide⟩ ⟨rfl, rfl⟩ (fun rv_ V7 r_ K7 hv_ => ?_)
    obtain ⟨x_96, a1_, hx_96, ps7, fp7, a3_⟩ := hv_
    rw [a1_, a3_]
    obtain ⟨t6, et6⟩ : ∃ z, z = tnuT T n 0 99 t5 := ⟨_, rfl⟩
    rw [← et6] at ps7
    have ca7 := CA_f ca6 fp7.w hrg
    have fd7 := fd6.tr (FW.d (b := b) fp7.w)
    have cn7 := CN_f cn6 fp7.w hrg
    have hb7 : V7 b = X b := Eq.trans (fp7.w.1 b (by omega) (by omega)) hb6
    rw [← et6] at hx_96
    show Wq MX8_parseYard 99 [some (.ref 54), some (.ref g), some (.int v1)] [.int x_96, .ref g] V7 r K7 _
    refine q_pi (K := 2) (q := 102) dX8_parseYard_99 rfl cl_10 (by decide) tw_128 rfl rfl hg rfl (fun I41 eI41 => ?_)
    have ca8 : CA (upI (upI A (10 + 2 * yn) 1 x_79) (10 + 2 * yn) 2 x_96) b I41 := by rw [eI41]; exact CA_g ca7 hgb (by omega)
    have rg8 : ∀ c, ¬ regL b c → I41 c = V7 c := fun c e => by rw [eI41, upc (fun z => e (by rw [z]; exact ⟨by omega, by omega⟩))]
    have ps8 := PS_d ps7 hrg rg8
    have fd8 := fd7.tr (FD.i rg8)
    have cn8 := cn7
    have hb8 : I41 b = X b := Eq.trans (by rw [eI41, upc (by omega)]) hb7
    refine x_aload_n (q := 103) dX8_parseYard_102 rfl rfl ?_
    refine x_bipush (13) (q := 105) dX8_parseYard_103 rfl (by decide) ?_
    refine q_callV (ci := 8) (N := 5) (T := TX8) (As := [.int 13]) (rest := []) (q := 108) dX8_parseYard_105 rfl okX8_takeKeyword tw_686 rfl rfl (c_tkw h4 ps8 (i := 13) (by decide)) rfl rfl (Nat.le_of_ble_eq_true rfl) ⟨by decide, by decide⟩ ⟨rfl, rfl⟩ (fun rv_ V9 r_ K9 hv_ => ?_)
    obtain ⟨a1_, ⟨ps9, fp9⟩, a3_⟩ := hv_
    rw [a1_, a3_]
    obtain ⟨t7, et7⟩ : ∃ z, z = tkw T n 13 t6 := ⟨_, rfl⟩
    rw [← et7] at ps9
    have ca9 := CA_f ca8 fp9.w hrg
    have fd9 := fd8.tr (FW.d (b := b) fp9.w)
    have cn9 := CN_f cn8 fp9.w hrg
    have hb9 : V9 b = X b := Eq.trans (fp9.w.1 b (by omega) (by omega)) hb8
    show Wq MX8_parseYard 108 [some (.ref 54), some (.ref g), some (.int v1)] [] V9 r K9 _
    refine x_aload_n (q := 109) dX8_parseYard_108 rfl rfl ?_
    refine x_aload_n (q := 110) dX8_parseYard_109 rfl rfl ?_
    refine x_iconst (0) (q := 111) dX8_parseYard_110 rfl (by decide) ?_
    refine x_bipush (99) (q := 113) dX8_parseYard_111 rfl (by decide) ?_
    refine q_callV (ci := 8) (N := 5) (T := TX8) (As := [.int 0, .int 99]) (rest := [.ref g]) (q := 116) dX8_parseYard_113 rfl okX8_takeNumber tw_690 rfl rfl (c_tnu h4 ps9 (lo := 0) (hi := 99) (by decide) (by decide)) rfl rfl (Nat.le_of_ble_eq_true rfl) ⟨by decide, by decide⟩ ⟨rfl, rfl⟩ (fun rv_ V10 r_ K10 hv_ => ?_)
    obtain ⟨x_113, a1_, hx_113, ps10, fp10, a3_⟩ := hv_
    rw [a1_, a3_]
    obtain ⟨t8, et8⟩ : ∃ z, z = tnuT T n 0 99 t7 := ⟨_, rfl⟩
    rw [← et8] at ps10
    have ca10 := CA_f ca9 fp10.w hrg
    have fd10 := fd9.tr (FW.d (b := b) fp10.w)
    have cn10 := CN_f cn9 fp10.w hrg
    have hb10 : V10 b = X b := Eq.trans (fp10.w.1 b (by omega) (by omega)) hb9
    rw [← et8] at hx_113
    show Wq MX8_parseYard 116 [some (.ref 54), some (.ref g), some (.int v1)] [.int x_113, .ref g] V10 r K10 _
    refine q_pi (K := 3) (q := 119) dX8_parseYard_116 rfl cl_10 (by decide) tw_130 rfl rfl hg rfl (fun I51 eI51 => ?_)
    have ca11 : CA (upI (upI (upI A (10 + 2 * yn) 1 x_79) (10 + 2 * yn) 2 x_96) (10 + 2 * yn) 3 x_113) b I51 := by rw [eI51]; exact CA_g ca10 hgb (by omega)
    have rg11 : ∀ c, ¬ regL b c → I51 c = V10 c := fun c e => by rw [eI51, upc (fun z => e (by rw [z]; exact ⟨by omega, by omega⟩))]
    have ps11 := PS_d ps10 hrg rg11
    have fd11 := fd10.tr (FD.i rg11)
    have cn11 := cn10
    have hb11 : I51 b = X b := Eq.trans (by rw [eI51, upc (by omega)]) hb10
    refine x_aload_n (q := 120) dX8_parseYard_119 rfl rfl ?_
    refine x_bipush (14) (q := 122) dX8_parseYard_120 rfl (by decide) ?_
    refine q_callV (ci := 8) (N := 5) (T := TX8) (As := [.int 14]) (rest := []) (q := 125) dX8_parseYard_122 rfl okX8_takeKeyword tw_686 rfl rfl (c_tkw h4 ps11 (i := 14) (by decide)) rfl rfl (Nat.le_of_ble_eq_true rfl) ⟨by decide, by decide⟩ ⟨rfl, rfl⟩ (fun rv_ V12 r_ K12 hv_ => ?_)
    obtain ⟨a1_, ⟨ps12, fp12⟩, a3_⟩ := hv_
    rw [a1_, a3_]
    obtain ⟨t9, et9⟩ : ∃ z, z = tkw T n 14 t8 := ⟨_, rfl⟩
    rw [← et9] at ps12
    have ca12 := CA_f ca11 fp12.w hrg
    have fd12 := fd11.tr (FW.d (b := b) fp12.w)
    have cn12 := CN_f cn11 fp12.w hrg
    have hb12 : V12 b = X b := Eq.trans (fp12.w.1 b (by omega) (by omega)) hb11
    show Wq MX8_parseYard 125 [some (.ref 54), some (.ref g), some (.int v1)] [] V12 r K12 _
    refine x_aload_n (q := 126) dX8_parseYard_125 rfl rfl ?_
    refine x_aload_n (q := 127) dX8_parseYard_126 rfl rfl ?_
    refine q_callV (ci := 8) (N := 5) (T := TX8) (As := [.ref g]) (rest := []) (q := 130) dX8_parseYard_127 rfl okX8_parseLayers tw_694 rfl rfl (c_ply h4 hrg hg hgb (by omega) ps12 ca12) rfl rfl (Nat.le_of_ble_eq_true rfl) ⟨by decide, by decide⟩ ⟨rfl, rfl⟩ (fun rv_ VF r_ KF hv_ => ?_)
    obtain ⟨a1_, ⟨psF, fdF, jlF, caF⟩, a3_⟩ := hv_
    rw [a1_, a3_]
    show Wq MX8_parseYard 130 [some (.ref 54), some (.ref g), some (.int v1)] [] VF r KF _
    refine x_aload_n (q := 131) dX8_parseYard_130 rfl rfl ?_
    refine q_gr (K := 1) (b := b) (q := 134) dX8_parseYard_131 rfl cl_8 (by decide) tw_366 rfl rfl (congrArg some h2) ?_
    refine x_dup (q := 135) dX8_parseYard_134 rfl rfl ?_
    refine q_gi (K := 1) (q := 138) dX8_parseYard_135 rfl cl_5 (by decide) tw_167 hb rfl ?_
    refine x_iconst (1) (q := 139) dX8_parseYard_138 rfl (by decide) ?_
    refine x_iadd (q := 140) dX8_parseYard_139 rfl ?_
    refine q_pi (K := 1) (q := 143) dX8_parseYard_140 rfl cl_5 (by decide) tw_167 rfl rfl hb rfl (fun I61 eI61 => ?_)
    refine q_vret dX8_parseYard_143 rfl ?_
    have e3 : yC T n A yn t1 = t3 := by unfold yC; rw [← et2, et3]
    have e4 : y4 T n A yn t1 = t5 := by unfold y4; rw [e3, et5, et4]
    have e6 : y6 T n A yn t1 = t7 := by unfold y6; rw [e4, et7, et6]
    have e9 : y9 T n A yn t1 = t9 := by unfold y9; rw [e6, et9, et8]
    have es : yaS T n A yn s = lyT T n t9 (laK T n t9 4 1) := by unfold yaS; rw [← et1, e9]
    refine ⟨rfl, ⟨by rw [es, eI61]; exact PS_g psF (by omega) (by omega) (by omega), ?_, fun z => ?_⟩, rfl⟩
    · rw [eI61]; exact (fd12.tr fdF).tr (FD_g ⟨by omega, by omega⟩)
    rw [es] at z
    have z9 : t9.1 = 0 := lyT_0 _ z
    have f_t9 := tkw_0 (by rw [et9] at z9; exact z9)
    have z_t8 : t8.1 = 0 := f_t9.1
    have f_t8 := tnuT_0 (by rw [et8] at z_t8; exact z_t8)
    have z_t7 : t7.1 = 0 := f_t8.1.1
    have f_t7 := tkw_0 (by rw [et7] at z_t7; exact z_t7)
    have z_t6 : t6.1 = 0 := f_t7.1
    have f_t6 := tnuT_0 (by rw [et6] at z_t6; exact z_t6)
    have z_t5 : t5.1 = 0 := f_t6.1.1
    have f_t5 := tkw_0 (by rw [et5] at z_t5; exact z_t5)
    have z_t4 : t4.1 = 0 := f_t5.1
    have f_t4 := tsoT_0 (by rw [et4] at z_t4; exact z_t4)
    have z_t3 : t3.1 = 0 := f_t4.1.1
    have f_t3 := cnd_0 (by rw [et3] at z_t3; exact z_t3) (by decide)
    have z_t2 : t2.1 = 0 := f_t3.2.1
    have f_t2 := tnaT_0 (by rw [et2] at z_t2; exact z_t2)
    have z_t1 : t1.1 = 0 := f_t2.1.1
    have z_s : s.1 = 0 := by rw [et1] at z_t1; exact z_t1
    have cF := caF z
    have ey : VF b 1 + 1 = nI (yn + 1) := by
      rw [cF.b, lyA_o (by omega) (by omega), upc (by omega), upc (by omega), upc (by omega), k1, nI_p1]
    have eA : yaA T n s A yn = upI (upI (lyA T n t9 (upI (upI (upI A (10 + 2 * yn) 1 x_79) (10 + 2 * yn) 2 x_96) (10 + 2 * yn) 3 x_113) (10 + 2 * yn) (laK T n t9 4 1)) 0 1 (nI (yn + 1))) 26 yn (nI t1.2.2) := by
      unfold yaA
      rw [hx_79 z_t4, hx_96 z_t6, hx_113 z_t8, ← et1, e9, e6, e4, e3]
    have p17 : t1.2.2 < 2 ^ 31 := by have := ps1.2.2.2.2.1; have := ps1.1.1; omega
    have hna := f_t2.1
    have kg_ : K12 g 0 = xa := by
      rw [fp12.2.1 g 0 (by omega), fp10.2.1 g 0 (by omega), fp9.2.1 g 0 (by omega), fp7.2.1 g 0 (by omega), fp6.2.1 g 0 (by omega), fp4.2.1 g 0 (by omega), ejg]
    rw [eA]
    refine ⟨fun c hc => ?_, fun y hy => ?_, by rw [upc (by decide), upq], by rw [upc (by decide), ups (by decide), lyA_o (by omega) (by omega), upc (by omega), upc (by omega), upc (by omega)]; exact k5, by rw [upc (by decide), ups (by decide), lyA_o (by omega) (by omega), upc (by omega), upc (by omega), upc (by omega)]; exact k9, by rw [upc (by decide), ups (by decide), lyA_o (by omega) (by omega), upc (by omega), upc (by omega), upc (by omega)]; exact k12, by omega, w16, h12, s7_, tb, t256, by rw [upc (by decide), ups (by decide), lyA_o (by omega) (by omega), upc (by omega), upc (by omega), upc (by omega)]; exact k17⟩
    · rw [upc (by omega), eI61, ey]; exact CA_0 cF c hc
    · have ek : KF (b + 10 + 2 * y) 0 = K12 (b + 10 + 2 * y) 0 := jlF _ _ (by omega)
      rw [ek]
      by_cases e : y = yn
      · rw [e]
        have en : NM T n (upI (upI (lyA T n t9 (upI (upI (upI A (10 + 2 * yn) 1 x_79) (10 + 2 * yn) 2 x_96) (10 + 2 * yn) 3 x_113) (10 + 2 * yn) (laK T n t9 4 1)) 0 1 (nI (yn + 1))) 26 yn (nI t1.2.2)) yn = w5 T n t1.2.2 := by
          unfold NM; rw [upq, nI_clamp p17]
        rw [en, ← hg0]
        refine ⟨?_, w5_lt hna.2.1⟩
        rw [kg_]
        exact hxa hna
      · have en : NM T n (upI (upI (lyA T n t9 (upI (upI (upI A (10 + 2 * yn) 1 x_79) (10 + 2 * yn) 2 x_96) (10 + 2 * yn) 3 x_113) (10 + 2 * yn) (laK T n t9 4 1)) 0 1 (nI (yn + 1))) 26 yn (nI t1.2.2)) y = NM T n A y := by
          unfold NM; rw [ups e, upc (by decide), lyA_o (by omega) (by omega), upc (by omega), upc (by omega), upc (by omega)]
        rw [en]
        exact cn12 y (by omega)
  · refine x_aload_n (q := 72) dX8_parseYard_71 rfl rfl ?_
    refine x_iconst (3) (q := 73) dX8_parseYard_72 rfl (by decide) ?_
    refine x_iload_n (q := 74) dX8_parseYard_73 rfl rfl ?_
    refine q_callV (ci := 8) (N := 5) (T := TX8) (As := [.int 3, .int v1]) (rest := []) (q := 77) dX8_parseYard_74 rfl okX8_refuse tw_669 rfl rfl (by rw [evp]; exact c_ref h4 ps3 (k := 3) (g := sk T n t1.2.2) (by decide)) rfl rfl (Nat.le_of_ble_eq_true rfl) ⟨by decide, by decide⟩ ⟨rfl, rfl⟩ (fun rv_ V4 r_ K4 hv_ => ?_)
    obtain ⟨a1_, ⟨ps4, fp4⟩, a3_⟩ := hv_
    rw [a1_, a3_]
    obtain ⟨t3, et3⟩ : ∃ z, z = rf 3 (sk T n t1.2.2) t2 := ⟨_, rfl⟩
    rw [← et3] at ps4
    have ca4 := CA_f ca3 fp4.w hrg
    have fd4 := fd3.tr (FW.d (b := b) fp4.w)
    have cn4 := CN_f cn3 fp4.w hrg
    have hb4 : V4 b = X b := Eq.trans (fp4.w.1 b (by omega) (by omega)) hb3
    show Wq MX8_parseYard 77 [some (.ref 54), some (.ref g), some (.int v1)] [] V4 r K4 _
    rw [et3] at ps4
    obtain ⟨t4, et4⟩ : ∃ z, z = if decide (nf T n A (w5 T n t1.2.2) yn 0 < 8) then rf 3 (sk T n t1.2.2) t2 else t2 := ⟨_, rfl⟩
    have eq_t4 : rf 3 (sk T n t1.2.2) t2 = t4 := by
      rw [et4]
      by_cases z : t2.1 = 0
      · rw [if_pos (by (have q := tnaT_0 (by rw [et2] at z; exact z); have key := ynV_e (A := A) (w5_lt q.1.2.1) (fun y hy => (cn0 y hy).2) yn 0 (by omega) y8; have l8 := nf_8 (T := T) (n := n) (A := A) (w := w5 T n t1.2.2) y8; rw [hxa q.1] at c68; exact decide_eq_true (Nat.lt_of_le_of_ne l8 (fun w => absurd (key.1 w) c68))))]
      · rw [rf_s z]
        cases (decide (nf T n A (w5 T n t1.2.2) yn 0 < 8)) <;> rfl
    rw [eq_t4] at ps4
    refine x_aload_n (q := 78) dX8_parseYard_77 rfl rfl ?_
    refine x_aload_n (q := 79) dX8_parseYard_78 rfl rfl ?_
    refine q_callV (ci := 8) (N := 5) (T := TX8) (As := []) (rest := [.ref g]) (q := 82) dX8_parseYard_79 rfl okX8_takeSort tw_682 rfl rfl (c_tso h4 ps4) rfl rfl (Nat.le_of_ble_eq_true rfl) ⟨by decide, by decide⟩ ⟨rfl, rfl⟩ (fun rv_ V5 r_ K5 hv_ => ?_)
    obtain ⟨x_79, a1_, hx_79, ps5, fp5, a3_⟩ := hv_
    rw [a1_, a3_]
    obtain ⟨t5, et5⟩ : ∃ z, z = tsoT T n t4 := ⟨_, rfl⟩
    rw [← et5] at ps5
    have ca5 := CA_f ca4 fp5.w hrg
    have fd5 := fd4.tr (FW.d (b := b) fp5.w)
    have cn5 := CN_f cn4 fp5.w hrg
    have hb5 : V5 b = X b := Eq.trans (fp5.w.1 b (by omega) (by omega)) hb4
    rw [← et5] at hx_79
    show Wq MX8_parseYard 82 [some (.ref 54), some (.ref g), some (.int v1)] [.int x_79, .ref g] V5 r K5 _
    refine q_pi (K := 1) (q := 85) dX8_parseYard_82 rfl cl_10 (by decide) tw_126 rfl rfl hg rfl (fun I31 eI31 => ?_)
    have ca6 : CA (upI A (10 + 2 * yn) 1 x_79) b I31 := by rw [eI31]; exact CA_g ca5 hgb (by omega)
    have rg6 : ∀ c, ¬ regL b c → I31 c = V5 c := fun c e => by rw [eI31, upc (fun z => e (by rw [z]; exact ⟨by omega, by omega⟩))]
    have ps6 := PS_d ps5 hrg rg6
    have fd6 := fd5.tr (FD.i rg6)
    have cn6 := cn5
    have hb6 : I31 b = X b := Eq.trans (by rw [eI31, upc (by omega)]) hb5
    refine x_aload_n (q := 86) dX8_parseYard_85 rfl rfl ?_
    refine x_bipush (12) (q := 88) dX8_parseYard_86 rfl (by decide) ?_
    refine q_callV (ci := 8) (N := 5) (T := TX8) (As := [.int 12]) (rest := []) (q := 91) dX8_parseYard_88 rfl okX8_takeKeyword tw_686 rfl rfl (c_tkw h4 ps6 (i := 12) (by decide)) rfl rfl (Nat.le_of_ble_eq_true rfl) ⟨by decide, by decide⟩ ⟨rfl, rfl⟩ (fun rv_ V7 r_ K7 hv_ => ?_)
    obtain ⟨a1_, ⟨ps7, fp7⟩, a3_⟩ := hv_
    rw [a1_, a3_]
    obtain ⟨t6, et6⟩ : ∃ z, z = tkw T n 12 t5 := ⟨_, rfl⟩
    rw [← et6] at ps7
    have ca7 := CA_f ca6 fp7.w hrg
    have fd7 := fd6.tr (FW.d (b := b) fp7.w)
    have cn7 := CN_f cn6 fp7.w hrg
    have hb7 : V7 b = X b := Eq.trans (fp7.w.1 b (by omega) (by omega)) hb6
    show Wq MX8_parseYard 91 [some (.ref 54), some (.ref g), some (.int v1)] [] V7 r K7 _
    refine x_aload_n (q := 92) dX8_parseYard_91 rfl rfl ?_
    refine x_aload_n (q := 93) dX8_parseYard_92 rfl rfl ?_
    refine x_iconst (0) (q := 94) dX8_parseYard_93 rfl (by decide) ?_
    refine x_bipush (99) (q := 96) dX8_parseYard_94 rfl (by decide) ?_
    refine q_callV (ci := 8) (N := 5) (T := TX8) (As := [.int 0, .int 99]) (rest := [.ref g]) (q := 99) dX8_parseYard_96 rfl okX8_takeNumber tw_690 rfl rfl (c_tnu h4 ps7 (lo := 0) (hi := 99) (by decide) (by decide)) rfl rfl (Nat.le_of_ble_eq_true rfl) ⟨by decide, by decide⟩ ⟨rfl, rfl⟩ (fun rv_ V8 r_ K8 hv_ => ?_)
    obtain ⟨x_96, a1_, hx_96, ps8, fp8, a3_⟩ := hv_
    rw [a1_, a3_]
    obtain ⟨t7, et7⟩ : ∃ z, z = tnuT T n 0 99 t6 := ⟨_, rfl⟩
    rw [← et7] at ps8
    have ca8 := CA_f ca7 fp8.w hrg
    have fd8 := fd7.tr (FW.d (b := b) fp8.w)
    have cn8 := CN_f cn7 fp8.w hrg
    have hb8 : V8 b = X b := Eq.trans (fp8.w.1 b (by omega) (by omega)) hb7
    rw [← et7] at hx_96
    show Wq MX8_parseYard 99 [some (.ref 54), some (.ref g), some (.int v1)] [.int x_96, .ref g] V8 r K8 _
    refine q_pi (K := 2) (q := 102) dX8_parseYard_99 rfl cl_10 (by decide) tw_128 rfl rfl hg rfl (fun I41 eI41 => ?_)
    have ca9 : CA (upI (upI A (10 + 2 * yn) 1 x_79) (10 + 2 * yn) 2 x_96) b I41 := by rw [eI41]; exact CA_g ca8 hgb (by omega)
    have rg9 : ∀ c, ¬ regL b c → I41 c = V8 c := fun c e => by rw [eI41, upc (fun z => e (by rw [z]; exact ⟨by omega, by omega⟩))]
    have ps9 := PS_d ps8 hrg rg9
    have fd9 := fd8.tr (FD.i rg9)
    have cn9 := cn8
    have hb9 : I41 b = X b := Eq.trans (by rw [eI41, upc (by omega)]) hb8
    refine x_aload_n (q := 103) dX8_parseYard_102 rfl rfl ?_
    refine x_bipush (13) (q := 105) dX8_parseYard_103 rfl (by decide) ?_
    refine q_callV (ci := 8) (N := 5) (T := TX8) (As := [.int 13]) (rest := []) (q := 108) dX8_parseYard_105 rfl okX8_takeKeyword tw_686 rfl rfl (c_tkw h4 ps9 (i := 13) (by decide)) rfl rfl (Nat.le_of_ble_eq_true rfl) ⟨by decide, by decide⟩ ⟨rfl, rfl⟩ (fun rv_ V10 r_ K10 hv_ => ?_)
    obtain ⟨a1_, ⟨ps10, fp10⟩, a3_⟩ := hv_
    rw [a1_, a3_]
    obtain ⟨t8, et8⟩ : ∃ z, z = tkw T n 13 t7 := ⟨_, rfl⟩
    rw [← et8] at ps10
    have ca10 := CA_f ca9 fp10.w hrg
    have fd10 := fd9.tr (FW.d (b := b) fp10.w)
    have cn10 := CN_f cn9 fp10.w hrg
    have hb10 : V10 b = X b := Eq.trans (fp10.w.1 b (by omega) (by omega)) hb9
    show Wq MX8_parseYard 108 [some (.ref 54), some (.ref g), some (.int v1)] [] V10 r K10 _
    refine x_aload_n (q := 109) dX8_parseYard_108 rfl rfl ?_
    refine x_aload_n (q := 110) dX8_parseYard_109 rfl rfl ?_
    refine x_iconst (0) (q := 111) dX8_parseYard_110 rfl (by decide) ?_
    refine x_bipush (99) (q := 113) dX8_parseYard_111 rfl (by decide) ?_
    refine q_callV (ci := 8) (N := 5) (T := TX8) (As := [.int 0, .int 99]) (rest := [.ref g]) (q := 116) dX8_parseYard_113 rfl okX8_takeNumber tw_690 rfl rfl (c_tnu h4 ps10 (lo := 0) (hi := 99) (by decide) (by decide)) rfl rfl (Nat.le_of_ble_eq_true rfl) ⟨by decide, by decide⟩ ⟨rfl, rfl⟩ (fun rv_ V11 r_ K11 hv_ => ?_)
    obtain ⟨x_113, a1_, hx_113, ps11, fp11, a3_⟩ := hv_
    rw [a1_, a3_]
    obtain ⟨t9, et9⟩ : ∃ z, z = tnuT T n 0 99 t8 := ⟨_, rfl⟩
    rw [← et9] at ps11
    have ca11 := CA_f ca10 fp11.w hrg
    have fd11 := fd10.tr (FW.d (b := b) fp11.w)
    have cn11 := CN_f cn10 fp11.w hrg
    have hb11 : V11 b = X b := Eq.trans (fp11.w.1 b (by omega) (by omega)) hb10
    rw [← et9] at hx_113
    show Wq MX8_parseYard 116 [some (.ref 54), some (.ref g), some (.int v1)] [.int x_113, .ref g] V11 r K11 _
    refine q_pi (K := 3) (q := 119) dX8_parseYard_116 rfl cl_10 (by decide) tw_130 rfl rfl hg rfl (fun I51 eI51 => ?_)
    have ca12 : CA (upI (upI (upI A (10 + 2 * yn) 1 x_79) (10 + 2 * yn) 2 x_96) (10 + 2 * yn) 3 x_113) b I51 := by rw [eI51]; exact CA_g ca11 hgb (by omega)
    have rg12 : ∀ c, ¬ regL b c → I51 c = V11 c := fun c e => by rw [eI51, upc (fun z => e (by rw [z]; exact ⟨by omega, by omega⟩))]
    have ps12 := PS_d ps11 hrg rg12
    have fd12 := fd11.tr (FD.i rg12)
    have cn12 := cn11
    have hb12 : I51 b = X b := Eq.trans (by rw [eI51, upc (by omega)]) hb11
    refine x_aload_n (q := 120) dX8_parseYard_119 rfl rfl ?_
    refine x_bipush (14) (q := 122) dX8_parseYard_120 rfl (by decide) ?_
    refine q_callV (ci := 8) (N := 5) (T := TX8) (As := [.int 14]) (rest := []) (q := 125) dX8_parseYard_122 rfl okX8_takeKeyword tw_686 rfl rfl (c_tkw h4 ps12 (i := 14) (by decide)) rfl rfl (Nat.le_of_ble_eq_true rfl) ⟨by decide, by decide⟩ ⟨rfl, rfl⟩ (fun rv_ V13 r_ K13 hv_ => ?_)
    obtain ⟨a1_, ⟨ps13, fp13⟩, a3_⟩ := hv_
    rw [a1_, a3_]
    obtain ⟨t10, et10⟩ : ∃ z, z = tkw T n 14 t9 := ⟨_, rfl⟩
    rw [← et10] at ps13
    have ca13 := CA_f ca12 fp13.w hrg
    have fd13 := fd12.tr (FW.d (b := b) fp13.w)
    have cn13 := CN_f cn12 fp13.w hrg
    have hb13 : V13 b = X b := Eq.trans (fp13.w.1 b (by omega) (by omega)) hb12
    show Wq MX8_parseYard 125 [some (.ref 54), some (.ref g), some (.int v1)] [] V13 r K13 _
    refine x_aload_n (q := 126) dX8_parseYard_125 rfl rfl ?_
    refine x_aload_n (q := 127) dX8_parseYard_126 rfl rfl ?_
    refine q_callV (ci := 8) (N := 5) (T := TX8) (As := [.ref g]) (rest := []) (q := 130) dX8_parseYard_127 rfl okX8_parseLayers tw_694 rfl rfl (c_ply h4 hrg hg hgb (by omega) ps13 ca13) rfl rfl (Nat.le_of_ble_eq_true rfl) ⟨by decide, by decide⟩ ⟨rfl, rfl⟩ (fun rv_ VF r_ KF hv_ => ?_)
    obtain ⟨a1_, ⟨psF, fdF, jlF, caF⟩, a3_⟩ := hv_
    rw [a1_, a3_]
    show Wq MX8_parseYard 130 [some (.ref 54), some (.ref g), some (.int v1)] [] VF r KF _
    refine x_aload_n (q := 131) dX8_parseYard_130 rfl rfl ?_
    refine q_gr (K := 1) (b := b) (q := 134) dX8_parseYard_131 rfl cl_8 (by decide) tw_366 rfl rfl (congrArg some h2) ?_
    refine x_dup (q := 135) dX8_parseYard_134 rfl rfl ?_
    refine q_gi (K := 1) (q := 138) dX8_parseYard_135 rfl cl_5 (by decide) tw_167 hb rfl ?_
    refine x_iconst (1) (q := 139) dX8_parseYard_138 rfl (by decide) ?_
    refine x_iadd (q := 140) dX8_parseYard_139 rfl ?_
    refine q_pi (K := 1) (q := 143) dX8_parseYard_140 rfl cl_5 (by decide) tw_167 rfl rfl hb rfl (fun I61 eI61 => ?_)
    refine q_vret dX8_parseYard_143 rfl ?_
    have e3 : yC T n A yn t1 = t4 := by unfold yC; rw [← et2, et4]
    have e4 : y4 T n A yn t1 = t6 := by unfold y4; rw [e3, et6, et5]
    have e6 : y6 T n A yn t1 = t8 := by unfold y6; rw [e4, et8, et7]
    have e9 : y9 T n A yn t1 = t10 := by unfold y9; rw [e6, et10, et9]
    have es : yaS T n A yn s = lyT T n t10 (laK T n t10 4 1) := by unfold yaS; rw [← et1, e9]
    refine ⟨rfl, ⟨by rw [es, eI61]; exact PS_g psF (by omega) (by omega) (by omega), ?_, fun z => ?_⟩, rfl⟩
    · rw [eI61]; exact (fd13.tr fdF).tr (FD_g ⟨by omega, by omega⟩)
    rw [es] at z
    have z9 : t10.1 = 0 := lyT_0 _ z
    have f_t10 := tkw_0 (by rw [et10] at z9; exact z9)
    have z_t9 : t9.1 = 0 := f_t10.1
    have f_t9 := tnuT_0 (by rw [et9] at z_t9; exact z_t9)
    have z_t8 : t8.1 = 0 := f_t9.1.1
    have f_t8 := tkw_0 (by rw [et8] at z_t8; exact z_t8)
    have z_t7 : t7.1 = 0 := f_t8.1
    have f_t7 := tnuT_0 (by rw [et7] at z_t7; exact z_t7)
    have z_t6 : t6.1 = 0 := f_t7.1.1
    have f_t6 := tkw_0 (by rw [et6] at z_t6; exact z_t6)
    have z_t5 : t5.1 = 0 := f_t6.1
    have f_t5 := tsoT_0 (by rw [et5] at z_t5; exact z_t5)
    have z_t4 : t4.1 = 0 := f_t5.1.1
    have f_t4 := cnd_0 (by rw [et4] at z_t4; exact z_t4) (by decide)
    have z_t2 : t2.1 = 0 := f_t4.2.1
    have f_t2 := tnaT_0 (by rw [et2] at z_t2; exact z_t2)
    have z_t1 : t1.1 = 0 := f_t2.1.1
    have z_s : s.1 = 0 := by rw [et1] at z_t1; exact z_t1
    have cF := caF z
    have ey : VF b 1 + 1 = nI (yn + 1) := by
      rw [cF.b, lyA_o (by omega) (by omega), upc (by omega), upc (by omega), upc (by omega), k1, nI_p1]
    have eA : yaA T n s A yn = upI (upI (lyA T n t10 (upI (upI (upI A (10 + 2 * yn) 1 x_79) (10 + 2 * yn) 2 x_96) (10 + 2 * yn) 3 x_113) (10 + 2 * yn) (laK T n t10 4 1)) 0 1 (nI (yn + 1))) 26 yn (nI t1.2.2) := by
      unfold yaA
      rw [hx_79 z_t5, hx_96 z_t7, hx_113 z_t9, ← et1, e9, e6, e4, e3]
    have p17 : t1.2.2 < 2 ^ 31 := by have := ps1.2.2.2.2.1; have := ps1.1.1; omega
    have hna := f_t2.1
    have kg_ : K13 g 0 = xa := by
      rw [fp13.2.1 g 0 (by omega), fp11.2.1 g 0 (by omega), fp10.2.1 g 0 (by omega), fp8.2.1 g 0 (by omega), fp7.2.1 g 0 (by omega), fp5.2.1 g 0 (by omega), fp4.2.1 g 0 (by omega), ejg]
    rw [eA]
    refine ⟨fun c hc => ?_, fun y hy => ?_, by rw [upc (by decide), upq], by rw [upc (by decide), ups (by decide), lyA_o (by omega) (by omega), upc (by omega), upc (by omega), upc (by omega)]; exact k5, by rw [upc (by decide), ups (by decide), lyA_o (by omega) (by omega), upc (by omega), upc (by omega), upc (by omega)]; exact k9, by rw [upc (by decide), ups (by decide), lyA_o (by omega) (by omega), upc (by omega), upc (by omega), upc (by omega)]; exact k12, by omega, w16, h12, s7_, tb, t256, by rw [upc (by decide), ups (by decide), lyA_o (by omega) (by omega), upc (by omega), upc (by omega), upc (by omega)]; exact k17⟩
    · rw [upc (by omega), eI61, ey]; exact CA_0 cF c hc
    · have ek : KF (b + 10 + 2 * y) 0 = K13 (b + 10 + 2 * y) 0 := jlF _ _ (by omega)
      rw [ek]
      by_cases e : y = yn
      · rw [e]
        have en : NM T n (upI (upI (lyA T n t10 (upI (upI (upI A (10 + 2 * yn) 1 x_79) (10 + 2 * yn) 2 x_96) (10 + 2 * yn) 3 x_113) (10 + 2 * yn) (laK T n t10 4 1)) 0 1 (nI (yn + 1))) 26 yn (nI t1.2.2)) yn = w5 T n t1.2.2 := by
          unfold NM; rw [upq, nI_clamp p17]
        rw [en, ← hg0]
        refine ⟨?_, w5_lt hna.2.1⟩
        rw [kg_]
        exact hxa hna
      · have en : NM T n (upI (upI (lyA T n t10 (upI (upI (upI A (10 + 2 * yn) 1 x_79) (10 + 2 * yn) 2 x_96) (10 + 2 * yn) 3 x_113) (10 + 2 * yn) (laK T n t10 4 1)) 0 1 (nI (yn + 1))) 26 yn (nI t1.2.2)) y = NM T n A y := by
          unfold NM; rw [ups e, upc (by decide), lyA_o (by omega) (by omega), upc (by omega), upc (by omega), upc (by omega)]
        rw [en]
        exact cn13 y (by omega)
