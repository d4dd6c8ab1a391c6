set_option maxRecDepth 100000 in
theorem c_pwy_f {T : Nat → Nat} {n : Nat} {r : MR} (h4 : r 4 = 1) {b : Nat} (h2 : r 2 = b) (hb : SH b = (15, 18)) (hrg : 2 ≤ b ∧ b + 26 ≤ 54) {X : MI} {J : MJ} {s : Nat × Nat × Nat} (h : PS T n s X J) {A : MI} {yn wn hn sn : Nat} (hD : CD T n A b yn wn hn sn X J) (hf : 16 ≤ wn) : Cq yX8_parseWay MX8_parseWay [.ref 54] X r J (RLn T n (rfT T n s) b (fun _ _ => False) X J r) := by
  obtain ⟨ca0, cn0, k1, k5, k9, k12, y8, w16, h12, s7_, tb, t256, k17⟩ := hD
  have fd0 : FD b X J X J := FD.rf
  have ps0 := h
  have hb0 : X b = X b := rfl
  have x1 : X b 1 = nI yn := by rw [ca0.b]; exact k1
  have x5 : X b 5 = nI wn := by rw [ca0.b]; exact k5
  have x9 : X b 9 = nI hn := by rw [ca0.b]; exact k9
  have x12 : X b 12 = nI sn := by rw [ca0.b]; exact k12
  refine cq_of [some (.ref 54), none, none, none] 3 (by decide +kernel) rfl rfl (Nat.le_of_ble_eq_true rfl) rfl ?_
  refine x_aload_n (q := 1) dX8_parseWay_0 rfl rfl ?_
  refine q_gr (K := 1) (b := b) (q := 4) dX8_parseWay_1 rfl cl_8 (by decide) tw_366 rfl rfl (congrArg some h2) ?_
  refine q_gi (K := 5) (q := 7) dX8_parseWay_4 rfl cl_5 (by decide) tw_187 hb rfl ?_
  refine x_bipush (16) (q := 9) dX8_parseWay_7 rfl (by decide) ?_
  refine x_icmp_lt (t := 17) (q := 12) dX8_parseWay_9 (by decide) rfl (fun c9 => absurd c9 (fun z => absurd ((nI_ltI (a := wn) (b := 16) (by omega) (by decide)).mp (by rw [x5] at z; exact z)) (by omega))) (fun c9 => ?_)
  refine x_aload_n (q := 13) dX8_parseWay_12 rfl rfl ?_
  refine q_callV (ci := 8) (N := 5) (T := TX8) (As := []) (rest := []) (q := 16) dX8_parseWay_13 rfl okX8_refuseToken tw_665 rfl rfl (c_rfT h4 ps0) rfl rfl (Nat.le_of_ble_eq_true rfl) ⟨by decide, by decide⟩ ⟨rfl, rfl⟩ (fun rv_ V1 r_ K1 hv_ => ?_)
  obtain ⟨a1_, ⟨ps1, fp1⟩, a3_⟩ := hv_
  rw [a1_, a3_]
  obtain ⟨t1, et1⟩ : ∃ z, z = rfT T n s := ⟨_, rfl⟩
  rw [← et1] at ps1
  have ca1 := CA_f ca0 fp1.w hrg
  have fd1 := fd0.tr (FW.d (b := b) fp1.w)
  have cn1 := CN_f cn0 fp1.w hrg
  have hb1 : V1 b = X b := Eq.trans (fp1.w.1 b (by omega) (by omega)) hb0
  show Wq MX8_parseWay 16 [some (.ref 54), none, none, none] [] V1 r K1 _
  refine q_vret dX8_parseWay_16 rfl ?_
  refine ⟨rfl, ⟨?_, fd1, fun z => absurd z rfT_n⟩, rfl⟩
  rw [← et1]; exact ps1
def wyF (A : MI) (wn f t : Nat) : Bool := decide (f = t) || hwF A (nI f) (nI t) wn
def wyC (T : Nat → Nat) (n : Nat) (A : MI) (yn wn : Nat) (s : Nat × Nat × Nat) : Nat × Nat × Nat := if wyF A wn (nf T n A (w5 T n s.2.2) yn 0) (nf T n A (w5 T n (tyaT T n A yn s).2.2) yn 0) then rf 3 (sk T n (tyaT T n A yn s).2.2) (tyaT T n A yn (tyaT T n A yn s)) else tyaT T n A yn (tyaT T n A yn s)
def wyS (T : Nat → Nat) (n : Nat) (A : MI) (yn wn : Nat) (s : Nat × Nat × Nat) : Nat × Nat × Nat := tnuT T n 1 60 (tkw T n 15 (wyC T n A yn wn (adv T n s)))
def wyA (T : Nat → Nat) (n : Nat) (s : Nat × Nat × Nat) (A : MI) (yn wn : Nat) : MI := upI (upI (upI (upI A 2 wn (nI (nf T n A (w5 T n (adv T n s).2.2) yn 0))) 3 wn (nI (nf T n A (w5 T n (tyaT T n A yn (adv T n s)).2.2) yn 0))) 4 wn (nI (vl T n (tkw T n 15 (wyC T n A yn wn (adv T n s))).2.2))) 0 5 (nI (wn + 1))
theorem nf_8 {T : Nat → Nat} {n : Nat} {A : MI} {w yn : Nat} (h8 : yn ≤ 8) : nf T n A w yn 0 ≤ 8 := by
  rcases nf_le (T := T) (n := n) (A := A) (w := w) yn 0 (by omega) with ⟨q, -, -⟩ | ⟨q, -⟩ <;> omega
theorem wyF_a {A : MI} {wn f t : Nat} (h : f = t) : wyF A wn f t = true := by unfold wyF; rw [h]; simp
theorem wyF_b {A : MI} {wn f t : Nat} (h : hwF A (nI f) (nI t) wn = true) : wyF A wn f t = true := by unfold wyF; rw [h]; simp
theorem wyF_n {A : MI} {wn f t : Nat} (h : ¬ f = t) (h2 : ¬ hwF A (nI f) (nI t) wn = true) : ¬ wyF A wn f t = true := by
  unfold wyF
  rw [decide_eq_false h, eq_false_of_ne_true h2]
  decide
set_option maxRecDepth 100000 in
theorem c_pwy {T : Nat → Nat} {n : Nat} {r : MR} (h4 : r 4 = 1) {b : Nat} (h2 : r 2 = b) (hb : SH b = (15, 18)) (hrg : 2 ≤ b ∧ b + 26 ≤ 54) {X : MI} {J : MJ} {s : Nat × Nat × Nat} (h : PS T n s X J) {A : MI} {yn wn hn sn : Nat} (hD : CD T n A b yn wn hn sn X J) (hf : wn < 16) : Cq yX8_parseWay MX8_parseWay [.ref 54] X r J (RLn T n (wyS T n A yn wn s) b (CD T n (wyA T n s A yn wn) b yn (wn + 1) hn sn) X J r) := by
  obtain ⟨ca0, cn0, k1, k5, k9, k12, y8, w16, h12, s7_, tb, t256, k17⟩ := hD
  have fd0 : FD b X J X J := FD.rf
  have ps0 := h
  have hb0 : X b = X b := rfl
  have x1 : X b 1 = nI yn := by rw [ca0.b]; exact k1
  have x5 : X b 5 = nI wn := by rw [ca0.b]; exact k5
  have x9 : X b 9 = nI hn := by rw [ca0.b]; exact k9
  have x12 : X b 12 = nI sn := by rw [ca0.b]; exact k12
  refine cq_of [some (.ref 54), none, none, none] 3 (by decide +kernel) rfl rfl (Nat.le_of_ble_eq_true rfl) rfl ?_
  refine x_aload_n (q := 1) dX8_parseWay_0 rfl rfl ?_
  refine q_gr (K := 1) (b := b) (q := 4) dX8_parseWay_1 rfl cl_8 (by decide) tw_366 rfl rfl (congrArg some h2) ?_
  refine q_gi (K := 5) (q := 7) dX8_parseWay_4 rfl cl_5 (by decide) tw_187 hb rfl ?_
  refine x_bipush (16) (q := 9) dX8_parseWay_7 rfl (by decide) ?_
  refine x_icmp_lt (t := 17) (q := 12) dX8_parseWay_9 (by decide) rfl (fun c9 => ?_) (fun c9 => absurd c9 (fun z => z (by rw [x5]; exact nI_lt (b := 16) (by omega) (by decide))))
  refine x_aload_n (q := 18) dX8_parseWay_17 rfl rfl ?_
  refine q_gr (K := 0) (b := 55) (q := 21) dX8_parseWay_18 rfl cl_8 (by decide) tw_365 rfl rfl rfl ?_
  refine q_callV (ci := 6) (N := 9) (T := TX6) (As := []) (rest := []) (q := 24) dX8_parseWay_21 rfl okX6_advance tw_673 rfl rfl (c_advP h4 ps0) rfl rfl (Nat.le_of_ble_eq_true rfl) ⟨by decide, by decide⟩ ⟨rfl, rfl⟩ (fun rv_ V1 r_ K1 hv_ => ?_)
  obtain ⟨a1_, ⟨ps1, fp1⟩, a3_⟩ := hv_
  rw [a1_, a3_]
  obtain ⟨t1, et1⟩ : ∃ z, z = adv T n s := ⟨_, rfl⟩
  rw [← et1] at ps1
  have ca1 := CA_f ca0 fp1.w hrg
  have fd1 := fd0.tr (FW.d (b := b) fp1.w)
  have cn1 := CN_f cn0 fp1.w hrg
  have hb1 : V1 b = X b := Eq.trans (fp1.w.1 b (by omega) (by omega)) hb0
  show Wq MX8_parseWay 24 [some (.ref 54), none, none, none] [] V1 r K1 _
  refine x_aload_n (q := 25) dX8_parseWay_24 rfl rfl ?_
  refine q_callV (ci := 8) (N := 5) (T := TX8) (As := []) (rest := []) (q := 28) dX8_parseWay_25 rfl okX8_takeYard tw_710 rfl rfl (c_tya h4 ps1 h2 hb cn1 (by rw [hb1]; exact x1) y8 hrg.2) rfl rfl (Nat.le_of_ble_eq_true rfl) ⟨by decide, by decide⟩ ⟨rfl, rfl⟩ (fun rv_ V2 r_ K2 hv_ => ?_)
  obtain ⟨x_25, a1_, hx_25, ps2, fp2, a3_⟩ := hv_
  rw [a1_, a3_]
  obtain ⟨t2, et2⟩ : ∃ z, z = tyaT T n A yn t1 := ⟨_, rfl⟩
  rw [← et2] at ps2
  have ca2 := CA_f ca1 fp2.w hrg
  have fd2 := fd1.tr (FW.d (b := b) fp2.w)
  have cn2 := CN_f cn1 fp2.w hrg
  have hb2 : V2 b = X b := Eq.trans (fp2.w.1 b (by omega) (by omega)) hb1
  rw [← et2] at hx_25
  show Wq MX8_parseWay 28 [some (.ref 54), none, none, none] [.int x_25] V2 r K2 _
  refine x_istore_n (L2 := [some (.ref 54), some (.int x_25), none, none]) (q := 29) dX8_parseWay_28 rfl (by decide) rfl rfl ?_
  refine x_aload_n (q := 30) dX8_parseWay_29 rfl rfl ?_
  refine q_gr (K := 0) (b := 55) (q := 33) dX8_parseWay_30 rfl cl_8 (by decide) tw_365 rfl rfl rfl ?_
  refine q_gi (K := 5) (q := 36) dX8_parseWay_33 rfl cl_6 (by decide) tw_338 rfl rfl ?_
  refine x_nmi (fun v1 ev1 => ?_)
  refine x_istore_n (L2 := [some (.ref 54), some (.int x_25), some (.int v1), none]) (q := 37) dX8_parseWay_36 rfl (by decide) rfl rfl ?_
  have evp : v1 = nI (sk T n t2.2.2) := by rw [ev1]; exact ps2.2.2.2.2.2.2.2.2.2.1
  refine x_aload_n (q := 38) dX8_parseWay_37 rfl rfl ?_
  refine q_callV (ci := 8) (N := 5) (T := TX8) (As := []) (rest := []) (q := 41) dX8_parseWay_38 rfl okX8_takeYard tw_710 rfl rfl (c_tya h4 ps2 h2 hb cn2 (by rw [hb2]; exact x1) y8 hrg.2) rfl rfl (Nat.le_of_ble_eq_true rfl) ⟨by decide, by decide⟩ ⟨rfl, rfl⟩ (fun rv_ V3 r_ K3 hv_ => ?_)
  obtain ⟨x_38, a1_, hx_38, ps3, fp3, a3_⟩ := hv_
  rw [a1_, a3_]
  obtain ⟨t3, et3⟩ : ∃ z, z = tyaT T n A yn t2 := ⟨_, rfl⟩
  rw [← et3] at ps3
  have ca3 := CA_f ca2 fp3.w hrg
  have fd3 := fd2.tr (FW.d (b := b) fp3.w)
  have cn3 := CN_f cn2 fp3.w hrg
  have hb3 : V3 b = X b := Eq.trans (fp3.w.1 b (by omega) (by omega)) hb2
  rw [← et3] at hx_38
  show Wq MX8_parseWay 41 [some (.ref 54), some (.int x_25), some (.int v1), none] [.int x_38] V3 r K3 _
  refine x_istore_n (L2 := [some (.ref 54), some (.int x_25), some (.int v1), some (.int x_38)]) (q := 42) dX8_parseWay_41 rfl (by decide) rfl rfl ?_
  refine x_iload_n (q := 43) dX8_parseWay_42 rfl rfl ?_
  refine x_iload_n (q := 44) dX8_parseWay_43 rfl rfl ?_
  refine x_icmp_eq (t := 59) (q := 47) dX8_parseWay_44 (by decide) rfl (fun c44 => ?_) (fun c44 => ?_)
  · refine x_aload_n (q := 60) dX8_parseWay_59 rfl rfl ?_
    refine x_iconst (3) (q := 61) dX8_parseWay_60 rfl (by decide) ?_
    refine x_iload_n (q := 62) dX8_parseWay_61 rfl rfl ?_
    refine q_callV (ci := 8) (N := 5) (T := TX8) (As := [.int 3, .int v1]) (rest := []) (q := 65) dX8_parseWay_62 rfl okX8_refuse tw_669 rfl rfl (by rw [evp]; exact c_ref h4 ps3 (k := 3) (g := sk T n t2.2.2) (by decide)) rfl rfl (Nat.le_of_ble_eq_true rfl) ⟨by decide, by decide⟩ ⟨rfl, rfl⟩ (fun rv_ V4 r_ K4 hv_ => ?_)
    obtain ⟨a1_, ⟨ps4, fp4⟩, a3_⟩ := hv_
    rw [a1_, a3_]
    obtain ⟨t4, et4⟩ : ∃ z, z = rf 3 (sk T n t2.2.2) t3 := ⟨_, rfl⟩
    rw [← et4] at ps4
    have ca4 := CA_f ca3 fp4.w hrg
    have fd4 := fd3.tr (FW.d (b := b) fp4.w)
    have cn4 := CN_f cn3 fp4.w hrg
    have hb4 : V4 b = X b := Eq.trans (fp4.w.1 b (by omega) (by omega)) hb3
    show Wq MX8_parseWay 65 [some (.ref 54), some (.int x_25), some (.int v1), some (.int x_38)] [] V4 r K4 _
    rw [et4] at ps4
    obtain ⟨t5, et5⟩ : ∃ z, z = if wyF A wn (nf T n A (w5 T n t1.2.2) yn 0) (nf T n A (w5 T n t2.2.2) yn 0) then rf 3 (sk T n t2.2.2) t3 else t3 := ⟨_, rfl⟩
    have eq_t5 : rf 3 (sk T n t2.2.2) t3 = t5 := by
      rw [et5]
      by_cases z : t3.1 = 0
      · rw [if_pos (by (have z2 : t2.1 = 0 := (tyaT_0 (by rw [et3] at z; exact z)).1.1; have q1 := hx_25 z2; have q2 := hx_38 z; have l1 := nf_8 (T := T) (n := n) (A := A) (w := w5 T n t1.2.2) y8; have l2 := nf_8 (T := T) (n := n) (A := A) (w := w5 T n t2.2.2) y8; rw [q1, q2] at c44; first | exact wyF_a ((nI_eq (by omega) (by omega)).mp c44) | (rw [q1, q2] at c56; exact wyF_b (bb_1 c56))))]
      · rw [rf_s z]
        cases (wyF A wn (nf T n A (w5 T n t1.2.2) yn 0) (nf T n A (w5 T n t2.2.2) yn 0)) <;> rfl
    rw [eq_t5] at ps4
    refine x_aload_n (q := 66) dX8_parseWay_65 rfl rfl ?_
    refine x_bipush (15) (q := 68) dX8_parseWay_66 rfl (by decide) ?_
    refine q_callV (ci := 8) (N := 5) (T := TX8) (As := [.int 15]) (rest := []) (q := 71) dX8_parseWay_68 rfl okX8_takeKeyword tw_686 rfl rfl (c_tkw h4 ps4 (i := 15) (by decide)) rfl rfl (Nat.le_of_ble_eq_true rfl) ⟨by decide, by decide⟩ ⟨rfl, rfl⟩ (fun rv_ V5 r_ K5 hv_ => ?_)
    obtain ⟨a1_, ⟨ps5, fp5⟩, a3_⟩ := hv_
    rw [a1_, a3_]
    obtain ⟨t6, et6⟩ : ∃ z, z = tkw T n 15 t5 := ⟨_, rfl⟩
    rw [← et6] at ps5
    have ca5 := CA_f ca4 fp5.w hrg
    have fd5 := fd4.tr (FW.d (b := b) fp5.w)
    have cn5 := CN_f cn4 fp5.w hrg
    have hb5 : V5 b = X b := Eq.trans (fp5.w.1 b (by omega) (by omega)) hb4
    show Wq MX8_parseWay 71 [some (.ref 54), some (.int x_25), some (.int v1), some (.int x_38)] [] V5 r K5 _
    refine x_aload_n (q := 72) dX8_parseWay_71 rfl rfl ?_
    refine q_gr (K := 1) (b := b) (q := 75) dX8_parseWay_72 rfl cl_8 (by decide) tw_366 rfl rfl (congrArg some h2) ?_
    refine q_gr (K := 2) (b := (b + 2)) (q := 78) dX8_parseWay_75 rfl cl_5 (by decide) tw_175 hb rfl (lr_w hb _).2.1 ?_
    refine x_aload_n (q := 79) dX8_parseWay_78 rfl rfl ?_
    refine q_gr (K := 1) (b := b) (q := 82) dX8_parseWay_79 rfl cl_8 (by decide) tw_366 rfl rfl (congrArg some h2) ?_
    refine q_gi (K := 5) (q := 85) dX8_parseWay_82 rfl cl_5 (by decide) tw_187 hb rfl ?_
    refine x_iload_n (q := 86) dX8_parseWay_85 rfl rfl ?_
    refine q_iast (q := 87) dX8_parseWay_86 rfl (ls_w hb).2.1 (by rw [hb5, x5]; exact vp_in_nI (by omega) (by decide)) (fun I21 eI21 => ?_)
    rw [hb5, x5, nI_clamp (by omega)] at eI21
    have ca6 : CA (upI A 2 wn x_25) b I21 := by rw [eI21]; exact CA_u ca5 (by decide)
    have rg6 : ∀ c, ¬ regL b c → I21 c = V5 c := fun c e => by rw [eI21, upc (fun z => e (by rw [z]; exact ⟨by omega, by omega⟩))]
    have ps6 := PS_d ps5 hrg rg6
    have fd6 := fd5.tr (FD.i rg6)
    have cn6 := cn5
    have hb6 : I21 b = X b := Eq.trans (by rw [eI21, upc (by omega)]) hb5
    refine x_aload_n (q := 88) dX8_parseWay_87 rfl rfl ?_
    refine q_gr (K := 1) (b := b) (q := 91) dX8_parseWay_88 rfl cl_8 (by decide) tw_366 rfl rfl (congrArg some h2) ?_
    refine q_gr (K := 3) (b := (b + 3)) (q := 94) dX8_parseWay_91 rfl cl_5 (by decide) tw_179 hb rfl (lr_w hb _).2.2.1 ?_
    refine x_aload_n (q := 95) dX8_parseWay_94 rfl rfl ?_
    refine q_gr (K := 1) (b := b) (q := 98) dX8_parseWay_95 rfl cl_8 (by decide) tw_366 rfl rfl (congrArg some h2) ?_
    refine q_gi (K := 5) (q := 101) dX8_parseWay_98 rfl cl_5 (by decide) tw_187 hb rfl ?_
    refine x_iload_n (q := 102) dX8_parseWay_101 rfl rfl ?_
    refine q_iast (q := 103) dX8_parseWay_102 rfl (ls_w hb).2.2.1 (by rw [hb6, x5]; exact vp_in_nI (by omega) (by decide)) (fun I41 eI41 => ?_)
    rw [hb6, x5, nI_clamp (by omega)] at eI41
    have ca7 : CA (upI (upI A 2 wn x_25) 3 wn x_38) b I41 := by rw [eI41]; exact CA_u ca6 (by decide)
    have rg7 : ∀ c, ¬ regL b c → I41 c = I21 c := fun c e => by rw [eI41, upc (fun z => e (by rw [z]; exact ⟨by omega, by omega⟩))]
    have ps7 := PS_d ps6 hrg rg7
    have fd7 := fd6.tr (FD.i rg7)
    have cn7 := cn6
    have hb7 : I41 b = X b := Eq.trans (by rw [eI41, upc (by omega)]) hb6
    refine x_aload_n (q := 104) dX8_parseWay_103 rfl rfl ?_
    refine q_gr (K := 1) (b := b) (q := 107) dX8_parseWay_104 rfl cl_8 (by decide) tw_366 rfl rfl (congrArg some h2) ?_
    refine q_gr (K := 4) (b := (b + 4)) (q := 110) dX8_parseWay_107 rfl cl_5 (by decide) tw_183 hb rfl (lr_w hb _).2.2.2.1 ?_
    refine x_aload_n (q := 111) dX8_parseWay_110 rfl rfl ?_
    refine q_gr (K := 1) (b := b) (q := 114) dX8_parseWay_111 rfl cl_8 (by decide) tw_366 rfl rfl (congrArg some h2) ?_
    refine q_gi (K := 5) (q := 117) dX8_parseWay_114 rfl cl_5 (by decide) tw_187 hb rfl ?_
    refine x_aload_n (q := 118) dX8_parseWay_117 rfl rfl ?_
    refine x_iconst (1) (q := 119) dX8_parseWay_118 rfl (by decide) ?_
    refine x_bipush (60) (q := 121) dX8_parseWay_119 rfl (by decide) ?_
    refine q_callV (ci := 8) (N := 5) (T := TX8) (As := [.int 1, .int 60]) (rest := [.int (I41 b 5), .ref (b + 4)]) (q := 124) dX8_parseWay_121 rfl okX8_takeNumber tw_690 rfl rfl (c_tnu h4 ps7 (lo := 1) (hi := 60) (by decide) (by decide)) rfl rfl (Nat.le_of_ble_eq_true rfl) ⟨by decide, by decide⟩ ⟨rfl, rfl⟩ (fun rv_ V8 r_ K8 hv_ => ?_)
    obtain ⟨x_121, a1_, hx_121, ps8, fp8, a3_⟩ := hv_
    rw [a1_, a3_]
    obtain ⟨t7, et7⟩ : ∃ z, z = tnuT T n 1 60 t6 := ⟨_, rfl⟩
    rw [← et7] at ps8
    have ca8 := CA_f ca7 fp8.w hrg
    have fd8 := fd7.tr (FW.d (b := b) fp8.w)
    have cn8 := CN_f cn7 fp8.w hrg
    have hb8 : V8 b = X b := Eq.trans (fp8.w.1 b (by omega) (by omega)) hb7
    rw [← et7] at hx_121
    show Wq MX8_parseWay 124 [some (.ref 54), some (.int x_25), some (.int v1), some (.int x_38)] [.int x_121, .int (I41 b 5), .ref (b + 4)] V8 r K8 _
    refine q_iast (q := 125) dX8_parseWay_124 rfl (ls_w hb).2.2.2.1 (by rw [hb7, x5]; exact vp_in_nI (by omega) (by decide)) (fun I51 eI51 => ?_)
    rw [hb7, x5, nI_clamp (by omega)] at eI51
    have ca9 : CA (upI (upI (upI A 2 wn x_25) 3 wn x_38) 4 wn x_121) b I51 := by rw [eI51]; exact CA_u ca8 (by decide)
    have rg9 : ∀ c, ¬ regL b c → I51 c = V8 c := fun c e => by rw [eI51, upc (fun z => e (by rw [z]; exact ⟨by omega, by omega⟩))]
    have ps9 := PS_d ps8 hrg rg9
    have fd9 := fd8.tr (FD.i rg9)
    have cn9 := cn8
    have hb9 : I51 b = X b := Eq.trans (by rw [eI51, upc (by omega)]) hb8
    refine x_aload_n (q := 126) dX8_parseWay_125 rfl rfl ?_
    refine q_gr (K := 1) (b := b) (q := 129) dX8_parseWay_126 rfl cl_8 (by decide) tw_366 rfl rfl (congrArg some h2) ?_
    refine x_dup (q := 130) dX8_parseWay_129 rfl rfl ?_
    refine q_gi (K := 5) (q := 133) dX8_parseWay_130 rfl cl_5 (by decide) tw_187 hb rfl ?_
    refine x_iconst (1) (q := 134) dX8_parseWay_133 rfl (by decide) ?_
    refine x_iadd (q := 135) dX8_parseWay_134 rfl ?_
    refine q_pi (K := 5) (q := 138) dX8_parseWay_135 rfl cl_5 (by decide) tw_187 rfl rfl hb rfl (fun I61 eI61 => ?_)
    refine q_vret dX8_parseWay_138 rfl ?_
    rw [hb9, x5, nI_p1] at eI61
    have ca10 : CA (upI (upI (upI (upI A 2 wn x_25) 3 wn x_38) 4 wn x_121) 0 5 (nI (wn + 1))) b I61 := by rw [eI61]; exact CA_0 ca9
    have rg10 : ∀ c, ¬ regL b c → I61 c = I51 c := fun c e => by rw [eI61, upc (fun z => e (by rw [z]; exact ⟨by omega, by omega⟩))]
    have ps10 := PS_d ps9 hrg rg10
    have fd10 := fd9.tr (FD.i rg10)
    have cn10 := cn9
    have ec : wyC T n A yn wn (adv T n s) = t5 := by unfold wyC; rw [← et1, ← et2, ← et3, et5]
    have es : wyS T n A yn wn s = t7 := by unfold wyS; rw [ec, et7, et6]
    refine ⟨rfl, ⟨by rw [es]; exact ps10, fd10, fun z => ?_⟩, rfl⟩
    rw [es] at z
    have f_t7 := tnuT_0 (by rw [et7] at z; exact z)
    have z_t6 : t6.1 = 0 := f_t7.1.1
    have f_t6 := tkw_0 (by rw [et6] at z_t6; exact z_t6)
    have z_t5 : t5.1 = 0 := f_t6.1
    have f_t5 := cnd_0 (by rw [et5] at z_t5; exact z_t5) (by decide)
    have z_t3 : t3.1 = 0 := f_t5.2.1
    have f_t3 := tyaT_0 (by rw [et3] at z_t3; exact z_t3)
    have z_t2 : t2.1 = 0 := f_t3.1.1
    have f_t2 := tyaT_0 (by rw [et2] at z_t2; exact z_t2)
    have z_t1 : t1.1 = 0 := f_t2.1.1
    have z_s : s.1 = 0 := by rw [et1] at z_t1; exact z_t1
    have eA : wyA T n s A yn wn = upI (upI (upI (upI A 2 wn x_25) 3 wn x_38) 4 wn x_121) 0 5 (nI (wn + 1)) := by
      unfold wyA
      rw [hx_25 z_t2, hx_38 z_t3, hx_121 z, ec, ← et1, ← et2, ← et6]
    rw [eA]
    exact ⟨ca10, CN_u cn10 (by rw [upc (by decide), upc (by decide), upc (by decide), upc (by decide)]), by rw [ups (by decide), upc (by decide), upc (by decide), upc (by decide)]; exact k1, by rw [upq], by rw [ups (by decide), upc (by decide), upc (by decide), upc (by decide)]; exact k9, by rw [ups (by decide), upc (by decide), upc (by decide), upc (by decide)]; exact k12, y8, by omega, h12, s7_, tb, t256, by rw [ups (by decide), upc (by decide), upc (by decide), upc (by decide)]; exact k17⟩
  · refine x_aload_n (q := 48) dX8_parseWay_47 rfl rfl ?_
    refine q_gr (K := 1) (b := b) (q := 51) dX8_parseWay_48 rfl cl_8 (by decide) tw_366 rfl rfl (congrArg some h2) ?_
    refine x_iload_n (q := 52) dX8_parseWay_51 rfl rfl ?_
    refine x_iload_n (q := 53) dX8_parseWay_52 rfl rfl ?_
    refine q_callV (ci := 5) (N := 18) (T := TX5) (As := [.int x_25, .int x_38]) (rest := []) (q := 56) dX8_parseWay_53 rfl okX5_hasWay tw_714 hb rfl (c_hwy hb ca3 r K3 (by rw [hb3]; exact x5) w16 x_25 x_38) rfl rfl (Nat.le_of_ble_eq_true rfl) ⟨by decide, by decide⟩ ⟨rfl, rfl⟩ (fun rv_ I_ r_ J_ hv_ => ?_)
    obtain ⟨a1_, a2_, a3_, a4_⟩ := hv_
    rw [a1_, a2_, a3_, a4_]
    show Wq MX8_parseWay 56 [some (.ref 54), some (.int x_25), some (.int v1), some (.int x_38)] [.int (if hwF A x_25 x_38 wn then 1 else 0)] V3 r K3 _
    refine x_if_eq (t := 65) (q := 59) dX8_parseWay_56 (by decide) rfl (fun c56 => ?_) (fun c56 => ?_)
    · obtain ⟨t4, et4⟩ : ∃ z, z = if wyF A wn (nf T n A (w5 T n t1.2.2) yn 0) (nf T n A (w5 T n t2.2.2) yn 0) then rf 3 (sk T n t2.2.2) t3 else t3 := ⟨_, rfl⟩
      have eq_t4 : t3 = t4 := by
        rw [et4]
        by_cases z : t3.1 = 0
        · rw [if_neg (by (have z2 : t2.1 = 0 := (tyaT_0 (by rw [et3] at z; exact z)).1.1; have q1 := hx_25 z2; have q2 := hx_38 z; have l1 := nf_8 (T := T) (n := n) (A := A) (w := w5 T n t1.2.2) y8; have l2 := nf_8 (T := T) (n := n) (A := A) (w := w5 T n t2.2.2) y8; rw [q1, q2] at c44 c56; exact wyF_n (fun y => c44 (by rw [y])) (bb_0 c56)))]
        · rw [rf_s z]
          cases (wyF A wn (nf T n A (w5 T n t1.2.2) yn 0) (nf T n A (w5 T n t2.2.2) yn 0)) <;> rfl
      rw [eq_t4] at ps3
      refine x_aload_n (q := 66) dX8_parseWay_65 rfl rfl ?_
      refine x_bipush (15) (q := 68) dX8_parseWay_66 rfl (by decide) ?_
      refine q_callV (ci := 8) (N := 5) (T := TX8) (As := [.int 15]) (rest := []) (q := 71) dX8_parseWay_68 rfl okX8_takeKeyword tw_686 rfl rfl (c_tkw h4 ps3 (i := 15) (by decide)) rfl rfl (Nat.le_of_ble_eq_true rfl) ⟨by decide, by decide⟩ ⟨rfl, rfl⟩ (fun rv_ V4 r_ K4 hv_ => ?_)
      obtain ⟨a1_, ⟨ps4, fp4⟩, a3_⟩ := hv_
      rw [a1_, a3_]
      obtain ⟨t5, et5⟩ : ∃ z, z = tkw T n 15 t4 := ⟨_, rfl⟩
      rw [← et5] at ps4
      have ca4 := CA_f ca3 fp4.w hrg
      have fd4 := fd3.tr (FW.d (b := b) fp4.w)
      have cn4 := CN_f cn3 fp4.w hrg
      have hb4 : V4 b = X b := Eq.trans (fp4.w.1 b (by omega) (by omega)) hb3
      show Wq MX8_parseWay 71 [some (.ref 54), some (.int x_25), some (.int v1), some (.int x_38)] [] V4 r K4 _
      refine x_aload_n (q := 72) dX8_parseWay_71 rfl rfl ?_
      refine q_gr (K := 1) (b := b) (q := 75) dX8_parseWay_72 rfl cl_8 (by decide) tw_366 rfl rfl (congrArg some h2) ?_
      refine q_gr (K := 2) (b := (b + 2)) (q := 78) dX8_parseWay_75 rfl cl_5 (by decide) tw_175 hb rfl (lr_w hb _).2.1 ?_
      refine x_aload_n (q := 79) dX8_parseWay_78 rfl rfl ?_
      refine q_gr (K := 1) (b := b) (q := 82) dX8_parseWay_79 rfl cl_8 (by decide) tw_366 rfl rfl (congrArg some h2) ?_
      refine q_gi (K := 5) (q := 85) dX8_parseWay_82 rfl cl_5 (by decide) tw_187 hb rfl ?_
      refine x_iload_n (q := 86) dX8_parseWay_85 rfl rfl ?_
      refine q_iast (q := 87) dX8_parseWay_86 rfl (ls_w hb).2.1 (by rw [hb4, x5]; exact vp_in_nI (by omega) (by decide)) (fun I21 eI21 => ?_)
      rw [hb4, x5, nI_clamp (by omega)] at eI21
      have ca5 : CA (upI A 2 wn x_25) b I21 := by rw [eI21]; exact CA_u ca4 (by decide)
      have rg5 : ∀ c, ¬ regL b c → I21 c = V4 c := fun c e => by rw [eI21, upc (fun z => e (by rw [z]; exact ⟨by omega, by omega⟩))]
      have ps5 := PS_d ps4 hrg rg5
      have fd5 := fd4.tr (FD.i rg5)
      have cn5 := cn4
      have hb5 : I21 b = X b := Eq.trans (by rw [eI21, upc (by omega)]) hb4
      refine x_aload_n (q := 88) dX8_parseWay_87 rfl rfl ?_
      refine q_gr (K := 1) (b := b) (q := 91) dX8_parseWay_88 rfl cl_8 (by decide) tw_366 rfl rfl (congrArg some h2) ?_
      refine q_gr (K := 3) (b := (b + 3)) (q := 94) dX8_parseWay_91 rfl cl_5 (by decide) tw_179 hb rfl (lr_w hb _).2.2.1 ?_
      refine x_aload_n (q := 95) dX8_parseWay_94 rfl rfl ?_
      refine q_gr (K := 1) (b := b) (q := 98) dX8_parseWay_95 rfl cl_8 (by decide) tw_366 rfl rfl (congrArg some h2) ?_
      refine q_gi (K := 5) (q := 101) dX8_parseWay_98 rfl cl_5 (by decide) tw_187 hb rfl ?_
      refine x_iload_n (q := 102) dX8_parseWay_101 rfl rfl ?_
      refine q_iast (q := 103) dX8_parseWay_102 rfl (ls_w hb).2.2.1 (by rw [hb5, x5]; exact vp_in_nI (by omega) (by decide)) (fun I41 eI41 => ?_)
      rw [hb5, x5, nI_clamp (by omega)] at eI41
      have ca6 : CA (upI (upI A 2 wn x_25) 3 wn x_38) b I41 := by rw [eI41]; exact CA_u ca5 (by decide)
      have rg6 : ∀ c, ¬ regL b c → I41 c = I21 c := fun c e => by rw [eI41, upc (fun z => e (by rw [z]; exact ⟨by omega, by omega⟩))]
      have ps6 := PS_d ps5 hrg rg6
      have fd6 := fd5.tr (FD.i rg6)
      have cn6 := cn5
      have hb6 : I41 b = X b := Eq.trans (by rw [eI41, upc (by omega)]) hb5
      refine x_aload_n (q := 104) dX8_parseWay_103 rfl rfl ?_
      refine q_gr (K := 1) (b := b) (q := 107) dX8_parseWay_104 rfl cl_8 (by decide) tw_366 rfl rfl (congrArg some h2) ?_
      refine q_gr (K := 4) (b := (b + 4)) (q := 110) dX8_parseWay_107 rfl cl_5 (by decide) tw_183 hb rfl (lr_w hb _).2.2.2.1 ?_
      refine x_aload_n (q := 111) dX8_parseWay_110 rfl rfl ?_
      refine q_gr (K := 1) (b := b) (q := 114) dX8_parseWay_111 rfl cl_8 (by decide) tw_366 rfl rfl (congrArg some h2) ?_
      refine q_gi (K := 5) (q := 117) dX8_parseWay_114 rfl cl_5 (by decide) tw_187 hb rfl ?_
      refine x_aload_n (q := 118) dX8_parseWay_117 rfl rfl ?_
      refine x_iconst (1) (q := 119) dX8_parseWay_118 rfl (by decide) ?_
      refine x_bipush (60) (q := 121) dX8_parseWay_119 rfl (by decide) ?_
      refine q_callV (ci := 8) (N := 5) (T := TX8) (As := [.int 1, .int 60]) (rest := [.int (I41 b 5), .ref (b + 4)]) (q := 124) dX8_parseWay_121 rfl okX8_takeNumber tw_690 rfl rfl (c_tnu h4 ps6 (lo := 1) (hi := 60) (by decide) (by decide)) rfl rfl (Nat.le_of_ble_eq_true rfl) ⟨by decide, by decide⟩ ⟨rfl, rfl⟩ (fun rv_ V7 r_ K7 hv_ => ?_)
      obtain ⟨x_121, a1_, hx_121, ps7, fp7, a3_⟩ := hv_
      rw [a1_, a3_]
      obtain ⟨t6, et6⟩ : ∃ z, z = tnuT T n 1 60 t5 := ⟨_, rfl⟩
      rw [← et6] at ps7
      have ca7 := CA_f ca6 fp7.w hrg
      have fd7 := fd6.tr (FW.d (b := b) fp7.w)
      have cn7 := CN_f cn6 fp7.w hrg
      have hb7 : V7 b = X b := Eq.trans (fp7.w.1 b (by omega) (by omega)) hb6
      rw [← et6] at hx_121
      show Wq MX8_parseWay 124 [some (.ref 54), some (.int x_25), some (.int v1), some (.int x_38)] [.int x_121, .int (I41 b 5), .ref (b + 4)] V7 r K7 _
      refine q_iast (q := 125) dX8_parseWay_124 rfl (ls_w hb).2.2.2.1 (by rw [hb6, x5]; exact vp_in_nI (by omega) (by decide)) (fun I51 eI51 => ?_)
      rw [hb6, x5, nI_clamp (by omega)] at eI51
      have ca8 : CA (upI (upI (upI A 2 wn x_25) 3 wn x_38) 4 wn x_121) b I51 := by rw [eI51]; exact CA_u ca7 (by decide)
      have rg8 : ∀ c, ¬ regL b c → I51 c = V7 c := fun c e => by rw [eI51, upc (fun z => e (by rw [z]; exact ⟨by omega, by omega⟩))]
      have ps8 := PS_d ps7 hrg rg8
      have fd8 := fd7.tr (FD.i rg8)
      have cn8 := cn7
      have hb8 : I51 b = X b := Eq.trans (by rw [eI51, upc (by omega)]) hb7
      refine x_aload_n (q := 126) dX8_parseWay_125 rfl rfl ?_
      refine q_gr (K := 1) (b := b) (q := 129) dX8_parseWay_126 rfl cl_8 (by decide) tw_366 rfl rfl (congrArg some h2) ?_
      refine x_dup (q := 130) dX8_parseWay_129 rfl rfl ?_
      refine q_gi (K := 5) (q := 133) dX8_parseWay_130 rfl cl_5 (by decide) tw_187 hb rfl ?_
      refine x_iconst (1) (q := 134) dX8_parseWay_133 rfl (by decide) ?_
      refine x_iadd (q := 135) dX8_parseWay_134 rfl ?_
      refine q_pi (K := 5) (q := 138) dX8_parseWay_135 rfl cl_5 (by decide) tw_187 rfl rfl hb rfl (fun I61 eI61 => ?_)
      refine q_vret dX8_parseWay_138 rfl ?_
      rw [hb8, x5, nI_p1] at eI61
      have ca9 : CA (upI (upI (upI (upI A 2 wn x_25) 3 wn x_38) 4 wn x_121) 0 5 (nI (wn + 1))) b I61 := by rw [eI61]; exact CA_0 ca8
      have rg9 : ∀ c, ¬ regL b c → I61 c = I51 c := fun c e => by rw [eI61, upc (fun z => e (by rw [z]; exact ⟨by omega, by omega⟩))]
      have ps9 := PS_d ps8 hrg rg9
      have fd9 := fd8.tr (FD.i rg9)
      have cn9 := cn8
      have ec : wyC T n A yn wn (adv T n s) = t4 := by unfold wyC; rw [← et1, ← et2, ← et3, et4]
      have es : wyS T n A yn wn s = t6 := by unfold wyS; rw [ec, et6, et5]
      refine ⟨rfl, ⟨by rw [es]; exact ps9, fd9, fun z => ?_⟩, rfl⟩
      rw [es] at z
      have f_t6 := tnuT_0 (by rw [et6] at z; exact z)
      have z_t5 : t5.1 = 0 := f_t6.1.1
      have f_t5 := tkw_0 (by rw [et5] at z_t5; exact z_t5)
      have z_t4 : t4.1 = 0 := f_t5.1
      have f_t4 := cnd_0 (by rw [et4] at z_t4; exact z_t4) (by decide)
      have z_t3 : t3.1 = 0 := f_t4.2.1
      have f_t3 := tyaT_0 (by rw [et3] at z_t3; exact z_t3)
      have z_t2 : t2.1 = 0 := f_t3.1.1
      have f_t2 := tyaT_0 (by rw [et2] at z_t2; exact z_t2)
      have z_t1 : t1.1 = 0 := f_t2.1.1
      have z_s : s.1 = 0 := by rw [et1] at z_t1; exact z_t1
      have eA : wyA T n s A yn wn = upI (upI (upI (upI A 2 wn x_25) 3 wn x_38) 4 wn x_121) 0 5 (nI (wn + 1)) := by
        unfold wyA
        rw [hx_25 z_t2, hx_38 z_t3, hx_121 z, ec, ← et1, ← et2, ← et5]
      rw [eA]
      exact ⟨ca9, CN_u cn9 (by rw [upc (by decide), upc (by decide), upc (by decide), upc (by decide)]), by rw [ups (by decide), upc (by decide), upc (by decide), upc (by decide)]; exact k1, by rw [upq], by rw [ups (by decide), upc (by decide), upc (by decide), upc (by decide)]; exact k9, by rw [ups (by decide), upc (by decide), upc (by decide), upc (by decide)]; exact k12, y8, by omega, h12, s7_, tb, t256, by rw [ups (by decide), upc (by decide), upc (by decide), upc (by decide)]; exact k17⟩
    · refine x_aload_n (q := 60) dX8_parseWay_59 rfl rfl ?_
      refine x_iconst (3) (q := 61) dX8_parseWay_60 rfl (by decide) ?_
      refine x_iload_n (q := 62) dX8_parseWay_61 rfl rfl ?_
      refine q_callV (ci := 8) (N := 5) (T := TX8) (As := [.int 3, .int v1]) (rest := []) (q := 65) dX8_parseWay_62 rfl okX8_refuse tw_669 rfl rfl (by rw [evp]; exact c_ref h4 ps3 (k := 3) (g := sk T n t2.2.2) (by decide)) rfl rfl (Nat.le_of_ble_eq_true rfl) ⟨by decide, by decide⟩ ⟨rfl, rfl⟩ (fun rv_ V4 r_ K4 hv_ => ?_)
      obtain ⟨a1_, ⟨ps4, fp4⟩, a3_⟩ := hv_
      rw [a1_, a3_]
      obtain ⟨t4, et4⟩ : ∃ z, z = rf 3 (sk T n t2.2.2) t3 := ⟨_, rfl⟩
      rw [← et4] at ps4
      have ca4 := CA_f ca3 fp4.w hrg
      have fd4 := fd3.tr (FW.d (b := b) fp4.w)
      have cn4 := CN_f cn3 fp4.w hrg
      have hb4 : V4 b = X b := Eq.trans (fp4.w.1 b (by omega) (by omega)) hb3
      show Wq MX8_parseWay 65 [some (.ref 54), some (.int x_25), some (.int v1), some (.int x_38)] [] V4 r K4 _
      rw [et4] at ps4
      obtain ⟨t5, et5⟩ : ∃ z, z = if wyF A wn (nf T n A (w5 T n t1.2.2) yn 0) (nf T n A (w5 T n t2.2.2) yn 0) then rf 3 (sk T n t2.2.2) t3 else t3 := ⟨_, rfl⟩
      have eq_t5 : rf 3 (sk T n t2.2.2) t3 = t5 := by
        rw [et5]
        by_cases z : t3.1 = 0
        · rw [if_pos (by (have z2 : t2.1 = 0 := (tyaT_0 (by rw [et3] at z; exact z)).1.1; have q1 := hx_25 z2; have q2 := hx_38 z; have l1 := nf_8 (T := T) (n := n) (A := A) (w := w5 T n t1.2.2) y8; have l2 := nf_8 (T := T) (n := n) (A := A) (w := w5 T n t2.2.2) y8; rw [q1, q2] at c44; first | exact wyF_a ((nI_eq (by omega) (by omega)).mp c44) | (rw [q1, q2] at c56; exact wyF_b (bb_1 c56))))]
        · rw [rf_s z]
          cases (wyF A wn (nf T n A (w5 T n t1.2.2) yn 0) (nf T n A (w5 T n t2.2.2) yn 0)) <;> rfl
      rw [eq_t5] at ps4
      refine x_aload_n (q := 66) dX8_parseWay_65 rfl rfl ?_
      refine x_bipush (15) (q := 68) dX8_parseWay_66 rfl (by decide) ?_
      refine q_callV (ci := 8) (N := 5) (T := TX8) (As := [.int 15]) (rest := []) (q := 71) dX8_parseWay_68 rfl okX8_takeKeyword tw_686 rfl rfl (c_tkw h4 ps4 (i := 15) (by decide)) rfl rfl (Nat.le_of_ble_eq_true rfl) ⟨by decide, by decide⟩ ⟨rfl, rfl⟩ (fun rv_ V5 r_ K5 hv_ => ?_)
      obtain ⟨a1_, ⟨ps5, fp5⟩, a3_⟩ := hv_
      rw [a1_, a3_]
      obtain ⟨t6, et6⟩ : ∃ z, z = tkw T n 15 t5 := ⟨_, rfl⟩
      rw [← et6] at ps5
      have ca5 := CA_f ca4 fp5.w hrg
      have fd5 := fd4.tr (FW.d (b := b) fp5.w)
      have cn5 := CN_f cn4 fp5.w hrg
      have hb5 : V5 b = X b := Eq.trans (fp5.w.1 b (by omega) (by omega)) hb4
      show Wq MX8_parseWay 71 [some (.ref 54), some (.int x_25), some (.int v1), some (.int x_38)] [] V5 r K5 _
      refine x_aload_n (q := 72) dX8_parseWay_71 rfl rfl ?_
      refine q_gr (K := 1) (b := b) (q := 75) dX8_parseWay_72 rfl cl_8 (by decide) tw_366 rfl rfl (congrArg some h2) ?_
      refine q_gr (K := 2) (b := (b + 2)) (q := 78) dX8_parseWay_75 rfl cl_5 (by decide) tw_175 hb rfl (lr_w hb _).2.1 ?_
      refine x_aload_n (q := 79) dX8_parseWay_78 rfl rfl ?_
      refine q_gr (K := 1) (b := b) (q := 82) dX8_parseWay_79 rfl cl_8 (by decide) tw_366 rfl rfl (congrArg some h2) ?_
      refine q_gi (K := 5) (q := 85) dX8_parseWay_82 rfl cl_5 (by decide) tw_187 hb rfl ?_
      refine x_iload_n (q := 86) dX8_parseWay_85 rfl rfl ?_
      refine q_iast (q := 87) dX8_parseWay_86 rfl (ls_w hb).2.1 (by rw [hb5, x5]; exact vp_in_nI (by omega) (by decide)) (fun I21 eI21 => ?_)
      rw [hb5, x5, nI_clamp (by omega)] at eI21
      have ca6 : CA (upI A 2 wn x_25) b I21 := by rw [eI21]; exact CA_u ca5 (by decide)
      have rg6 : ∀ c, ¬ regL b c → I21 c = V5 c := fun c e => by rw [eI21, upc (fun z => e (by rw [z]; exact ⟨by omega, by omega⟩))]
      have ps6 := PS_d ps5 hrg rg6
      have fd6 := fd5.tr (FD.i rg6)
      have cn6 := cn5
      have hb6 : I21 b = X b := Eq.trans (by rw [eI21, upc (by omega)]) hb5
      refine x_aload_n (q := 88) dX8_parseWay_87 rfl rfl ?_
      refine q_gr (K := 1) (b := b) (q := 91) dX8_parseWay_88 rfl cl_8 (by decide) tw_366 rfl rfl (congrArg some h2) ?_
      refine q_gr (K := 3) (b := (b + 3)) (q := 94) dX8_parseWay_91 rfl cl_5 (by decide) tw_179 hb rfl (lr_w hb _).2.2.1 ?_
      refine x_aload_n (q := 95) dX8_parseWay_94 rfl rfl ?_
      refine q_gr (K := 1) (b := b) (q := 98) dX8_parseWay_95 rfl cl_8 (by decide) tw_366 rfl rfl (congrArg some h2) ?_
      refine q_gi (K := 5) (q := 101) dX8_parseWay_98 rfl cl_5 (by decide) tw_187 hb rfl ?_
      refine x_iload_n (q := 102) dX8_parseWay_101 rfl rfl ?_
      refine q_iast (q := 103) dX8_parseWay_102 rfl (ls_w hb).2.2.1 (by rw [hb6, x5]; exact vp_in_nI (by omega) (by decide)) (fun I41 eI41 => ?_)
      rw [hb6, x5, nI_clamp (by omega)] at eI41
      have ca7 : CA (upI (upI A 2 wn x_25) 3 wn x_38) b I41 := by rw [eI41]; exact CA_u ca6 (by decide)
      have rg7 : ∀ c, ¬ regL b c → I41 c = I21 c := fun c e => by rw [eI41, upc (fun z => e (by rw [z]; exact ⟨by omega, by omega⟩))]
      have ps7 := PS_d ps6 hrg rg7
      have fd7 := fd6.tr (FD.i rg7)
      have cn7 := cn6
      have hb7 : I41 b = X b := Eq.trans (by rw [eI41, upc (by omega)]) hb6
      refine x_aload_n (q := 104) dX8_parseWay_103 rfl rfl ?_
      refine q_gr (K := 1) (b := b) (q := 107) dX8_parseWay_104 rfl cl_8 (by decide) tw_366 rfl rfl (congrArg some h2) ?_
      refine q_gr (K := 4) (b := (b + 4)) (q := 110) dX8_parseWay_107 rfl cl_5 (by decide) tw_183 hb rfl (lr_w hb _).2.2.2.1 ?_
      refine x_aload_n (q := 111) dX8_parseWay_110 rfl rfl ?_
      refine q_gr (K := 1) (b := b) (q := 114) dX8_parseWay_111 rfl cl_8 (by decide) tw_366 rfl rfl (congrArg some h2) ?_
      refine q_gi (K := 5) (q := 117) dX8_parseWay_114 rfl cl_5 (by decide) tw_187 hb rfl ?_
      refine x_aload_n (q := 118) dX8_parseWay_117 rfl rfl ?_
      refine x_iconst (1) (q := 119) dX8_parseWay_118 rfl (by decide) ?_
      refine x_bipush (60) (q := 121) dX8_parseWay_119 rfl (by decide) ?_
      refine q_callV (ci := 8) (N := 5) (T := TX8) (As := [.int 1, .int 60]) (rest := [.int (I41 b 5), .ref (b + 4)]) (q := 124) dX8_parseWay_121 rfl okX8_takeNumber tw_690 rfl rfl (c_tnu h4 ps7 (lo := 1) (hi := 60) (by decide) (by decide)) rfl rfl (Nat.le_of_ble_eq_true rfl) ⟨by decide, by decide⟩ ⟨rfl, rfl⟩ (fun rv_ V8 r_ K8 hv_ => ?_)
      obtain ⟨x_121, a1_, hx_121, ps8, fp8, a3_⟩ := hv_
      rw [a1_, a3_]
      obtain ⟨t7, et7⟩ : ∃ z, z = tnuT T n 1 60 t6 := ⟨_, rfl⟩
      rw [← et7] at ps8
      have ca8 := CA_f ca7 fp8.w hrg
      have fd8 := fd7.tr (FW.d (b := b) fp8.w)
      have cn8 := CN_f cn7 fp8.w hrg
      have hb8 : V8 b = X b := Eq.trans (fp8.w.1 b (by omega) (by omega)) hb7
      rw [← et7] at hx_121
      show Wq MX8_parseWay 124 [some (.ref 54), some (.int x_25), some (.int v1), some (.int x_38)] [.int x_121, .int (I41 b 5), .ref (b + 4)] V8 r K8 _
      refine q_iast (q := 125) dX8_parseWay_124 rfl (ls_w hb).2.2.2.1 (by rw [hb7, x5]; exact vp_in_nI (by omega) (by decide)) (fun I51 eI51 => ?_)
      rw [hb7, x5, nI_clamp (by omega)] at eI51
      have ca9 : CA (upI (upI (upI A 2 wn x_25) 3 wn x_38) 4 wn x_121) b I51 := by rw [eI51]; exact CA_u ca8 (by decide)
      have rg9 : ∀ c, ¬ regL b c → I51 c = V8 c := fun c e => by rw [eI51, upc (fun z => e (by rw [z]; exact ⟨by omega, by omega⟩))]
      have ps9 := PS_d ps8 hrg rg9
      have fd9 := fd8.tr (FD.i rg9)
      have cn9 := cn8
      have hb9 : I51 b = X b := Eq.trans (by rw [eI51, upc (by omega)]) hb8
      refine x_aload_n (q := 126) dX8_parseWay_125 rfl rfl ?_
      refine q_gr (K := 1) (b := b) (q := 129) dX8_parseWay_126 rfl cl_8 (by decide) tw_366 rfl rfl (congrArg some h2) ?_
      refine x_dup (q := 130) dX8_parseWay_129 rfl rfl ?_
      refine q_gi (K := 5) (q := 133) dX8_parseWay_130 rfl cl_5 (by decide) tw_187 hb rfl ?_
      refine x_iconst (1) (q := 134) dX8_parseWay_133 rfl (by decide) ?_
      refine x_iadd (q := 135) dX8_parseWay_134 rfl ?_
      refine q_pi (K := 5) (q := 138) dX8_parseWay_135 rfl cl_5 (by decide) tw_187 rfl rfl hb rfl (fun I61 eI61 => ?_)
      refine q_vret dX8_parseWay_138 rfl ?_
      rw [hb9, x5, nI_p1] at eI61
      have ca10 : CA (upI (upI (upI (upI A 2 wn x_25) 3 wn x_38) 4 wn x_121) 0 5 (nI (wn + 1))) b I61 := by rw [eI61]; exact CA_0 ca9
      have rg10 : ∀ c, ¬ regL b c → I61 c = I51 c := fun c e => by rw [eI61, upc (fun z => e (by rw [z]; exact ⟨by omega, by omega⟩))]
      have ps10 := PS_d ps9 hrg rg10
      have fd10 := fd9.tr (FD.i rg10)
      have cn10 := cn9
      have ec : wyC T n A yn wn (adv T n s) = t5 := by unfold wyC; rw [← et1, ← et2, ← et3, et5]
      have es : wyS T n A yn wn s = t7 := by unfold wyS; rw [ec, et7, et6]
      refine ⟨rfl, ⟨by rw [es]; exact ps10, fd10, fun z => ?_⟩, rfl⟩
      rw [es] at z
      have f_t7 := tnuT_0 (by rw [et7] at z; exact z)
      have z_t6 : t6.1 = 0 := f_t7.1.1
      have f_t6 := tkw_0 (by rw [et6] at z_t6; exact z_t6)
      have z_t5 : t5.1 = 0 := f_t6.1
      have f_t5 := cnd_0 (by rw [et5] at z_t5; exact z_t5) (by decide)
      have z_t3 : t3.1 = 0 := f_t5.2.1
      have f_t3 := tyaT_0 (by rw [et3] at z_t3; exact z_t3)
      have z_t2 : t2.1 = 0 := f_t3.1.1
      have f_t2 := tyaT_0 (by rw [et2] at z_t2; exact z_t2)
      have z_t1 : t1.1 = 0 := f_t2.1.1
      have z_s : s.1 = 0 := by rw [et1] at z_t1; exact z_t1
      have eA : wyA T n s A yn wn = upI (upI (upI (upI A 2 wn x_25) 3 wn x_38) 4 wn x_121) 0 5 (nI (wn + 1)) := by
        unfold wyA
        rw [hx_25 z_t2, hx_38 z_t3, hx_121 z, ec, ← et1, ← et2, ← et6]
      rw [eA]
      exact ⟨ca10, CN_u cn10 (by rw [upc (by decide), upc (by decide), upc (by decide), upc (by decide)]), by rw [ups (by decide), upc (by decide), upc (by decide), upc (by decide)]; exact k1, by rw [upq], by rw [ups (by decide), upc (by decide), upc (by decide), upc (by decide)]; exact k9, by rw [ups (by decide), upc (by decide), upc (by decide), upc (by decide)]; exact k12, y8, by omega, h12, s7_, tb, t256, by rw [ups (by decide), upc (by decide), upc (by decide), upc (by decide)]; exact k17⟩
theorem b17_0 {tb k : Nat} {x : Int32} (h : tb < 256) (hk : k ≤ 8) (e : x = nI tb) : (x >>> (nI k &&& 31)) &&& 1 = 0 ↔ tb.testBit k = false := by
  rw [e]; exact bit_0 (by omega) hk
theorem b17_or {tb k : Nat} {x : Int32} (hk : k ≤ 8) (e : x = nI tb) : x ||| (1 : Int32) <<< (nI k &&& 31) = nI (tb ||| 2 ^ k) := by
  rw [e, sh1 hk, nI_or]
def onS (T : Nat → Nat) (n : Nat) (A : MI) (yn k : Nat) (s : Nat × Nat × Nat) : Nat × Nat × Nat := if k = 6 then tyaT T n A yn (adv T n s) else tnuT T n 0 9999 (adv T n s)
def onV (T : Nat → Nat) (n : Nat) (A : MI) (yn k : Nat) (s : Nat × Nat × Nat) : Int32 := if k = 6 then nI (nf T n A (w5 T n (adv T n s).2.2) yn 0) else nI (vl T n (adv T n s).2.2)
def onA (T : Nat → Nat) (n : Nat) (A : MI) (yn k tb : Nat) (s : Nat × Nat × Nat) : MI := upI (upI A 0 17 (nI (tb ||| 2 ^ k))) 0 (if k = 4 then 13 else if k = 5 then 14 else if k = 6 then 15 else 16) (onV T n A yn k s)
set_option maxRecDepth 100000 in
theorem c_pon4_f {T : Nat → Nat} {n : Nat} {r : MR} (h4 : r 4 = 1) {b : Nat} (h2 : r 2 = b) (hb : SH b = (15, 18)) (hrg : 2 ≤ b ∧ b + 26 ≤ 54) {X : MI} {J : MJ} {s : Nat × Nat × Nat} (h : PS T n s X J) {A : MI} {yn wn hn sn : Nat} (hD : CD T n A b yn wn hn sn X J) {tb : Nat} (t256 : tb < 256) (k17 : A 0 17 = nI tb) (ht : tb.testBit 4 = true) : Cq yX8_parseOnce MX8_parseOnce [.ref 54, .int 4] X r J (RLn T n (rfT T n s) b (fun _ _ => False) X J r) := by
  obtain ⟨ca0, cn0, k1, k5, k9, k12, y8, w16, h12, s7_, -⟩ := hD
  have fd0 : FD b X J X J := FD.rf
  have ps0 := h
  have hb0 : X b = X b := rfl
  have x1 : X b 1 = nI yn := by rw [ca0.b]; exact k1
  have x5 : X b 5 = nI wn := by rw [ca0.b]; exact k5
  have x9 : X b 9 = nI hn := by rw [ca0.b]; exact k9
  have x12 : X b 12 = nI sn := by rw [ca0.b]; exact k12
  have x17 : X b 17 = nI tb := by rw [ca0.b]; exact k17
  refine cq_of [some (.ref 54), some (.int 4), none] 1 (by decide +kernel) rfl rfl (Nat.le_of_ble_eq_true rfl) rfl ?_
  refine x_aload_n (q := 1) dX8_parseOnce_0 rfl rfl ?_
  refine q_gr (K := 1) (b := b) (q := 4) dX8_parseOnce_1 rfl cl_8 (by decide) tw_366 rfl rfl (congrArg some h2) ?_
  refine q_gi (K := 17) (q := 7) dX8_parseOnce_4 rfl cl_5 (by decide) tw_229 hb rfl ?_
  refine x_iload_n (q := 8) dX8_parseOnce_7 rfl rfl ?_
  refine x_ishr (q := 9) dX8_parseOnce_8 rfl ?_
  refine x_iconst (1) (q := 10) dX8_parseOnce_9 rfl (by decide) ?_
  refine x_iand (q := 11) dX8_parseOnce_10 rfl ?_
  refine x_if_eq (t := 19) (q := 14) dX8_parseOnce_11 (by decide) rfl (fun c11 => absurd c11 (fun z => absurd ((b17_0 (k := 4) t256 (by decide) x17).mp z) (by rw [ht]; decide))) (fun c11 => ?_)
  refine x_aload_n (q := 15) dX8_parseOnce_14 rfl rfl ?_
  refine q_callV (ci := 8) (N := 5) (T := TX8) (As := []) (rest := []) (q := 18) dX8_parseOnce_15 rfl okX8_refuseToken tw_665 rfl rfl (c_rfT h4 ps0) rfl rfl (Nat.le_of_ble_eq_true rfl) ⟨by decide, by decide⟩ ⟨rfl, rfl⟩ (fun rv_ V1 r_ K1 hv_ => ?_)
  obtain ⟨a1_, ⟨ps1, fp1⟩, a3_⟩ := hv_
  rw [a1_, a3_]
  obtain ⟨t1, et1⟩ : ∃ z, z = rfT T n s := ⟨_, rfl⟩
  rw [← et1] at ps1
  have ca1 := CA_f ca0 fp1.w hrg
  have fd1 := fd0.tr (FW.d (b := b) fp1.w)
  have cn1 := CN_f cn0 fp1.w hrg
  have hb1 : V1 b = X b := Eq.trans (fp1.w.1 b (by omega) (by omega)) hb0
  show Wq MX8_parseOnce 18 [some (.ref 54), some (.int 4), none] [] V1 r K1 _
  refine q_vret dX8_parseOnce_18 rfl ?_
  refine ⟨rfl, ⟨?_, fd1, fun z => absurd z rfT_n⟩, rfl⟩
  rw [← et1]; exact ps1
set_option maxRecDepth 100000 in
theorem c_pon4 {T : Nat → Nat} {n : Nat} {r : MR} (h4 : r 4 = 1) {b : Nat} (h2 : r 2 = b) (hb : SH b = (15, 18)) (hrg : 2 ≤ b ∧ b + 26 ≤ 54) {X : MI} {J : MJ} {s : Nat × Nat × Nat} (h : PS T n s X J) {A : MI} {yn wn hn sn : Nat} (hD : CD T n A b yn wn hn sn X J) {tb : Nat} (t256 : tb < 256) (k17 : A 0 17 = nI tb) (ht : tb.testBit 4 = false) : Cq yX8_parseOnce MX8_parseOnce [.ref 54, .int 4] X r J (RLn T n (onS T n A yn 4 s) b (CD T n (onA T n A yn 4 tb s) b yn wn hn sn) X J r) := by
  obtain ⟨ca0, cn0, k1, k5, k9, k12, y8, w16, h12, s7_, -⟩ := hD
  have fd0 : FD b X J X J := FD.rf
  have ps0 := h
  have hb0 : X b = X b := rfl
  have x1 : X b 1 = nI yn := by rw [ca0.b]; exact k1
  have x5 : X b 5 = nI wn := by rw [ca0.b]; exact k5
  have x9 : X b 9 = nI hn := by rw [ca0.b]; exact k9
  have x12 : X b 12 = nI sn := by rw [ca0.b]; exact k12
  have x17 : X b 17 = nI tb := by rw [ca0.b]; exact k17
  refine cq_of [some (.ref 54), some (.int 4), none] 1 (by decide +kernel) rfl rfl (Nat.le_of_ble_eq_true rfl) rfl ?_
  refine x_aload_n (q := 1) dX8_parseOnce_0 rfl rfl ?_
  refine q_gr (K := 1) (b := b) (q := 4) dX8_parseOnce_1 rfl cl_8 (by decide) tw_366 rfl rfl (congrArg some h2) ?_
  refine q_gi (K := 17) (q := 7) dX8_parseOnce_4 rfl cl_5 (by decide) tw_229 hb rfl ?_
  refine x_iload_n (q := 8) dX8_parseOnce_7 rfl rfl ?_
  refine x_ishr (q := 9) dX8_parseOnce_8 rfl ?_
  refine x_iconst (1) (q := 10) dX8_parseOnce_9 rfl (by decide) ?_
  refine x_iand (q := 11) dX8_parseOnce_10 rfl ?_
  refine x_if_eq (t := 19) (q := 14) dX8_parseOnce_11 (by decide) rfl (fun c11 => ?_) (fun c11 => absurd c11 (fun z => z ((b17_0 (k := 4) t256 (by decide) x17).mpr ht)))
  refine x_aload_n (q := 20) dX8_parseOnce_19 rfl rfl ?_
  refine q_gr (K := 1) (b := b) (q := 23) dX8_parseOnce_20 rfl cl_8 (by decide) tw_366 rfl rfl (congrArg some h2) ?_
  refine x_dup (q := 24) dX8_parseOnce_23 rfl rfl ?_
  refine q_gi (K := 17) (q := 27) dX8_parseOnce_24 rfl cl_5 (by decide) tw_229 hb rfl ?_
  refine x_iconst (1) (q := 28) dX8_parseOnce_27 rfl (by decide) ?_
  refine x_iload_n (q := 29) dX8_parseOnce_28 rfl rfl ?_
  refine x_ishl (q := 30) dX8_parseOnce_29 rfl ?_
  refine x_ior (q := 31) dX8_parseOnce_30 rfl ?_
  refine q_pi (K := 17) (q := 34) dX8_parseOnce_31 rfl cl_5 (by decide) tw_229 rfl rfl hb rfl (fun I1 eI1 => ?_)
  rw [show X b 17 ||| (1 : Int32) <<< ((4 : Int32) &&& 31) = nI (tb ||| 2 ^ 4) from b17_or (k := 4) (by decide) x17] at eI1
  have ca1 : CA (upI A 0 17 (nI (tb ||| 2 ^ 4))) b I1 := by rw [eI1]; exact CA_0 ca0
  have rg1 : ∀ c, ¬ regL b c → I1 c = X c := fun c e => by rw [eI1, upc (fun z => e (by rw [z]; exact ⟨by omega, by omega⟩))]
  have ps1 := PS_d ps0 hrg rg1
  have fd1 := fd0.tr (FD.i rg1)
  have cn1 := cn0
  refine x_aload_n (q := 35) dX8_parseOnce_34 rfl rfl ?_
  refine q_gr (K := 0) (b := 55) (q := 38) dX8_parseOnce_35 rfl cl_8 (by decide) tw_365 rfl rfl rfl ?_
  refine q_callV (ci := 6) (N := 9) (T := TX6) (As := []) (rest := []) (q := 41) dX8_parseOnce_38 rfl okX6_advance tw_673 rfl rfl (c_advP h4 ps1) rfl rfl (Nat.le_of_ble_eq_true rfl) ⟨by decide, by decide⟩ ⟨rfl, rfl⟩ (fun rv_ V2 r_ K2 hv_ => ?_)
  obtain ⟨a1_, ⟨ps2, fp2⟩, a3_⟩ := hv_
  rw [a1_, a3_]
  obtain ⟨t1, et1⟩ : ∃ z, z = adv T n s := ⟨_, rfl⟩
  rw [← et1] at ps2
  have ca2 := CA_f ca1 fp2.w hrg
  have fd2 := fd1.tr (FW.d (b := b) fp2.w)
  have cn2 := CN_f cn1 fp2.w hrg
  show Wq MX8_parseOnce 41 [some (.ref 54), some (.int 4), none] [] V2 r K2 _
  refine x_iload_n (q := 42) dX8_parseOnce_41 rfl rfl ?_
  refine x_bipush (6) (q := 44) dX8_parseOnce_42 rfl (by decide) ?_
  refine x_icmp_ne (t := 59) (q := 47) dX8_parseOnce_44 (by decide) rfl (fun c44 => ?_) (fun c44 => absurd c44 ((by decide)))
  refine x_aload_n (q := 60) dX8_parseOnce_59 rfl rfl ?_
  refine x_iconst (0) (q := 61) dX8_parseOnce_60 rfl (by decide) ?_
  refine x_sipush (9999) (q := 64) dX8_parseOnce_61 rfl (by decide) ?_
  refine q_callV (ci := 8) (N := 5) (T := TX8) (As := [.int 0, .int 9999]) (rest := []) (q := 67) dX8_parseOnce_64 rfl okX8_takeNumber tw_690 rfl rfl (c_tnu h4 ps2 (lo := 0) (hi := 9999) (by decide) (by decide)) rfl rfl (Nat.le_of_ble_eq_true rfl) ⟨by decide, by decide⟩ ⟨rfl, rfl⟩ (fun rv_ V3 r_ K3 hv_ => ?_)
  obtain ⟨x_64, a1_, hx_64, ps3, fp3, a3_⟩ := hv_
  rw [a1_, a3_]
  obtain ⟨t2, et2⟩ : ∃ z, z = tnuT T n 0 9999 t1 := ⟨_, rfl⟩
  rw [← et2] at ps3
  have ca3 := CA_f ca2 fp3.w hrg
  have fd3 := fd2.tr (FW.d (b := b) fp3.w)
  have cn3 := CN_f cn2 fp3.w hrg
  rw [← et2] at hx_64
  show Wq MX8_parseOnce 67 [some (.ref 54), some (.int 4), none] [.int x_64] V3 r K3 _
  refine x_istore_n (L2 := [some (.ref 54), some (.int 4), some (.int x_64)]) (q := 68) dX8_parseOnce_67 rfl (by decide) rfl rfl ?_
  refine x_iload_n (q := 69) dX8_parseOnce_68 rfl rfl ?_
  refine x_iconst (4) (q := 70) dX8_parseOnce_69 rfl (by decide) ?_
  refine x_icmp_ne (t := 84) (q := 73) dX8_parseOnce_70 (by decide) rfl (fun c70 => absurd c70 ((by decide))) (fun c70 => ?_)
  refine x_aload_n (q := 74) dX8_parseOnce_73 rfl rfl ?_
  refine q_gr (K := 1) (b := b) (q := 77) dX8_parseOnce_74 rfl cl_8 (by decide) tw_366 rfl rfl (congrArg some h2) ?_
  refine x_iload_n (q := 78) dX8_parseOnce_77 rfl rfl ?_
  refine q_pi (K := 13) (q := 81) dX8_parseOnce_78 rfl cl_5 (by decide) tw_217 rfl rfl hb rfl (fun I31 eI31 => ?_)
  refine x_goto (t := 108) dX8_parseOnce_81 (by decide) ?_
  refine q_vret dX8_parseOnce_108 rfl ?_
  have ca4 : CA (upI (upI A 0 17 (nI (tb ||| 2 ^ 4))) 0 13 x_64) b I31 := by rw [eI31]; exact CA_0 ca3
  have rg4 : ∀ c, ¬ regL b c → I31 c = V3 c := fun c e => by rw [eI31, upc (fun z => e (by rw [z]; exact ⟨by omega, by omega⟩))]
  have ps4 := PS_d ps3 hrg rg4
  have fd4 := fd3.tr (FD.i rg4)
  have cn4 := cn3
  have es : onS T n A yn 4 s = t2 := by unfold onS; rw [if_neg (by decide), ← et1, et2]
  refine ⟨rfl, ⟨by rw [es]; exact ps4, fd4, fun z => ?_⟩, rfl⟩
  rw [es] at z
  have eA : onA T n A yn 4 tb s = upI (upI A 0 17 (nI (tb ||| 2 ^ 4))) 0 13 x_64 := by
    unfold onA onV
    rw [hx_64 z, ← et1]
    rfl
  rw [eA]
  exact ⟨ca4, CN_u cn4 (by rw [upc (by decide), upc (by decide)]), by rw [ups (by decide), ups (by decide)]; exact k1, by rw [ups (by decide), ups (by decide)]; exact k5, by rw [ups (by decide), ups (by decide)]; exact k9, by rw [ups (by decide), ups (by decide)]; exact k12, y8, w16, h12, s7_, tb ||| 2 ^ 4, Nat.or_lt_two_pow (n := 8) t256 (by decide), by rw [ups (by decide), upq]⟩
set_option maxRecDepth 100000 in
theorem c_pon5_f {T : Nat → Nat} {n : Nat} {r : MR} (h4 : r 4 = 1) {b : Nat} (h2 : r 2 = b) (hb : SH b = (15, 18)) (hrg : 2 ≤ b ∧ b + 26 ≤ 54) {X : MI} {J : MJ} {s : Nat × Nat × Nat} (h : PS T n s X J) {A : MI} {yn wn hn sn : Nat} (hD : CD T n A b yn wn hn sn X J) {tb : Nat} (t256 : tb < 256) (k17 : A 0 17 = nI tb) (ht : tb.testBit 5 = true) : Cq yX8_parseOnce MX8_parseOnce [.ref 54, .int 5] X r J (RLn T n (rfT T n s) b (fun _ _ => False) X J r) := by
  obtain ⟨ca0, cn0, k1, k5, k9, k12, y8, w16, h12, s7_, -⟩ := hD
  have fd0 : FD b X J X J := FD.rf
  have ps0 := h
  have hb0 : X b = X b := rfl
  have x1 : X b 1 = nI yn := by rw [ca0.b]; exact k1
  have x5 : X b 5 = nI wn := by rw [ca0.b]; exact k5
  have x9 : X b 9 = nI hn := by rw [ca0.b]; exact k9
  have x12 : X b 12 = nI sn := by rw [ca0.b]; exact k12
  have x17 : X b 17 = nI tb := by rw [ca0.b]; exact k17
  refine cq_of [some (.ref 54), some (.int 5), none] 1 (by decide +kernel) rfl rfl (Nat.le_of_ble_eq_true rfl) rfl ?_
  refine x_aload_n (q := 1) dX8_parseOnce_0 rfl rfl ?_
  refine q_gr (K := 1) (b := b) (q := 4) dX8_parseOnce_1 rfl cl_8 (by decide) tw_366 rfl rfl (congrArg some h2) ?_
  refine q_gi (K := 17) (q := 7) dX8_parseOnce_4 rfl cl_5 (by decide) tw_229 hb rfl ?_
  refine x_iload_n (q := 8) dX8_parseOnce_7 rfl rfl ?_
  refine x_ishr (q := 9) dX8_parseOnce_8 rfl ?_
  refine x_iconst (1) (q := 10) dX8_parseOnce_9 rfl (by decide) ?_
  refine x_iand (q := 11) dX8_parseOnce_10 rfl ?_
  refine x_if_eq (t := 19) (q := 14) dX8_parseOnce_11 (by decide) rfl (fun c11 => absurd c11 (fun z => absurd ((b17_0 (k := 5) t256 (by decide) x17).mp z) (by rw [ht]; decide))) (fun c11 => ?_)
  refine x_aload_n (q := 15) dX8_parseOnce_14 rfl rfl ?_
  refine q_callV (ci := 8) (N := 5) (T := TX8) (As := []) (rest := []) (q := 18) dX8_parseOnce_15 rfl okX8_refuseToken tw_665 rfl rfl (c_rfT h4 ps0) rfl rfl (Nat.le_of_ble_eq_true rfl) ⟨by decide, by decide⟩ ⟨rfl, rfl⟩ (fun rv_ V1 r_ K1 hv_ => ?_)
  obtain ⟨a1_, ⟨ps1, fp1⟩, a3_⟩ := hv_
  rw [a1_, a3_]
  obtain ⟨t1, et1⟩ : ∃ z, z = rfT T n s := ⟨_, rfl⟩
  rw [← et1] at ps1
  have ca1 := CA_f ca0 fp1.w hrg
  have fd1 := fd0.tr (FW.d (b := b) fp1.w)
  have cn1 := CN_f cn0 fp1.w hrg
  have hb1 : V1 b = X b := Eq.trans (fp1.w.1 b (by omega) (by omega)) hb0
  show Wq MX8_parseOnce 18 [some (.ref 54), some (.int 5), none] [] V1 r K1 _
  refine q_vret dX8_parseOnce_18 rfl ?_
  refine ⟨rfl, ⟨?_, fd1, fun z => absurd z rfT_n⟩, rfl⟩
  rw [← et1]; exact ps1
set_option maxRecDepth 100000 in
theorem c_pon5 {T : Nat → Nat} {n : Nat} {r : MR} (h4 : r 4 = 1) {b : Nat} (h2 : r 2 = b) (hb : SH b = (15, 18)) (hrg : 2 ≤ b ∧ b + 26 ≤ 54) {X : MI} {J : MJ} {s : Nat × Nat × Nat} (h : PS T n s X J) {A : MI} {yn wn hn sn : Nat} (hD : CD T n A b yn wn hn sn X J) {tb : Nat} (t256 : tb < 256) (k17 : A 0 17 = nI tb) (ht : tb.testBit 5 = false) : Cq yX8_parseOnce MX8_parseOnce [.ref 54, .int 5] X r J (RLn T n (onS T n A yn 5 s) b (CD T n (onA T n A yn 5 tb s) b yn wn hn sn) X J r) := by
  obtain ⟨ca0, cn0, k1, k5, k9, k12, y8, w16, h12, s7_, -⟩ := hD
  have fd0 : FD b X J X J := FD.rf
  have ps0 := h
  have hb0 : X b = X b := rfl
  have x1 : X b 1 = nI yn := by rw [ca0.b]; exact k1
  have x5 : X b 5 = nI wn := by rw [ca0.b]; exact k5
  have x9 : X b 9 = nI hn := by rw [ca0.b]; exact k9
  have x12 : X b 12 = nI sn := by rw [ca0.b]; exact k12
  have x17 : X b 17 = nI tb := by rw [ca0.b]; exact k17
  refine cq_of [some (.ref 54), some (.int 5), none] 1 (by decide +kernel) rfl rfl (Nat.le_of_ble_eq_true rfl) rfl ?_
  refine x_aload_n (q := 1) dX8_parseOnce_0 rfl rfl ?_
  refine q_gr (K := 1) (b := b) (q := 4) dX8_parseOnce_1 rfl cl_8 (by decide) tw_366 rfl rfl (congrArg some h2) ?_
  refine q_gi (K := 17) (q := 7) dX8_parseOnce_4 rfl cl_5 (by decide) tw_229 hb rfl ?_
  refine x_iload_n (q := 8) dX8_parseOnce_7 rfl rfl ?_
  refine x_ishr (q := 9) dX8_parseOnce_8 rfl ?_
  refine x_iconst (1) (q := 10) dX8_parseOnce_9 rfl (by decide) ?_
  refine x_iand (q := 11) dX8_parseOnce_10 rfl ?_
  refine x_if_eq (t := 19) (q := 14) dX8_parseOnce_11 (by decide) rfl (fun c11 => ?_) (fun c11 => absurd c11 (fun z => z ((b17_0 (k := 5) t256 (by decide) x17).mpr ht)))
  refine x_aload_n (q := 20) dX8_parseOnce_19 rfl rfl ?_
  refine q_gr (K := 1) (b := b) (q := 23) dX8_parseOnce_20 rfl cl_8 (by decide) tw_366 rfl rfl (congrArg some h2) ?_
  refine x_dup (q := 24) dX8_parseOnce_23 rfl rfl ?_
  refine q_gi (K := 17) (q := 27) dX8_parseOnce_24 rfl cl_5 (by decide) tw_229 hb rfl ?_
  refine x_iconst (1) (q := 28) dX8_parseOnce_27 rfl (by decide) ?_
  refine x_iload_n (q := 29) dX8_parseOnce_28 rfl rfl ?_
  refine x_ishl (q := 30) dX8_parseOnce_29 rfl ?_
  refine x_ior (q := 31) dX8_parseOnce_30 rfl ?_
  refine q_pi (K := 17) (q := 34) dX8_parseOnce_31 rfl cl_5 (by decide) tw_229 rfl rfl hb rfl (fun I1 eI1 => ?_)
  rw [show X b 17 ||| (1 : Int32) <<< ((5 : Int32) &&& 31) = nI (tb ||| 2 ^ 5) from b17_or (k := 5) (by decide) x17] at eI1
  have ca1 : CA (upI A 0 17 (nI (tb ||| 2 ^ 5))) b I1 := by rw [eI1]; exact CA_0 ca0
  have rg1 : ∀ c, ¬ regL b c → I1 c = X c := fun c e => by rw [eI1, upc (fun z => e (by rw [z]; exact ⟨by omega, by omega⟩))]
  have ps1 := PS_d ps0 hrg rg1
  have fd1 := fd0.tr (FD.i rg1)
  have cn1 := cn0
  refine x_aload_n (q := 35) dX8_parseOnce_34 rfl rfl ?_
  refine q_gr (K := 0) (b := 55) (q := 38) dX8_parseOnce_35 rfl cl_8 (by decide) tw_365 rfl rfl rfl ?_
  refine q_callV (ci := 6) (N := 9) (T := TX6) (As := []) (rest := []) (q := 41) dX8_parseOnce_38 rfl okX6_advance tw_673 rfl rfl (c_advP h4 ps1) rfl rfl (Nat.le_of_ble_eq_true rfl) ⟨by decide, by decide⟩ ⟨rfl, rfl⟩ (fun rv_ V2 r_ K2 hv_ => ?_)
  obtain ⟨a1_, ⟨ps2, fp2⟩, a3_⟩ := hv_
  rw [a1_, a3_]
  obtain ⟨t1, et1⟩ : ∃ z, z = adv T n s := ⟨_, rfl⟩
  rw [← et1] at ps2
  have ca2 := CA_f ca1 fp2.w hrg
  have fd2 := fd1.tr (FW.d (b := b) fp2.w)
  have cn2 := CN_f cn1 fp2.w hrg
  show Wq MX8_parseOnce 41 [some (.ref 54), some (.int 5), none] [] V2 r K2 _
  refine x_iload_n (q := 42) dX8_parseOnce_41 rfl rfl ?_
  refine x_bipush (6) (q := 44) dX8_parseOnce_42 rfl (by decide) ?_
  refine x_icmp_ne (t := 59) (q := 47) dX8_parseOnce_44 (by decide) rfl (fun c44 => ?_) (fun c44 => absurd c44 ((by decide)))
  refine x_aload_n (q := 60) dX8_parseOnce_59 rfl rfl ?_
  refine x_iconst (0) (q := 61) dX8_parseOnce_60 rfl (by decide) ?_
  refine x_sipush (9999) (q := 64) dX8_parseOnce_61 rfl (by decide) ?_
  refine q_callV (ci := 8) (N := 5) (T := TX8) (As := [.int 0, .int 9999]) (rest := []) (q := 67) dX8_parseOnce_64 rfl okX8_takeNumber tw_690 rfl rfl (c_tnu h4 ps2 (lo := 0) (hi := 9999) (by decide) (by decide)) rfl rfl (Nat.le_of_ble_eq_true rfl) ⟨by decide, by decide⟩ ⟨rfl, rfl⟩ (fun rv_ V3 r_ K3 hv_ => ?_)
  obtain ⟨x_64, a1_, hx_64, ps3, fp3, a3_⟩ := hv_
  rw [a1_, a3_]
  obtain ⟨t2, et2⟩ : ∃ z, z = tnuT T n 0 9999 t1 := ⟨_, rfl⟩
  rw [← et2] at ps3
  have ca3 := CA_f ca2 fp3.w hrg
  have fd3 := fd2.tr (FW.d (b := b) fp3.w)
  have cn3 := CN_f cn2 fp3.w hrg
  rw [← et2] at hx_64
  show Wq MX8_parseOnce 67 [some (.ref 54), some (.int 5), none] [.int x_64] V3 r K3 _
  refine x_istore_n (L2 := [some (.ref 54), some (.int 5), some (.int x_64)]) (q := 68) dX8_parseOnce_67 rfl (by decide) rfl rfl ?_
  refine x_iload_n (q := 69) dX8_parseOnce_68 rfl rfl ?_
  refine x_iconst (4) (q := 70) dX8_parseOnce_69 rfl (by decide) ?_
  refine x_icmp_ne (t := 84) (q := 73) dX8_parseOnce_70 (by decide) rfl (fun c70 => ?_) (fun c70 => absurd c70 ((by decide)))
  refine x_iload_n (q := 85) dX8_parseOnce_84 rfl rfl ?_
  refine x_iconst (5) (q := 86) dX8_parseOnce_85 rfl (by decide) ?_
  refine x_icmp_ne (t := 100) (q := 89) dX8_parseOnce_86 (by decide) rfl (fun c86 => absurd c86 ((by decide))) (fun c86 => ?_)
  refine x_aload_n (q := 90) dX8_parseOnce_89 rfl rfl ?_
  refine q_gr (K := 1) (b := b) (q := 93) dX8_parseOnce_90 rfl cl_8 (by decide) tw_366 rfl rfl (congrArg some h2) ?_
  refine x_iload_n (q := 94) dX8_parseOnce_93 rfl rfl ?_
  refine q_pi (K := 14) (q := 97) dX8_parseOnce_94 rfl cl_5 (by decide) tw_220 rfl rfl hb rfl (fun I31 eI31 => ?_)
  refine x_goto (t := 108) dX8_parseOnce_97 (by decide) ?_
  refine q_vret dX8_parseOnce_108 rfl ?_
  have ca4 : CA (upI (upI A 0 17 (nI (tb ||| 2 ^ 5))) 0 14 x_64) b I31 := by rw [eI31]; exact CA_0 ca3
  have rg4 : ∀ c, ¬ regL b c → I31 c = V3 c := fun c e => by rw [eI31, upc (fun z => e (by rw [z]; exact ⟨by omega, by omega⟩))]
  have ps4 := PS_d ps3 hrg rg4
  have fd4 := fd3.tr (FD.i rg4)
  have cn4 := cn3
  have es : onS T n A yn 5 s = t2 := by unfold onS; rw [if_neg (by decide), ← et1, et2]
  refine ⟨rfl, ⟨by rw [es]; exact ps4, fd4, fun z => ?_⟩, rfl⟩
  rw [es] at z
  have eA : onA T n A yn 5 tb s = upI (upI A 0 17 (nI (tb ||| 2 ^ 5))) 0 14 x_64 := by
    unfold onA onV
    rw [hx_64 z, ← et1]
    rfl
  rw [eA]
  exact ⟨ca4, CN_u cn4 (by rw [upc (by decide), upc (by decide)]), by rw [ups (by decide), ups (by decide)]; exact k1, by rw [ups (by decide), ups (by decide)]; exact k5, by rw [ups (by decide), ups (by decide)]; exact k9, by rw [ups (by decide), ups (by decide)]; exact k12, y8, w16, h12, s7_, tb ||| 2 ^ 5, Nat.or_lt_two_pow (n := 8) t256 (by decide), by rw [ups (by decide), upq]⟩
set_option maxRecDepth 100000 in
theorem c_pon6_f {T : Nat → Nat} {n : Nat} {r : MR} (h4 : r 4 = 1) {b : Nat} (h2 : r 2 = b) (hb : SH b = (15, 18)) (hrg : 2 ≤ b ∧ b + 26 ≤ 54) {X : MI} {J : MJ} {s : Nat × Nat × Nat} (h : PS T n s X J) {A : MI} {yn wn hn sn : Nat} (hD : CD T n A b yn wn hn sn X J) {tb : Nat} (t256 : tb < 256) (k17 : A 0 17 = nI tb) (ht : tb.testBit 6 = true) : Cq yX8_parseOnce MX8_parseOnce [.ref 54, .int 6] X r J (RLn T n (rfT T n s) b (fun _ _ => False) X J r) := by
  obtain ⟨ca0, cn0, k1, k5, k9, k12, y8, w16, h12, s7_, -⟩ := hD
  have fd0 : FD b X J X J := FD.rf
  have ps0 := h
  have hb0 : X b = X b := rfl
  have x1 : X b 1 = nI yn := by rw [ca0.b]; exact k1
  have x5 : X b 5 = nI wn := by rw [ca0.b]; exact k5
  have x9 : X b 9 = nI hn := by rw [ca0.b]; exact k9
  have x12 : X b 12 = nI sn := by rw [ca0.b]; exact k12
  have x17 : X b 17 = nI tb := by rw [ca0.b]; exact k17
  refine cq_of [some (.ref 54), some (.int 6), none] 1 (by decide +kernel) rfl rfl (Nat.le_of_ble_eq_true rfl) rfl ?_
  refine x_aload_n (q := 1) dX8_parseOnce_0 rfl rfl ?_
  refine q_gr (K := 1) (b := b) (q := 4) dX8_parseOnce_1 rfl cl_8 (by decide) tw_366 rfl rfl (congrArg some h2) ?_
  refine q_gi (K := 17) (q := 7) dX8_parseOnce_4 rfl cl_5 (by decide) tw_229 hb rfl ?_
  refine x_iload_n (q := 8) dX8_parseOnce_7 rfl rfl ?_
  refine x_ishr (q := 9) dX8_parseOnce_8 rfl ?_
  refine x_iconst (1) (q := 10) dX8_parseOnce_9 rfl (by decide) ?_
  refine x_iand (q := 11) dX8_parseOnce_10 rfl ?_
  refine x_if_eq (t := 19) (q := 14) dX8_parseOnce_11 (by decide) rfl (fun c11 => absurd c11 (fun z => absurd ((b17_0 (k := 6) t256 (by decide) x17).mp z) (by rw [ht]; decide))) (fun c11 => ?_)
  refine x_aload_n (q := 15) dX8_parseOnce_14 rfl rfl ?_
  refine q_callV (ci := 8) (N := 5) (T := TX8) (As := []) (rest := []) (q := 18) dX8_parseOnce_15 rfl okX8_refuseToken tw_665 rfl rfl (c_rfT h4 ps0) rfl rfl (Nat.le_of_ble_eq_true rfl) ⟨by decide, by decide⟩ ⟨rfl, rfl⟩ (fun rv_ V1 r_ K1 hv_ => ?_)
  obtain ⟨a1_, ⟨ps1, fp1⟩, a3_⟩ := hv_
  rw [a1_, a3_]
  obtain ⟨t1, et1⟩ : ∃ z, z = rfT T n s := ⟨_, rfl⟩
  rw [← et1] at ps1
  have ca1 := CA_f ca0 fp1.w hrg
  have fd1 := fd0.tr (FW.d (b := b) fp1.w)
  have cn1 := CN_f cn0 fp1.w hrg
  have hb1 : V1 b = X b := Eq.trans (fp1.w.1 b (by omega) (by omega)) hb0
  show Wq MX8_parseOnce 18 [some (.ref 54), some (.int 6), none] [] V1 r K1 _
  refine q_vret dX8_parseOnce_18 rfl ?_
  refine ⟨rfl, ⟨?_, fd1, fun z => absurd z rfT_n⟩, rfl⟩
  rw [← et1]; exact ps1
set_option maxRecDepth 100000 in
theorem c_pon6 {T : Nat → Nat} {n : Nat} {r : MR} (h4 : r 4 = 1) {b : Nat} (h2 : r 2 = b) (hb : SH b = (15, 18)) (hrg : 2 ≤ b ∧ b + 26 ≤ 54) {X : MI} {J : MJ} {s : Nat × Nat × Nat} (h : PS T n s X J) {A : MI} {yn wn hn sn : Nat} (hD : CD T n A b yn wn hn sn X J) {tb : Nat} (t256 : tb < 256) (k17 : A 0 17 = nI tb) (ht : tb.testBit 6 = false) : Cq yX8_parseOnce MX8_parseOnce [.ref 54, .int 6] X r J (RLn T n (onS T n A yn 6 s) b (CD T n (onA T n A yn 6 tb s) b yn wn hn sn) X J r) := by
  obtain ⟨ca0, cn0, k1, k5, k9, k12, y8, w16, h12, s7_, -⟩ := hD
  have fd0 : FD b X J X J := FD.rf
  have ps0 := h
  have hb0 : X b = X b := rfl
  have x1 : X b 1 = nI yn := by rw [ca0.b]; exact k1
  have x5 : X b 5 = nI wn := by rw [ca0.b]; exact k5
  have x9 : X b 9 = nI hn := by rw [ca0.b]; exact k9
  have x12 : X b 12 = nI sn := by rw [ca0.b]; exact k12
  have x17 : X b 17 = nI tb := by rw [ca0.b]; exact k17
  refine cq_of [some (.ref 54), some (.int 6), none] 1 (by decide +kernel) rfl rfl (Nat.le_of_ble_eq_true rfl) rfl ?_
  refine x_aload_n (q := 1) dX8_parseOnce_0 rfl rfl ?_
  refine q_gr (K := 1) (b := b) (q := 4) dX8_parseOnce_1 rfl cl_8 (by decide) tw_366 rfl rfl (congrArg some h2) ?_
  refine q_gi (K := 17) (q := 7) dX8_parseOnce_4 rfl cl_5 (by decide) tw_229 hb rfl ?_
  refine x_iload_n (q := 8) dX8_parseOnce_7 rfl rfl ?_
  refine x_ishr (q := 9) dX8_parseOnce_8 rfl ?_
  refine x_iconst (1) (q := 10) dX8_parseOnce_9 rfl (by decide) ?_
  refine x_iand (q := 11) dX8_parseOnce_10 rfl ?_
  refine x_if_eq (t := 19) (q := 14) dX8_parseOnce_11 (by decide) rfl (fun c11 => ?_) (fun c11 => absurd c11 (fun z => z ((b17_0 (k := 6) t256 (by decide) x17).mpr ht)))
  refine x_aload_n (q := 20) dX8_parseOnce_19 rfl rfl ?_
  refine q_gr (K := 1) (b := b) (q := 23) dX8_parseOnce_20 rfl cl_8 (by decide) tw_366 rfl rfl (congrArg some h2) ?_
  refine x_dup (q := 24) dX8_parseOnce_23 rfl rfl ?_
  refine q_gi (K := 17) (q := 27) dX8_parseOnce_24 rfl cl_5 (by decide) tw_229 hb rfl ?_
  refine x_iconst (1) (q := 28) dX8_parseOnce_27 rfl (by decide) ?_
  refine x_iload_n (q := 29) dX8_parseOnce_28 rfl rfl ?_
  refine x_ishl (q := 30) dX8_parseOnce_29 rfl ?_
  refine x_ior (q := 31) dX8_parseOnce_30 rfl ?_
  refine q_pi (K := 17) (q := 34) dX8_parseOnce_31 rfl cl_5 (by decide) tw_229 rfl rfl hb rfl (fun I1 eI1 => ?_)
  rw [show X b 17 ||| (1 : Int32) <<< ((6 : Int32) &&& 31) = nI (tb ||| 2 ^ 6) from b17_or (k := 6) (by decide) x17] at eI1
  have ca1 : CA (upI A 0 17 (nI (tb ||| 2 ^ 6))) b I1 := by rw [eI1]; exact CA_0 ca0
  have rg1 : ∀ c, ¬ regL b c → I1 c = X c := fun c e => by rw [eI1, upc (fun z => e (by rw [z]; exact ⟨by omega, by omega⟩))]
  have ps1 := PS_d ps0 hrg rg1
  have fd1 := fd0.tr (FD.i rg1)
  have cn1 := cn0
  refine x_aload_n (q := 35) dX8_parseOnce_34 rfl rfl ?_
  refine q_gr (K := 0) (b := 55) (q := 38) dX8_parseOnce_35 rfl cl_8 (by decide) tw_365 rfl rfl rfl ?_
  refine q_callV (ci := 6) (N := 9) (T := TX6) (As := []) (rest := []) (q := 41) dX8_parseOnce_38 rfl okX6_advance tw_673 rfl rfl (c_advP h4 ps1) rfl rfl (Nat.le_of_ble_eq_true rfl) ⟨by decide, by decide⟩ ⟨rfl, rfl⟩ (fun rv_ V2 r_ K2 hv_ => ?_)
  obtain ⟨a1_, ⟨ps2, fp2⟩, a3_⟩ := hv_
  rw [a1_, a3_]
  obtain ⟨t1, et1⟩ : ∃ z, z = adv T n s := ⟨_, rfl⟩
  rw [← et1] at ps2
  have ca2 := CA_f ca1 fp2.w hrg
  have fd2 := fd1.tr (FW.d (b := b) fp2.w)
  have cn2 := CN_f cn1 fp2.w hrg
  show Wq MX8_parseOnce 41 [some (.ref 54), some (.int 6), none] [] V2 r K2 _
  refine x_iload_n (q := 42) dX8_parseOnce_41 rfl rfl ?_
  refine x_bipush (6) (q := 44) dX8_parseOnce_42 rfl (by decide) ?_
  refine x_icmp_ne (t := 59) (q := 47) dX8_parseOnce_44 (by decide) rfl (fun c44 => absurd c44 ((by decide))) (fun c44 => ?_)
  refine x_aload_n (q := 48) dX8_parseOnce_47 rfl rfl ?_
  refine q_gr (K := 1) (b := b) (q := 51) dX8_parseOnce_48 rfl cl_8 (by decide) tw_366 rfl rfl (congrArg some h2) ?_
  refine x_aload_n (q := 52) dX8_parseOnce_51 rfl rfl ?_
  refine q_callV (ci := 8) (N := 5) (T := TX8) (As := []) (rest := [.ref b]) (q := 55) dX8_parseOnce_52 rfl okX8_takeYard tw_710 rfl rfl (c_tya h4 ps2 h2 hb cn2 (by rw [CA.b ca2, ups (by decide)]; exact k1) y8 hrg.2) rfl rfl (Nat.le_of_ble_eq_true rfl) ⟨by decide, by decide⟩ ⟨rfl, rfl⟩ (fun rv_ V3 r_ K3 hv_ => ?_)
  obtain ⟨x_52, a1_, hx_52, ps3, fp3, a3_⟩ := hv_
  rw [a1_, a3_]
  obtain ⟨t2, et2⟩ : ∃ z, z = tyaT T n A yn t1 := ⟨_, rfl⟩
  rw [← et2] at ps3
  have ca3 := CA_f ca2 fp3.w hrg
  have fd3 := fd2.tr (FW.d (b := b) fp3.w)
  have cn3 := CN_f cn2 fp3.w hrg
  rw [← et2] at hx_52
  show Wq MX8_parseOnce 55 [some (.ref 54), some (.int 6), none] [.int x_52, .ref b] V3 r K3 _
  refine q_pi (K := 15) (q := 58) dX8_parseOnce_55 rfl cl_5 (by decide) tw_223 rfl rfl hb rfl (fun I31 eI31 => ?_)
  refine q_vret dX8_parseOnce_58 rfl ?_
  have ca4 : CA (upI (upI A 0 17 (nI (tb ||| 2 ^ 6))) 0 15 x_52) b I31 := by rw [eI31]; exact CA_0 ca3
  have rg4 : ∀ c, ¬ regL b c → I31 c = V3 c := fun c e => by rw [eI31, upc (fun z => e (by rw [z]; exact ⟨by omega, by omega⟩))]
  have ps4 := PS_d ps3 hrg rg4
  have fd4 := fd3.tr (FD.i rg4)
  have cn4 := cn3
  have es : onS T n A yn 6 s = t2 := by unfold onS; rw [if_pos rfl, ← et1, et2]
  refine ⟨rfl, ⟨by rw [es]; exact ps4, fd4, fun z => ?_⟩, rfl⟩
  rw [es] at z
  have eA : onA T n A yn 6 tb s = upI (upI A 0 17 (nI (tb ||| 2 ^ 6))) 0 15 x_52 := by
    unfold onA onV
    rw [hx_52 z, ← et1]
    rfl
  rw [eA]
  exact ⟨ca4, CN_u cn4 (by rw [upc (by decide), upc (by decide)]), by rw [ups (by decide), ups (by decide)]; exact k1, by rw [ups (by decide), ups (by decide)]; exact k5, by rw [ups (by decide), ups (by decide)]; exact k9, by rw [ups (by decide), ups (by decide)]; exact k12, y8, w16, h12, s7_, tb ||| 2 ^ 6, Nat.or_lt_two_pow (n := 8) t256 (by decide), by rw [ups (by decide), upq]⟩
set_option maxRecDepth 100000 in
theorem c_pon7_f {T : Nat → Nat} {n : Nat} {r : MR} (h4 : r 4 = 1) {b : Nat} (h2 : r 2 = b) (hb : SH b = (15, 18)) (hrg : 2 ≤ b ∧ b + 26 ≤ 54) {X : MI} {J : MJ} {s : Nat × Nat × Nat} (h : PS T n s X J) {A : MI} {yn wn hn sn : Nat} (hD : CD T n A b yn wn hn sn X J) {tb : Nat} (t256 : tb < 256) (k17 : A 0 17 = nI tb) (ht : tb.testBit 7 = true) : Cq yX8_parseOnce MX8_parseOnce [.ref 54, .int 7] X r J (RLn T n (rfT T n s) b (fun _ _ => False) X J r) := by
  obtain ⟨ca0, cn0, k1, k5, k9, k12, y8, w16, h12, s7_, -⟩ := hD
  have fd0 : FD b X J X J := FD.rf
  have ps0 := h
  have hb0 : X b = X b := rfl
  have x1 : X b 1 = nI yn := by rw [ca0.b]; exact k1
  have x5 : X b 5 = nI wn := by rw [ca0.b]; exact k5
  have x9 : X b 9 = nI hn := by rw [ca0.b]; exact k9
  have x12 : X b 12 = nI sn := by rw [ca0.b]; exact k12
  have x17 : X b 17 = nI tb := by rw [ca0.b]; exact k17
  refine cq_of [some (.ref 54), some (.int 7), none] 1 (by decide +kernel) rfl rfl (Nat.le_of_ble_eq_true rfl) rfl ?_
  refine x_aload_n (q := 1) dX8_parseOnce_0 rfl rfl ?_
  refine q_gr (K := 1) (b := b) (q := 4) dX8_parseOnce_1 rfl cl_8 (by decide) tw_366 rfl rfl (congrArg some h2) ?_
  refine q_gi (K := 17) (q := 7) dX8_parseOnce_4 rfl cl_5 (by decide) tw_229 hb rfl ?_
  refine x_iload_n (q := 8) dX8_parseOnce_7 rfl rfl ?_
  refine x_ishr (q := 9) dX8_parseOnce_8 rfl ?_
  refine x_iconst (1) (q := 10) dX8_parseOnce_9 rfl (by decide) ?_
  refine x_iand (q := 11) dX8_parseOnce_10 rfl ?_
  refine x_if_eq (t := 19) (q := 14) dX8_parseOnce_11 (by decide) rfl (fun c11 => absurd c11 (fun z => absurd ((b17_0 (k := 7) t256 (by decide) x17).mp z) (by rw [ht]; decide))) (fun c11 => ?_)
  refine x_aload_n (q := 15) dX8_parseOnce_14 rfl rfl ?_
  refine q_callV (ci := 8) (N := 5) (T := TX8) (As := []) (rest := []) (q := 18) dX8_parseOnce_15 rfl okX8_refuseToken tw_665 rfl rfl (c_rfT h4 ps0) rfl rfl (Nat.le_of_ble_eq_true rfl) ⟨by decide, by decide⟩ ⟨rfl, rfl⟩ (fun rv_ V1 r_ K1 hv_ => ?_)
  obtain ⟨a1_, ⟨ps1, fp1⟩, a3_⟩ := hv_
  rw [a1_, a3_]
  obtain ⟨t1, et1⟩ : ∃ z, z = rfT T n s := ⟨_, rfl⟩
  rw [← et1] at ps1
  have ca1 := CA_f ca0 fp1.w hrg
  have fd1 := fd0.tr (FW.d (b := b) fp1.w)
  have cn1 := CN_f cn0 fp1.w hrg
  have hb1 : V1 b = X b := Eq.trans (fp1.w.1 b (by omega) (by omega)) hb0
  show Wq MX8_parseOnce 18 [some (.ref 54), some (.int 7), none] [] V1 r K1 _
  refine q_vret dX8_parseOnce_18 rfl ?_
  refine ⟨rfl, ⟨?_, fd1, fun z => absurd z rfT_n⟩, rfl⟩
  rw [← et1]; exact ps1
set_option maxRecDepth 100000 in
theorem c_pon7 {T : Nat → Nat} {n : Nat} {r : MR} (h4 : r 4 = 1) {b : Nat} (h2 : r 2 = b) (hb : SH b = (15, 18)) (hrg : 2 ≤ b ∧ b + 26 ≤ 54) {X : MI} {J : MJ} {s : Nat × Nat × Nat} (h : PS T n s X J) {A : MI} {yn wn hn sn : Nat} (hD : CD T n A b yn wn hn sn X J) {tb : Nat} (t256 : tb < 256) (k17 : A 0 17 = nI tb) (ht : tb.testBit 7 = false) : Cq yX8_parseOnce MX8_parseOnce [.ref 54, .int 7] X r J (RLn T n (onS T n A yn 7 s) b (CD T n (onA T n A yn 7 tb s) b yn wn hn sn) X J r) := by
  obtain ⟨ca0, cn0, k1, k5, k9, k12, y8, w16, h12, s7_, -⟩ := hD
  have fd0 : FD b X J X J := FD.rf
  have ps0 := h
  have hb0 : X b = X b := rfl
  have x1 : X b 1 = nI yn := by rw [ca0.b]; exact k1
  have x5 : X b 5 = nI wn := by rw [ca0.b]; exact k5
  have x9 : X b 9 = nI hn := by rw [ca0.b]; exact k9
  have x12 : X b 12 = nI sn := by rw [ca0.b]; exact k12
  have x17 : X b 17 = nI tb := by rw [ca0.b]; exact k17
  refine cq_of [some (.ref 54), some (.int 7), none] 1 (by decide +kernel) rfl rfl (Nat.le_of_ble_eq_true rfl) rfl ?_
  refine x_aload_n (q := 1) dX8_parseOnce_0 rfl rfl ?_
  refine q_gr (K := 1) (b := b) (q := 4) dX8_parseOnce_1 rfl cl_8 (by decide) tw_366 rfl rfl (congrArg some h2) ?_
  refine q_gi (K := 17) (q := 7) dX8_parseOnce_4 rfl cl_5 (by decide) tw_229 hb rfl ?_
  refine x_iload_n (q := 8) dX8_parseOnce_7 rfl rfl ?_
  refine x_ishr (q := 9) dX8_parseOnce_8 rfl ?_
  refine x_iconst (1) (q := 10) dX8_parseOnce_9 rfl (by decide) ?_
  refine x_iand (q := 11) dX8_parseOnce_10 rfl ?_
  refine x_if_eq (t := 19) (q := 14) dX8_parseOnce_11 (by decide) rfl (fun c11 => ?_) (fun c11 => absurd c11 (fun z => z ((b17_0 (k := 7) t256 (by decide) x17).mpr ht)))
  refine x_aload_n (q := 20) dX8_parseOnce_19 rfl rfl ?_
  refine q_gr (K := 1) (b := b) (q := 23) dX8_parseOnce_20 rfl cl_8 (by decide) tw_366 rfl rfl (congrArg some h2) ?_
  refine x_dup (q := 24) dX8_parseOnce_23 rfl rfl ?_
  refine q_gi (K := 17) (q := 27) dX8_parseOnce_24 rfl cl_5 (by decide) tw_229 hb rfl ?_
  refine x_iconst (1) (q := 28) dX8_parseOnce_27 rfl (by decide) ?_
  refine x_iload_n (q := 29) dX8_parseOnce_28 rfl rfl ?_
  refine x_ishl (q := 30) dX8_parseOnce_29 rfl ?_
  refine x_ior (q := 31) dX8_parseOnce_30 rfl ?_
  refine q_pi (K := 17) (q := 34) dX8_parseOnce_31 rfl cl_5 (by decide) tw_229 rfl rfl hb rfl (fun I1 eI1 => ?_)
  rw [show X b 17 ||| (1 : Int32) <<< ((7 : Int32) &&& 31) = nI (tb ||| 2 ^ 7) from b17_or (k := 7) (by decide) x17] at eI1
  have ca1 : CA (upI A 0 17 (nI (tb ||| 2 ^ 7))) b I1 := by rw [eI1]; exact CA_0 ca0
  have rg1 : ∀ c, ¬ regL b c → I1 c = X c := fun c e => by rw [eI1, upc (fun z => e (by rw [z]; exact ⟨by omega, by omega⟩))]
  have ps1 := PS_d ps0 hrg rg1
  have fd1 := fd0.tr (FD.i rg1)
  have cn1 := cn0
  refine x_aload_n (q := 35) dX8_parseOnce_34 rfl rfl ?_
  refine q_gr (K := 0) (b := 55) (q := 38) dX8_parseOnce_35 rfl cl_8 (by decide) tw_365 rfl rfl rfl ?_
  refine q_callV (ci := 6) (N := 9) (T := TX6) (As := []) (rest := []) (q := 41) dX8_parseOnce_38 rfl okX6_advance tw_673 rfl rfl (c_advP h4 ps1) rfl rfl (Nat.le_of_ble_eq_true rfl) ⟨by decide, by decide⟩ ⟨rfl, rfl⟩ (fun rv_ V2 r_ K2 hv_ => ?_)
  obtain ⟨a1_, ⟨ps2, fp2⟩, a3_⟩ := hv_
  rw [a1_, a3_]
  obtain ⟨t1, et1⟩ : ∃ z, z = adv T n s := ⟨_, rfl⟩
  rw [← et1] at ps2
  have ca2 := CA_f ca1 fp2.w hrg
  have fd2 := fd1.tr (FW.d (b := b) fp2.w)
  have cn2 := CN_f cn1 fp2.w hrg
  show Wq MX8_parseOnce 41 [some (.ref 54), some (.int 7), none] [] V2 r K2 _
  refine x_iload_n (q := 42) dX8_parseOnce_41 rfl rfl ?_
  refine x_bipush (6) (q := 44) dX8_parseOnce_42 rfl (by decide) ?_
  refine x_icmp_ne (t := 59) (q := 47) dX8_parseOnce_44 (by decide) rfl (fun c44 => ?_) (fun c44 => absurd c44 ((by decide)))
  refine x_aload_n (q := 60) dX8_parseOnce_59 rfl rfl ?_
  refine x_iconst (0) (q := 61) dX8_parseOnce_60 rfl (by decide) ?_
  refine x_sipush (9999) (q := 64) dX8_parseOnce_61 rfl (by decide) ?_
  refine q_callV (ci := 8) (N := 5) (T := TX8) (As := [.int 0, .int 9999]) (rest := []) (q := 67) dX8_parseOnce_64 rfl okX8_takeNumber tw_690 rfl rfl (c_tnu h4 ps2 (lo := 0) (hi := 9999) (by decide) (by decide)) rfl rfl (Nat.le_of_ble_eq_true rfl) ⟨by decide, by decide⟩ ⟨rfl, rfl⟩ (fun rv_ V3 r_ K3 hv_ => ?_)
  obtain ⟨x_64, a1_, hx_64, ps3, fp3, a3_⟩ := hv_
  rw [a1_, a3_]
  obtain ⟨t2, et2⟩ : ∃ z, z = tnuT T n 0 9999 t1 := ⟨_, rfl⟩
  rw [← et2] at ps3
  have ca3 := CA_f ca2 fp3.w hrg
  have fd3 := fd2.tr (FW.d (b := b) fp3.w)
  have cn3 := CN_f cn2 fp3.w hrg
  rw [← et2] at hx_64
  show Wq MX8_parseOnce 67 [some (.ref 54), some (.int 7), none] [.int x_64] V3 r K3 _
  refine x_istore_n (L2 := [some (.ref 54), some (.int 7), some (.int x_64)]) (q := 68) dX8_parseOnce_67 rfl (by decide) rfl rfl ?_
  refine x_iload_n (q := 69) dX8_parseOnce_68 rfl rfl ?_
  refine x_iconst (4) (q := 70) dX8_parseOnce_69 rfl (by decide) ?_
  refine x_icmp_ne (t := 84) (q := 73) dX8_parseOnce_70 (by decide) rfl (fun c70 => ?_) (fun c70 => absurd c70 ((by decide)))
  refine x_iload_n (q := 85) dX8_parseOnce_84 rfl rfl ?_
  refine x_iconst (5) (q := 86) dX8_parseOnce_85 rfl (by decide) ?_
  refine x_icmp_ne (t := 100) (q := 89) dX8_parseOnce_86 (by decide) rfl (fun c86 => ?_) (fun c86 => absurd c86 ((by decide)))
  refine x_aload_n (q := 101) dX8_parseOnce_100 rfl rfl ?_
  refine q_gr (K := 1) (b := b) (q := 104) dX8_parseOnce_101 rfl cl_8 (by decide) tw_366 rfl rfl (congrArg some h2) ?_
  refine x_iload_n (q := 105) dX8_parseOnce_104 rfl rfl ?_
  refine q_pi (K := 16) (q := 108) dX8_parseOnce_105 rfl cl_5 (by decide) tw_227 rfl rfl hb rfl (fun I31 eI31 => ?_)
  refine q_vret dX8_parseOnce_108 rfl ?_
  have ca4 : CA (upI (upI A 0 17 (nI (tb ||| 2 ^ 7))) 0 16 x_64) b I31 := by rw [eI31]; exact CA_0 ca3
  have rg4 : ∀ c, ¬ regL b c → I31 c = V3 c := fun c e => by rw [eI31, upc (fun z => e (by rw [z]; exact ⟨by omega, by omega⟩))]
  have ps4 := PS_d ps3 hrg rg4
  have fd4 := fd3.tr (FD.i rg4)
  have cn4 := cn3
  have es : onS T n A yn 7 s = t2 := by unfold onS; rw [if_neg (by decide), ← et1, et2]
  refine ⟨rfl, ⟨by rw [es]; exact ps4, fd4, fun z => ?_⟩, rfl⟩
  rw [es] at z
  have eA : onA T n A yn 7 tb s = upI (upI A 0 17 (nI (tb ||| 2 ^ 7))) 0 16 x_64 := by
    unfold onA onV
    rw [hx_64 z, ← et1]
    rfl
  rw [eA]
  exact ⟨ca4, CN_u cn4 (by rw [upc (by decide), upc (by decide)]), by rw [ups (by decide), ups (by decide)]; exact k1, by rw [ups (by decide), ups (by decide)]; exact k5, by rw [ups (by decide), ups (by decide)]; exact k9, by rw [ups (by decide), ups (by decide)]; exact k12, y8, w16, h12, s7_, tb ||| 2 ^ 7, Nat.or_lt_two_pow (n := 8) t256 (by decide), by rw [ups (by decide), upq]⟩
