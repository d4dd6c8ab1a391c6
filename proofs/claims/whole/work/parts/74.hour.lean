def FD (b : Nat) (X : MI) (J : MJ) (Y : MI) (K : MJ) : Prop := (∀ c, c ≠ 54 → c ≠ 55 → ¬ regL b c → Y c = X c) ∧ ∀ c k, c ≠ 55 → ¬ regL b c → K c k = J c k
theorem FD.rf {b : Nat} {X : MI} {J : MJ} : FD b X J X J := ⟨fun _ _ _ _ => rfl, fun _ _ _ _ => rfl⟩
theorem FD.tr {b : Nat} {X Y Z : MI} {J K L : MJ} (h1 : FD b X J Y K) (h2 : FD b Y K Z L) : FD b X J Z L := ⟨fun c e1 e2 e3 => (h2.1 c e1 e2 e3).trans (h1.1 c e1 e2 e3), fun c k e e3 => (h2.2 c k e e3).trans (h1.2 c k e e3)⟩
theorem FW.d {b : Nat} {X Y : MI} {J K : MJ} (h : FW X J Y K) : FD b X J Y K := ⟨fun c e1 e2 _ => h.1 c e1 e2, fun c k e _ => h.2 c k e⟩
theorem FD.i {b : Nat} {X Y : MI} {J : MJ} (h : ∀ c, ¬ regL b c → Y c = X c) : FD b X J Y J := ⟨fun c _ _ e => h c e, fun _ _ _ _ => rfl⟩
theorem PS_d {T : Nat → Nat} {n : Nat} {s : Nat × Nat × Nat} {X Y : MI} {J : MJ} {b : Nat} (h : PS T n s X J) (hb : 2 ≤ b ∧ b + 26 ≤ 54) (hk : ∀ c, ¬ regL b c → Y c = X c) : PS T n s Y J := by
  obtain ⟨h1, h2, h3, h4, h5, h6, h7⟩ := h
  have e1 := hk 1 (fun z => by have := z.1; omega)
  have e54 := hk 54 (fun z => by have := z.2; omega)
  have e55 := hk 55 (fun z => by have := z.2; omega)
  exact ⟨⟨h1.1, fun j hj => by rw [e1]; exact h1.2 j hj⟩, h2, by rw [e54]; exact h3, by rw [e54]; exact h4, h5, h6, LxQ_54 h7 e55⟩
theorem CA.b {A : MI} {b : Nat} {X : MI} (h : CA A b X) : X b = A 0 := h 0 (by decide)
theorem CA_f {A : MI} {b : Nat} {X Y : MI} {J K : MJ} (h : CA A b X) (hf : FW X J Y K) (hb : 2 ≤ b ∧ b + 26 ≤ 54) : CA A b Y := fun c hc => by rw [hf.1 (b + c) (by omega) (by omega)]; exact h c hc
theorem CN_f {T : Nat → Nat} {n : Nat} {A : MI} {b yn : Nat} {X Y : MI} {J K : MJ} (h : CN T n A b yn J) (hf : FW X J Y K) (hb : 2 ≤ b ∧ b + 26 ≤ 54) (h8 : yn ≤ 8 := by omega) : CN T n A b yn K := fun y hy => by rw [hf.2 _ _ (by omega)]; exact h y hy
theorem CA_u {A : MI} {b c j : Nat} {x : Int32} {X : MI} (h : CA A b X) (hc : c < 26) : CA (upI A c j x) b (upI X (b + c) j x) := by
  intro d hd
  funext k
  unfold upI
  by_cases e : d = c ∧ k = j
  · rw [if_pos ⟨by omega, e.2⟩, if_pos e]
  · rw [if_neg (fun z => e ⟨by omega, z.2⟩), if_neg e, h d hd]
theorem CA_0 {A : MI} {b j : Nat} {x : Int32} {X : MI} (h : CA A b X) : CA (upI A 0 j x) b (upI X b j x) := CA_u (c := 0) h (by decide)
def CD (T : Nat → Nat) (n : Nat) (A : MI) (b yn wn hn sn : Nat) (X : MI) (J : MJ) : Prop := CA A b X ∧ CN T n A b yn J ∧ A 0 1 = nI yn ∧ A 0 5 = nI wn ∧ A 0 9 = nI hn ∧ A 0 12 = nI sn ∧ yn ≤ 8 ∧ wn ≤ 16 ∧ hn ≤ 12 ∧ sn ≤ 7 ∧ ∃ tb, tb < 256 ∧ A 0 17 = nI tb
theorem NM_u {T : Nat → Nat} {n : Nat} {A B : MI} {y : Nat} (h : B 26 = A 26) : NM T n B y = NM T n A y := by unfold NM; rw [h]
theorem CN_u {T : Nat → Nat} {n : Nat} {A B : MI} {b yn : Nat} {J : MJ} (h : CN T n A b yn J) (e : B 26 = A 26) : CN T n B b yn J := fun y hy => by rw [NM_u e]; exact h y hy
def RLn (T : Nat → Nat) (n : Nat) (s : Nat × Nat × Nat) (b : Nat) (C : MI → MJ → Prop) (X : MI) (J : MJ) (r : MR) : Option Value → MI → MR → MJ → Prop := Rq none (fun Y K => PS T n s Y K ∧ FD b X J Y K ∧ (s.1 = 0 → C Y K)) r
def hoS (T : Nat → Nat) (n : Nat) (s : Nat × Nat × Nat) : Nat × Nat × Nat := tnuT T n 0 10 (tkw T n 18 (tvaT T n 200 (tkw T n 17 (tnuT T n 0 99 (tkw T n 16 (adv T n s))))))
def hoA (T : Nat → Nat) (n : Nat) (s : Nat × Nat × Nat) (A : MI) (hn : Nat) : MI := upI (upI (upI (upI A 5 hn (nI (vl T n (tkw T n 16 (adv T n s)).2.2))) 6 hn (tvV_ T n (tkw T n 17 (tnuT T n 0 99 (tkw T n 16 (adv T n s)))))) 7 hn (nI (vl T n (tkw T n 18 (tvaT T n 200 (tkw T n 17 (tnuT T n 0 99 (tkw T n 16 (adv T n s)))))).2.2))) 0 9 (nI (hn + 1))
set_option maxRecDepth 100000 in
theorem c_pho_f {T : Nat → Nat} {n : Nat} {r : MR} (h4 : r 4 = 1) {b : Nat} (h2 : r 2 = b) (hb : SH b = (15, 18)) (hrg : 2 ≤ b ∧ b + 26 ≤ 54) {X : MI} {J : MJ} {s : Nat × Nat × Nat} (h : PS T n s X J) {A : MI} {yn wn hn sn : Nat} (hD : CD T n A b yn wn hn sn X J) (hf : 12 ≤ hn) : Cq yX8_parseHour MX8_parseHour [.ref 54] X r J (RLn T n (rfT T n s) b (fun _ _ => False) X J r) := by
  obtain ⟨ca0, cn0, k1, k5, k9, k12, y8, w16, h12, s7_, tb, t256, k17⟩ := hD
  have fd0 : FD b X J X J := FD.rf
  have ps0 := h
  have hb0 : X b = X b := rfl
  have x1 : X b 1 = nI yn := by rw [ca0.b]; exact k1
  have x5 : X b 5 = nI wn := by rw [ca0.b]; exact k5
  have x9 : X b 9 = nI hn := by rw [ca0.b]; exact k9
  have x12 : X b 12 = nI sn := by rw [ca0.b]; exact k12
  refine cq_of [some (.ref 54)] 0 (by decide +kernel) rfl rfl (Nat.le_of_ble_eq_true rfl) rfl ?_
  refine x_aload_n (q := 1) dX8_parseHour_0 rfl rfl ?_
  refine q_gr (K := 1) (b := b) (q := 4) dX8_parseHour_1 rfl cl_8 (by decide) tw_366 rfl rfl (congrArg some h2) ?_
  refine q_gi (K := 9) (q := 7) dX8_parseHour_4 rfl cl_5 (by decide) tw_199 hb rfl ?_
  refine x_bipush (12) (q := 9) dX8_parseHour_7 rfl (by decide) ?_
  refine x_icmp_lt (t := 17) (q := 12) dX8_parseHour_9 (by decide) rfl (fun c9 => absurd c9 (fun z => absurd ((nI_ltI (a := hn) (b := 12) (by omega) (by decide)).mp (by rw [x9] at z; exact z)) (by omega))) (fun c9 => ?_)
  refine x_aload_n (q := 13) dX8_parseHour_12 rfl rfl ?_
  refine q_callV (ci := 8) (N := 5) (T := TX8) (As := []) (rest := []) (q := 16) dX8_parseHour_13 rfl okX8_refuseToken tw_665 rfl rfl (c_rfT h4 ps0) rfl rfl (Nat.le_of_ble_eq_true rfl) ⟨by decide, by decide⟩ ⟨rfl, rfl⟩ (fun rv_ V1 r_ K1 hv_ => ?_)
  obtain ⟨a1_, ⟨ps1, fp1⟩, a3_⟩ := hv_
  rw [a1_, a3_]
  obtain ⟨t1, et1⟩ : ∃ z, z = rfT T n s := ⟨_, rfl⟩
  rw [← et1] at ps1
  have ca1 := CA_f ca0 fp1.w hrg
  have fd1 := fd0.tr (FW.d (b := b) fp1.w)
  have cn1 := CN_f cn0 fp1.w hrg
  have hb1 : V1 b = X b := Eq.trans (fp1.w.1 b (by omega) (by omega)) hb0
  show Wq MX8_parseHour 16 [some (.ref 54)] [] V1 r K1 _
  refine q_vret dX8_parseHour_16 rfl ?_
  refine ⟨rfl, ⟨?_, fd1, fun z => absurd z rfT_n⟩, rfl⟩
  rw [← et1]; exact ps1
set_option maxRecDepth 100000 in
theorem c_pho {T : Nat → Nat} {n : Nat} {r : MR} (h4 : r 4 = 1) {b : Nat} (h2 : r 2 = b) (hb : SH b = (15, 18)) (hrg : 2 ≤ b ∧ b + 26 ≤ 54) {X : MI} {J : MJ} {s : Nat × Nat × Nat} (h : PS T n s X J) {A : MI} {yn wn hn sn : Nat} (hD : CD T n A b yn wn hn sn X J) (hf : hn < 12) : Cq yX8_parseHour MX8_parseHour [.ref 54] X r J (RLn T n (hoS T n s) b (CD T n (hoA T n s A hn) b yn wn (hn + 1) sn) X J r) := by
  obtain ⟨ca0, cn0, k1, k5, k9, k12, y8, w16, h12, s7_, tb, t256, k17⟩ := hD
  have fd0 : FD b X J X J := FD.rf
  have ps0 := h
  have hb0 : X b = X b := rfl
  have x1 : X b 1 = nI yn := by rw [ca0.b]; exact k1
  have x5 : X b 5 = nI wn := by rw [ca0.b]; exact k5
  have x9 : X b 9 = nI hn := by rw [ca0.b]; exact k9
  have x12 : X b 12 = nI sn := by rw [ca0.b]; exact k12
  refine cq_of [some (.ref 54)] 0 (by decide +kernel) rfl rfl (Nat.le_of_ble_eq_true rfl) rfl ?_
  refine x_aload_n (q := 1) dX8_parseHour_0 rfl rfl ?_
  refine q_gr (K := 1) (b := b) (q := 4) dX8_parseHour_1 rfl cl_8 (by decide) tw_366 rfl rfl (congrArg some h2) ?_
  refine q_gi (K := 9) (q := 7) dX8_parseHour_4 rfl cl_5 (by decide) tw_199 hb rfl ?_
  refine x_bipush (12) (q := 9) dX8_parseHour_7 rfl (by decide) ?_
  refine x_icmp_lt (t := 17) (q := 12) dX8_parseHour_9 (by decide) rfl (fun c9 => ?_) (fun c9 => absurd c9 (fun z => z (by rw [x9]; exact nI_lt (b := 12) (by omega) (by decide))))
  refine x_aload_n (q := 18) dX8_parseHour_17 rfl rfl ?_
  refine q_gr (K := 0) (b := 55) (q := 21) dX8_parseHour_18 rfl cl_8 (by decide) tw_365 rfl rfl rfl ?_
  refine q_callV (ci := 6) (N := 9) (T := TX6) (As := []) (rest := []) (q := 24) dX8_parseHour_21 rfl okX6_advance tw_673 rfl rfl (c_advP h4 ps0) rfl rfl (Nat.le_of_ble_eq_true rfl) ⟨by decide, by decide⟩ ⟨rfl, rfl⟩ (fun rv_ V1 r_ K1 hv_ => ?_)
  obtain ⟨a1_, ⟨ps1, fp1⟩, a3_⟩ := hv_
  rw [a1_, a3_]
  obtain ⟨t1, et1⟩ : ∃ z, z = adv T n s := ⟨_, rfl⟩
  rw [← et1] at ps1
  have ca1 := CA_f ca0 fp1.w hrg
  have fd1 := fd0.tr (FW.d (b := b) fp1.w)
  have cn1 := CN_f cn0 fp1.w hrg
  have hb1 : V1 b = X b := Eq.trans (fp1.w.1 b (by omega) (by omega)) hb0
  show Wq MX8_parseHour 24 [some (.ref 54)] [] V1 r K1 _
  refine x_aload_n (q := 25) dX8_parseHour_24 rfl rfl ?_
  refine x_bipush (16) (q := 27) dX8_parseHour_25 rfl (by decide) ?_
  refine q_callV (ci := 8) (N := 5) (T := TX8) (As := [.int 16]) (rest := []) (q := 30) dX8_parseHour_27 rfl okX8_takeKeyword tw_686 rfl rfl (c_tkw h4 ps1 (i := 16) (by decide)) rfl rfl (Nat.le_of_ble_eq_true rfl) ⟨by decide, by decide⟩ ⟨rfl, rfl⟩ (fun rv_ V2 r_ K2 hv_ => ?_)
  obtain ⟨a1_, ⟨ps2, fp2⟩, a3_⟩ := hv_
  rw [a1_, a3_]
  obtain ⟨t2, et2⟩ : ∃ z, z = tkw T n 16 t1 := ⟨_, rfl⟩
  rw [← et2] at ps2
  have ca2 := CA_f ca1 fp2.w hrg
  have fd2 := fd1.tr (FW.d (b := b) fp2.w)
  have cn2 := CN_f cn1 fp2.w hrg
  have hb2 : V2 b = X b := Eq.trans (fp2.w.1 b (by omega) (by omega)) hb1
  show Wq MX8_parseHour 30 [some (.ref 54)] [] V2 r K2 _
  refine x_aload_n (q := 31) dX8_parseHour_30 rfl rfl ?_
  refine q_gr (K := 1) (b := b) (q := 34) dX8_parseHour_31 rfl cl_8 (by decide) tw_366 rfl rfl (congrArg some h2) ?_
  refine q_gr (K := 6) (b := (b + 5)) (q := 37) dX8_parseHour_34 rfl cl_5 (by decide) tw_190 hb rfl (lr_w hb _).2.2.2.2.1 ?_
  refine x_aload_n (q := 38) dX8_parseHour_37 rfl rfl ?_
  refine q_gr (K := 1) (b := b) (q := 41) dX8_parseHour_38 rfl cl_8 (by decide) tw_366 rfl rfl (congrArg some h2) ?_
  refine q_gi (K := 9) (q := 44) dX8_parseHour_41 rfl cl_5 (by decide) tw_199 hb rfl ?_
  refine x_aload_n (q := 45) dX8_parseHour_44 rfl rfl ?_
  refine x_iconst (0) (q := 46) dX8_parseHour_45 rfl (by decide) ?_
  refine x_bipush (99) (q := 48) dX8_parseHour_46 rfl (by decide) ?_
  refine q_callV (ci := 8) (N := 5) (T := TX8) (As := [.int 0, .int 99]) (rest := [.int (V2 b 9), .ref (b + 5)]) (q := 51) dX8_parseHour_48 rfl okX8_takeNumber tw_690 rfl rfl (c_tnu h4 ps2 (lo := 0) (hi := 99) (by decide) (by decide)) rfl rfl (Nat.le_of_ble_eq_true rfl) ⟨by decide, by decide⟩ ⟨rfl, rfl⟩ (fun rv_ V3 r_ K3 hv_ => ?_)
  obtain ⟨x_48, a1_, hx_48, ps3, fp3, a3_⟩ := hv_
  rw [a1_, a3_]
  obtain ⟨t3, et3⟩ : ∃ z, z = tnuT T n 0 99 t2 := ⟨_, rfl⟩
  rw [← et3] at ps3
  have ca3 := CA_f ca2 fp3.w hrg
  have fd3 := fd2.tr (FW.d (b := b) fp3.w)
  have cn3 := CN_f cn2 fp3.w hrg
  have hb3 : V3 b = X b := Eq.trans (fp3.w.1 b (by omega) (by omega)) hb2
  rw [← et3] at hx_48
  show Wq MX8_parseHour 51 [some (.ref 54)] [.int x_48, .int (V2 b 9), .ref (b + 5)] V3 r K3 _
  refine q_iast (q := 52) dX8_parseHour_51 rfl (ls_w hb).2.2.2.2.1 (by rw [hb2, x9]; exact vp_in_nI (by omega) (by decide)) (fun I1 eI1 => ?_)
  rw [hb2, x9, nI_clamp (by omega)] at eI1
  have ca4 : CA (upI A 5 hn x_48) b I1 := by rw [eI1]; exact CA_u ca3 (by decide)
  have rg4 : ∀ c, ¬ regL b c → I1 c = V3 c := fun c e => by rw [eI1, upc (fun z => e (by rw [z]; exact ⟨by omega, by omega⟩))]
  have ps4 := PS_d ps3 hrg rg4
  have fd4 := fd3.tr (FD.i rg4)
  have cn4 := cn3
  have hb4 : I1 b = X b := Eq.trans (by rw [eI1, upc (by omega)]) hb3
  refine x_aload_n (q := 53) dX8_parseHour_52 rfl rfl ?_
  refine x_bipush (17) (q := 55) dX8_parseHour_53 rfl (by decide) ?_
  refine q_callV (ci := 8) (N := 5) (T := TX8) (As := [.int 17]) (rest := []) (q := 58) dX8_parseHour_55 rfl okX8_takeKeyword tw_686 rfl rfl (c_tkw h4 ps4 (i := 17) (by decide)) rfl rfl (Nat.le_of_ble_eq_true rfl) ⟨by decide, by decide⟩ ⟨rfl, rfl⟩ (fun rv_ V5 r_ K5 hv_ => ?_)
  obtain ⟨a1_, ⟨ps5, fp5⟩, a3_⟩ := hv_
  rw [a1_, a3_]
  obtain ⟨t4, et4⟩ : ∃ z, z = tkw T n 17 t3 := ⟨_, rfl⟩
  rw [← et4] at ps5
  have ca5 := CA_f ca4 fp5.w hrg
  have fd5 := fd4.tr (FW.d (b := b) fp5.w)
  have cn5 := CN_f cn4 fp5.w hrg
  have hb5 : V5 b = X b := Eq.trans (fp5.w.1 b (by omega) (by omega)) hb4
  show Wq MX8_parseHour 58 [some (.ref 54)] [] V5 r K5 _
  refine x_aload_n (q := 59) dX8_parseHour_58 rfl rfl ?_
  refine q_gr (K := 1) (b := b) (q := 62) dX8_parseHour_59 rfl cl_8 (by decide) tw_366 rfl rfl (congrArg some h2) ?_
  refine q_gr (K := 7) (b := (b + 6)) (q := 65) dX8_parseHour_62 rfl cl_5 (by decide) tw_193 hb rfl (lr_w hb _).2.2.2.2.2.1 ?_
  refine x_aload_n (q := 66) dX8_parseHour_65 rfl rfl ?_
  refine q_gr (K := 1) (b := b) (q := 69) dX8_parseHour_66 rfl cl_8 (by decide) tw_366 rfl rfl (congrArg some h2) ?_
  refine q_gi (K := 9) (q := 72) dX8_parseHour_69 rfl cl_5 (by decide) tw_199 hb rfl ?_
  refine x_aload_n (q := 73) dX8_parseHour_72 rfl rfl ?_
  refine x_sipush (-200) (q := 76) dX8_parseHour_73 rfl (by decide) ?_
  refine x_sipush (200) (q := 79) dX8_parseHour_76 rfl (by decide) ?_
  refine q_callV (ci := 8) (N := 5) (T := TX8) (As := [.int (-200), .int 200]) (rest := [.int (V5 b 9), .ref (b + 6)]) (q := 82) dX8_parseHour_79 rfl okX8_takeValue tw_698 rfl rfl (c_tva h4 ps5 (m := 200) (by decide)) rfl rfl (Nat.le_of_ble_eq_true rfl) ⟨by decide, by decide⟩ ⟨rfl, rfl⟩ (fun rv_ V6 r_ K6 hv_ => ?_)
  obtain ⟨x_79, a1_, hx_79, ps6, fp6, vp6, a3_⟩ := hv_
  rw [a1_, a3_]
  obtain ⟨t5, et5⟩ : ∃ z, z = tvaT T n 200 t4 := ⟨_, rfl⟩
  rw [← et5] at ps6
  have ca6 := CA_f ca5 fp6 hrg
  have fd6 := fd5.tr (FW.d (b := b) fp6)
  have cn6 := CN_f cn5 fp6 hrg
  have hb6 : V6 b = X b := Eq.trans (fp6.1 b (by omega) (by omega)) hb5
  rw [← et5] at hx_79
  show Wq MX8_parseHour 82 [some (.ref 54)] [.int x_79, .int (V5 b 9), .ref (b + 6)] V6 r K6 _
  refine q_iast (q := 83) dX8_parseHour_82 rfl (ls_w hb).2.2.2.2.2.1 (by rw [hb5, x9]; exact vp_in_nI (by omega) (by decide)) (fun I21 eI21 => ?_)
  rw [hb5, x9, nI_clamp (by omega)] at eI21
  have ca7 : CA (upI (upI A 5 hn x_48) 6 hn x_79) b I21 := by rw [eI21]; exact CA_u ca6 (by decide)
  have rg7 : ∀ c, ¬ regL b c → I21 c = V6 c := fun c e => by rw [eI21, upc (fun z => e (by rw [z]; exact ⟨by omega, by omega⟩))]
  have ps7 := PS_d ps6 hrg rg7
  have fd7 := fd6.tr (FD.i rg7)
  have cn7 := cn6
  have hb7 : I21 b = X b := Eq.trans (by rw [eI21, upc (by omega)]) hb6
  refine x_aload_n (q := 84) dX8_parseHour_83 rfl rfl ?_
  refine x_bipush (18) (q := 86) dX8_parseHour_84 rfl (by decide) ?_
  refine q_callV (ci := 8) (N := 5) (T := TX8) (As := [.int 18]) (rest := []) (q := 89) dX8_parseHour_86 rfl okX8_takeKeyword tw_686 rfl rfl (c_tkw h4 ps7 (i := 18) (by decide)) rfl rfl (Nat.le_of_ble_eq_true rfl) ⟨by decide, by decide⟩ ⟨rfl, rfl⟩ (fun rv_ V8 r_ K8 hv_ => ?_)
  obtain ⟨a1_, ⟨ps8, fp8⟩, a3_⟩ := hv_
  rw [a1_, a3_]
  obtain ⟨t6, et6⟩ : ∃ z, z = tkw T n 18 t5 := ⟨_, rfl⟩
  rw [← et6] at ps8
  have ca8 := CA_f ca7 fp8.w hrg
  have fd8 := fd7.tr (FW.d (b := b) fp8.w)
  have cn8 := CN_f cn7 fp8.w hrg
  have hb8 : V8 b = X b := Eq.trans (fp8.w.1 b (by omega) (by omega)) hb7
  show Wq MX8_parseHour 89 [some (.ref 54)] [] V8 r K8 _
  refine x_aload_n (q := 90) dX8_parseHour_89 rfl rfl ?_
  refine q_gr (K := 1) (b := b) (q := 93) dX8_parseHour_90 rfl cl_8 (by decide) tw_366 rfl rfl (congrArg some h2) ?_
  refine q_gr (K := 8) (b := (b + 7)) (q := 96) dX8_parseHour_93 rfl cl_5 (by decide) tw_196 hb rfl (lr_w hb _).2.2.2.2.2.2.1 ?_
  refine x_aload_n (q := 97) dX8_parseHour_96 rfl rfl ?_
  refine q_gr (K := 1) (b := b) (q := 100) dX8_parseHour_97 rfl cl_8 (by decide) tw_366 rfl rfl (congrArg some h2) ?_
  refine q_gi (K := 9) (q := 103) dX8_parseHour_100 rfl cl_5 (by decide) tw_199 hb rfl ?_
  refine x_aload_n (q := 104) dX8_parseHour_103 rfl rfl ?_
  refine x_iconst (0) (q := 105) dX8_parseHour_104 rfl (by decide) ?_
  refine x_bipush (10) (q := 107) dX8_parseHour_105 rfl (by decide) ?_
  refine q_callV (ci := 8) (N := 5) (T := TX8) (As := [.int 0, .int 10]) (rest := [.int (V8 b 9), .ref (b + 7)]) (q := 110) dX8_parseHour_107 rfl okX8_takeNumber tw_690 rfl rfl (c_tnu h4 ps8 (lo := 0) (hi := 10) (by decide) (by decide)) rfl rfl (Nat.le_of_ble_eq_true rfl) ⟨by decide, by decide⟩ ⟨rfl, rfl⟩ (fun rv_ V9 r_ K9 hv_ => ?_)
  obtain ⟨x_107, a1_, hx_107, ps9, fp9, a3_⟩ := hv_
  rw [a1_, a3_]
  obtain ⟨t7, et7⟩ : ∃ z, z = tnuT T n 0 10 t6 := ⟨_, rfl⟩
  rw [← et7] at ps9
  have ca9 := CA_f ca8 fp9.w hrg
  have fd9 := fd8.tr (FW.d (b := b) fp9.w)
  have cn9 := CN_f cn8 fp9.w hrg
  have hb9 : V9 b = X b := Eq.trans (fp9.w.1 b (by omega) (by omega)) hb8
  rw [← et7] at hx_107
  show Wq MX8_parseHour 110 [some (.ref 54)] [.int x_107, .int (V8 b 9), .ref (b + 7)] V9 r K9 _
  refine q_iast (q := 111) dX8_parseHour_110 rfl (ls_w hb).2.2.2.2.2.2.1 (by rw [hb8, x9]; exact vp_in_nI (by omega) (by decide)) (fun I41 eI41 => ?_)
  rw [hb8, x9, nI_clamp (by omega)] at eI41
  have ca10 : CA (upI (upI (upI A 5 hn x_48) 6 hn x_79) 7 hn x_107) b I41 := by rw [eI41]; exact CA_u ca9 (by decide)
  have rg10 : ∀ c, ¬ regL b c → I41 c = V9 c := fun c e => by rw [eI41, upc (fun z => e (by rw [z]; exact ⟨by omega, by omega⟩))]
  have ps10 := PS_d ps9 hrg rg10
  have fd10 := fd9.tr (FD.i rg10)
  have cn10 := cn9
  have hb10 : I41 b = X b := Eq.trans (by rw [eI41, upc (by omega)]) hb9
  refine x_aload_n (q := 112) dX8_parseHour_111 rfl rfl ?_
  refine q_gr (K := 1) (b := b) (q := 115) dX8_parseHour_112 rfl cl_8 (by decide) tw_366 rfl rfl (congrArg some h2) ?_
  refine x_dup (q := 116) dX8_parseHour_115 rfl rfl ?_
  refine q_gi (K := 9) (q := 119) dX8_parseHour_116 rfl cl_5 (by decide) tw_199 hb rfl ?_
  refine x_iconst (1) (q := 120) dX8_parseHour_119 rfl (by decide) ?_
  refine x_iadd (q := 121) dX8_parseHour_120 rfl ?_
  refine q_pi (K := 9) (q := 124) dX8_parseHour_121 rfl cl_5 (by decide) tw_199 rfl rfl hb rfl (fun I61 eI61 => ?_)
  refine q_vret dX8_parseHour_124 rfl ?_
  rw [hb10, x9, nI_p1] at eI61
  have ca11 : CA (upI (upI (upI (upI A 5 hn x_48) 6 hn x_79) 7 hn x_107) 0 9 (nI (hn + 1))) b I61 := by rw [eI61]; exact CA_0 ca10
  have rg11 : ∀ c, ¬ regL b c → I61 c = I41 c := fun c e => by rw [eI61, upc (fun z => e (by rw [z]; exact ⟨by omega, by omega⟩))]
  have ps11 := PS_d ps10 hrg rg11
  have fd11 := fd10.tr (FD.i rg11)
  have cn11 := cn10
  have es : hoS T n s = t7 := by unfold hoS; rw [et7, et6, et5, et4, et3, et2, et1]
  refine ⟨rfl, ⟨by rw [es]; exact ps11, fd11, fun z => ?_⟩, rfl⟩
  rw [es] at z
  have f_t7 := tnuT_0 (by rw [et7] at z; exact z)
  have z_t6 : t6.1 = 0 := f_t7.1.1
  have f_t6 := tkw_0 (by rw [et6] at z_t6; exact z_t6)
  have z_t5 : t5.1 = 0 := f_t6.1
  have f_t5 := tvaT_0 (by rw [et5] at z_t5; exact z_t5)
  have z_t4 : t4.1 = 0 := f_t5.1
  have f_t4 := tkw_0 (by rw [et4] at z_t4; exact z_t4)
  have z_t3 : t3.1 = 0 := f_t4.1
  have f_t3 := tnuT_0 (by rw [et3] at z_t3; exact z_t3)
  have z_t2 : t2.1 = 0 := f_t3.1.1
  have f_t2 := tkw_0 (by rw [et2] at z_t2; exact z_t2)
  have z_t1 : t1.1 = 0 := f_t2.1
  have z_s : s.1 = 0 := by rw [et1] at z_t1; exact z_t1
  have eA : hoA T n s A hn = upI (upI (upI (upI A 5 hn x_48) 6 hn x_79) 7 hn x_107) 0 9 (nI (hn + 1)) := by
    unfold hoA
    rw [hx_48 z_t3, hx_79 z_t5, hx_107 z, ← et1, ← et2, ← et3, ← et4, ← et5, ← et6]
  rw [eA]
  exact ⟨ca11, CN_u cn11 (by rw [upc (by decide), upc (by decide), upc (by decide), upc (by decide)]), by rw [ups (by decide), upc (by decide), upc (by decide), upc (by decide)]; exact k1, by rw [ups (by decide), upc (by decide), upc (by decide), upc (by decide)]; exact k5, by rw [upq], by rw [ups (by decide), upc (by decide), upc (by decide), upc (by decide)]; exact k12, y8, w16, by omega, s7_, tb, t256, by rw [ups (by decide), upc (by decide), upc (by decide), upc (by decide)]; exact k17⟩
