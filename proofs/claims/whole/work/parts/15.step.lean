def fallG (fl rain : Int32) (G : GT) : GT := upd (upd G 5 (G 5 + rain)) 6 (G 6 + (fl - rain))
def saltG (tr : Int32) (G : GT) : GT := upd G 8 (G 8 - G 8 * tr / 100)
def packG (tr : Int32) (G : GT) : GT := upd (upd G 6 (G 6 - minJ (G 6) (tr / 20))) 7 (G 7 + minJ (G 6) (tr / 20))
def stepG (so la : Nat) (T fl wt tr : Int32) (G : GT) : GT := packG tr (saltG tr (runOffG (WHf so) (meltG (fallG fl (fl * wt / 10) (warmG so la T G)))))
theorem WHf_ne {so : Nat} (h : so < 4) (w : Int32) : ¬ w - WHf so ≤ 0 → ¬ w = 0 := by
  have : so = 0 ∨ so = 1 ∨ so = 2 ∨ so = 3 := by omega
  rcases this with rfl | rfl | rfl | rfl <;> (intro h1 h2; subst h2; exact absurd h1 (by decide))
theorem condN_hi (k : Nat) (G : GT) (j : Nat) (h : k < j) : condN k G j = G j := by
  induction k with
  | zero => rfl
  | succ k ih =>
    show condS k (condN k G) j = G j
    have h1 : ¬ j = k + 1 := by omega
    have h2 : ¬ j = k := by omega
    simp only [condS, upd, h1, h2, if_false]
    exact ih (by omega)
theorem warmG_hi {so la : Nat} (T : Int32) (G : GT) (h5 : la ≤ 5) {j : Nat} (hj : 5 ≤ j) : warmG so la T G j = G j := by
  unfold warmG
  rw [condN_hi _ _ _ (by omega)]
  unfold lastG topG
  have h0 : ¬ j = 0 := by omega
  split
  · have h1 : ¬ j = la - 1 := by omega
    simp only [upd, h1, h0, if_false]
  · simp only [upd, h0, if_false]
set_option maxRecDepth 100000 in
theorem c_goStep {g t b : Nat} (hg : SH g = (14, 5)) (ht : SH t = (20, 6)) (hb : SH b = (15, 18)) (step sh : Int32) {so la hh : Nat} (I : MI) (hso : I t 1 = nI so) (hs4 : so < 4) (hla : I t 4 = nI la) (h1 : 1 ≤ la) (h5 : la ≤ 5) (hhr : hourF step (I b 9) = nI hh) (hh12 : hh < 12) (G : GT) (hden : ¬ G 5 + I (b + 5) hh * I (b + 7) hh / 10 + (G 6 + (I (b + 5) hh - I (b + 5) hh * I (b + 7) hh / 10)) + G 7 + 10 = 0) (r : MR) (J : MJ) : Cq yX4_goStep MX4_goStep [.ref g, .ref t, .ref b, .int step, .int sh] (gPut I g G) r J (Rt none (gPut I g (stepG so la (I (b + 6) hh + sh) (I (b + 5) hh) (I (b + 7) hh) (I t 3) G)) r J) := by
  have h9 := ts_lt ht
  have hb9 := sh_L1 hb
  have h8 := gs_ne2 hg (show t < 60 by omega)
  have hts : ∀ G j, gPut I g G t j = I t j := fun G j => gPut_o _ _ _ _ _ h8.1 h8.2
  have hbs : ∀ G k j, k < 10 → gPut I g G (b + k) j = I (b + k) j := fun G k j hk => gPut_o _ _ _ _ _ (gs_ne2 hg (show b + k < 60 by omega)).1 (gs_ne2 hg (show b + k < 60 by omega)).2
  have hcs : (nI so).toNatClampNeg = so := nI_clamp (by omega)
  have hch : (nI hh).toNatClampNeg = hh := nI_clamp (by omega)
  have hb0 : ∀ G j, gPut I g G b j = I b j := fun G j => hbs G 0 j (by decide)
  refine cq_of [some (.ref g), some (.ref t), some (.ref b), some (.int step), some (.int sh), none, none, none] 3 (by decide +kernel) rfl rfl (Nat.le_of_ble_eq_true rfl) rfl ?_
  refine x_aload_n (q := 1) dX4_goStep_0 rfl rfl ?_
  refine x_iload_n (q := 2) dX4_goStep_1 rfl rfl ?_
  refine q_callV (ci := 5) (N := 18) (T := TX5) (As := [.int step]) (rest := []) (q := 5) dX4_goStep_2 rfl okX5_hourOf tw_773 hb rfl (c_hourOf hb step _ _ _) rfl rfl (Nat.le_of_ble_eq_true rfl) ⟨by decide, by decide⟩ ⟨rfl, rfl⟩ (fun rv_ I_ r_ J_ hv_ => ?_)
  obtain ⟨a1_, a2_, a3_, a4_⟩ := hv_
  rw [hb0, hhr] at a1_
  rw [a1_, a2_, a3_, a4_]
  show Wq MX4_goStep 5 [some (.ref g), some (.ref t), some (.ref b), some (.int step), some (.int sh), none, none, none] [.int (nI hh)] (gPut I g G) r J _
  refine x_istore (L2 := [some (.ref g), some (.ref t), some (.ref b), some (.int step), some (.int sh), some (.int (nI hh)), none, none]) (q := 7) dX4_goStep_5 rfl (by decide) rfl rfl ?_
  refine x_aload_n (q := 8) dX4_goStep_7 rfl rfl ?_
  refine x_aload_n (q := 9) dX4_goStep_8 rfl rfl ?_
  refine x_aload_n (q := 10) dX4_goStep_9 rfl rfl ?_
  refine q_gr (K := 7) (b := (b + 6)) (q := 13) dX4_goStep_10 rfl cl_5 (by decide) tw_194 hb rfl (lr_w hb _).2.2.2.2.2.1 ?_
  refine x_iload (q := 15) dX4_goStep_13 rfl rfl ?_
  refine q_iald (q := 16) dX4_goStep_15 rfl (ls_w hb).2.2.2.2.2.1 (vp_in_nI hh12 (by decide)) ?_
  refine x_iload (q := 18) dX4_goStep_16 rfl rfl ?_
  refine x_iadd (q := 19) dX4_goStep_18 rfl ?_
  refine q_callV (ci := 4) (N := 5) (T := TX4) (As := [.ref t, .int (((gPut I g G) (b + 6) (nI hh).toNatClampNeg) + sh)]) (rest := []) (q := 22) dX4_goStep_19 rfl okX4_warmBy tw_781 hg rfl (c_warmBy hg ht _ I hso hs4 hla h1 h5 G _ _) rfl rfl (Nat.le_of_ble_eq_true rfl) ⟨by decide, by decide⟩ ⟨rfl, rfl⟩ (fun rv_ I_ r_ J_ hv_ => ?_)
  obtain ⟨a1_, a2_, a3_, a4_⟩ := hv_
  rw [a1_, a2_, a3_, a4_]
  show Wq MX4_goStep 22 [some (.ref g), some (.ref t), some (.ref b), some (.int step), some (.int sh), some (.int (nI hh)), none, none] [] (gPut I g (warmG so la (gPut I g G (b + 6) (nI hh).toNatClampNeg + sh) G)) r J _
  refine x_aload_n (q := 23) dX4_goStep_22 rfl rfl ?_
  refine q_gr (K := 6) (b := (b + 5)) (q := 26) dX4_goStep_23 rfl cl_5 (by decide) tw_191 hb rfl (lr_w hb _).2.2.2.2.1 ?_
  refine x_iload (q := 28) dX4_goStep_26 rfl rfl ?_
  refine q_iald (q := 29) dX4_goStep_28 rfl (ls_w hb).2.2.2.2.1 (vp_in_nI hh12 (by decide)) ?_
  refine x_aload_n (q := 30) dX4_goStep_29 rfl rfl ?_
  refine q_gr (K := 8) (b := (b + 7)) (q := 33) dX4_goStep_30 rfl cl_5 (by decide) tw_197 hb rfl (lr_w hb _).2.2.2.2.2.2.1 ?_
  refine x_iload (q := 35) dX4_goStep_33 rfl rfl ?_
  refine q_iald (q := 36) dX4_goStep_35 rfl (ls_w hb).2.2.2.2.2.2.1 (vp_in_nI hh12 (by decide)) ?_
  refine x_imul (q := 37) dX4_goStep_36 rfl ?_
  refine x_bipush (10) (q := 39) dX4_goStep_37 rfl (by decide) ?_
  refine x_idiv (q := 40) dX4_goStep_39 rfl (by decide) ?_
  refine x_nmi (fun v1 ev1 => ?_)
  refine x_istore (L2 := [some (.ref g), some (.ref t), some (.ref b), some (.int step), some (.int sh), some (.int (nI hh)), some (.int v1), none]) (q := 42) dX4_goStep_40 rfl (by decide) rfl rfl ?_
  refine x_aload_n (q := 43) dX4_goStep_42 rfl rfl ?_
  refine x_dup (q := 44) dX4_goStep_43 rfl rfl ?_
  refine q_gi (K := 1) (q := 47) dX4_goStep_44 rfl cl_4 (by decide) tw_399 hg rfl ?_
  refine x_iload (q := 49) dX4_goStep_47 rfl rfl ?_
  refine x_iadd (q := 50) dX4_goStep_49 rfl ?_
  refine q_pi (K := 1) (q := 53) dX4_goStep_50 rfl cl_4 (by decide) tw_399 rfl rfl hg rfl (fun I2 eI2 => ?_)
  refine x_aload_n (q := 54) dX4_goStep_53 rfl rfl ?_
  refine x_dup (q := 55) dX4_goStep_54 rfl rfl ?_
  refine q_gi (K := 2) (q := 58) dX4_goStep_55 rfl cl_4 (by decide) tw_401 hg rfl ?_
  refine x_aload_n (q := 59) dX4_goStep_58 rfl rfl ?_
  refine q_gr (K := 6) (b := (b + 5)) (q := 62) dX4_goStep_59 rfl cl_5 (by decide) tw_191 hb rfl (lr_w hb _).2.2.2.2.1 ?_
  refine x_iload (q := 64) dX4_goStep_62 rfl rfl ?_
  refine q_iald (q := 65) dX4_goStep_64 rfl (ls_w hb).2.2.2.2.1 (vp_in_nI hh12 (by decide)) ?_
  refine x_iload (q := 67) dX4_goStep_65 rfl rfl ?_
  refine x_isub (q := 68) dX4_goStep_67 rfl ?_
  refine x_iadd (q := 69) dX4_goStep_68 rfl ?_
  refine q_pi (K := 2) (q := 72) dX4_goStep_69 rfl cl_4 (by decide) tw_401 rfl rfl hg rfl (fun I3 eI3 => ?_)
  have e9 : I3 = gPut I g (fallG (I (b + 5) hh) (I (b + 5) hh * I (b + 7) hh / 10) (warmG so la (I (b + 6) hh + sh) G)) := by
    subst_vars
    simp only [hts, hso, hcs, hch, hb0, hbs _ 5 _ (by decide), hbs _ 6 _ (by decide), hbs _ 7 _ (by decide), gPut_f, gPut_uf, Nat.le_refl, Nat.reduceLeDiff, Nat.reduceAdd]
    rfl
  rw [e9]
  refine x_aload_n (q := 73) dX4_goStep_72 rfl rfl ?_
  refine q_callV (ci := 4) (N := 5) (T := TX4) (As := []) (rest := []) (q := 76) dX4_goStep_73 rfl okX4_meltOrFreeze tw_787 hg rfl (c_melt hg I (fallG (I (b + 5) hh) (I (b + 5) hh * I (b + 7) hh / 10) (warmG so la (I (b + 6) hh + sh) G)) _ _ (by simpa [fallG, upd, warmG_hi _ _ h5] using hden)) rfl rfl (Nat.le_of_ble_eq_true rfl) ⟨by decide, by decide⟩ ⟨rfl, rfl⟩ (fun rv_ I_ r_ J_ hv_ => ?_)
  obtain ⟨a1_, a2_, a3_, a4_⟩ := hv_
  rw [a1_, a2_, a3_, a4_]
  show Wq MX4_goStep 76 [some (.ref g), some (.ref t), some (.ref b), some (.int step), some (.int sh), some (.int (nI hh)), some (.int v1), none] [] (gPut I g (meltG (fallG (I (b + 5) hh) (I (b + 5) hh * I (b + 7) hh / 10) (warmG so la (I (b + 6) hh + sh) G)))) r J _
  refine x_aload_n (q := 77) dX4_goStep_76 rfl rfl ?_
  refine x_gets1 (q := 80) dX4_goStep_77 rfl tw_793 ?_
  refine x_aload_n (q := 81) dX4_goStep_80 rfl rfl ?_
  refine q_gi (K := 1) (q := 84) dX4_goStep_81 rfl cl_10 (by decide) tw_127 ht rfl ?_
  refine x_tald1 (q := 85) dX4_goStep_84 rfl (by rw [hts, hso]; exact vp_in_nI hs4 (by decide)) ?_
  rw [show WHf ((gPut I g (meltG (fallG (I (b + 5) hh) (I (b + 5) hh * I (b + 7) hh / 10) (warmG so la (I (b + 6) hh + sh) G))) t 1).toNatClampNeg) = WHf so by rw [hts, hso, hcs]]
  refine q_callV (ci := 4) (N := 5) (T := TX4) (As := [.int (WHf so)]) (rest := []) (q := 88) dX4_goStep_85 rfl okX4_runOff tw_795 hg rfl (c_runOff hg (WHf so) I (meltG (fallG (I (b + 5) hh) (I (b + 5) hh * I (b + 7) hh / 10) (warmG so la (I (b + 6) hh + sh) G))) _ _ (WHf_ne hs4 _)) rfl rfl (Nat.le_of_ble_eq_true rfl) ⟨by decide, by decide⟩ ⟨rfl, rfl⟩ (fun rv_ I_ r_ J_ hv_ => ?_)
  obtain ⟨a1_, a2_, a3_, a4_⟩ := hv_
  rw [a1_, a2_, a3_, a4_]
  show Wq MX4_goStep 88 [some (.ref g), some (.ref t), some (.ref b), some (.int step), some (.int sh), some (.int (nI hh)), some (.int v1), none] [] (gPut I g (runOffG (WHf so) (meltG (fallG (I (b + 5) hh) (I (b + 5) hh * I (b + 7) hh / 10) (warmG so la (I (b + 6) hh + sh) G))))) r J _
  refine x_aload_n (q := 89) dX4_goStep_88 rfl rfl ?_
  refine x_dup (q := 90) dX4_goStep_89 rfl rfl ?_
  refine q_gi (K := 4) (q := 93) dX4_goStep_90 rfl cl_4 (by decide) tw_406 hg rfl ?_
  refine x_aload_n (q := 94) dX4_goStep_93 rfl rfl ?_
  refine q_gi (K := 4) (q := 97) dX4_goStep_94 rfl cl_4 (by decide) tw_406 hg rfl ?_
  refine x_aload_n (q := 98) dX4_goStep_97 rfl rfl ?_
  refine q_gi (K := 3) (q := 101) dX4_goStep_98 rfl cl_10 (by decide) tw_131 ht rfl ?_
  refine x_imul (q := 102) dX4_goStep_101 rfl ?_
  refine x_bipush (100) (q := 104) dX4_goStep_102 rfl (by decide) ?_
  refine x_idiv (q := 105) dX4_goStep_104 rfl (by decide) ?_
  refine x_isub (q := 106) dX4_goStep_105 rfl ?_
  refine q_pi (K := 4) (q := 109) dX4_goStep_106 rfl cl_4 (by decide) tw_406 rfl rfl hg rfl (fun I4 eI4 => ?_)
  refine x_aload_n (q := 110) dX4_goStep_109 rfl rfl ?_
  refine q_gi (K := 2) (q := 113) dX4_goStep_110 rfl cl_4 (by decide) tw_401 hg rfl ?_
  refine x_aload_n (q := 114) dX4_goStep_113 rfl rfl ?_
  refine q_gi (K := 3) (q := 117) dX4_goStep_114 rfl cl_10 (by decide) tw_131 ht rfl ?_
  refine x_bipush (20) (q := 119) dX4_goStep_117 rfl (by decide) ?_
  refine x_idiv (q := 120) dX4_goStep_119 rfl (by decide) ?_
  refine x_min (q := 123) dX4_goStep_120 rfl tw_792 mm_min_s mm_i mm_min_c (by decide) (Nat.le_of_ble_eq_true rfl) (by decide) (by decide) ?_
  refine x_nmi (fun v5 ev5 => ?_)
  refine x_istore (L2 := [some (.ref g), some (.ref t), some (.ref b), some (.int step), some (.int sh), some (.int (nI hh)), some (.int v1), some (.int v5)]) (q := 125) dX4_goStep_123 rfl (by decide) rfl rfl ?_
  refine x_aload_n (q := 126) dX4_goStep_125 rfl rfl ?_
  refine x_dup (q := 127) dX4_goStep_126 rfl rfl ?_
  refine q_gi (K := 2) (q := 130) dX4_goStep_127 rfl cl_4 (by decide) tw_401 hg rfl ?_
  refine x_iload (q := 132) dX4_goStep_130 rfl rfl ?_
  refine x_isub (q := 133) dX4_goStep_132 rfl ?_
  refine q_pi (K := 2) (q := 136) dX4_goStep_133 rfl cl_4 (by decide) tw_401 rfl rfl hg rfl (fun I6 eI6 => ?_)
  refine x_aload_n (q := 137) dX4_goStep_136 rfl rfl ?_
  refine x_dup (q := 138) dX4_goStep_137 rfl rfl ?_
  refine q_gi (K := 3) (q := 141) dX4_goStep_138 rfl cl_4 (by decide) tw_404 hg rfl ?_
  refine x_iload (q := 143) dX4_goStep_141 rfl rfl ?_
  refine x_iadd (q := 144) dX4_goStep_143 rfl ?_
  refine q_pi (K := 3) (q := 147) dX4_goStep_144 rfl cl_4 (by decide) tw_404 rfl rfl hg rfl (fun I7 eI7 => ?_)
  refine q_vret dX4_goStep_147 rfl ?_
  refine ⟨rfl, ?_, rfl, rfl⟩
  subst_vars
  simp only [hts, hso, hcs, hch, hb0, hbs _ 5 _ (by decide), hbs _ 6 _ (by decide), hbs _ 7 _ (by decide), gPut_f, gPut_uf, Nat.le_refl, Nat.reduceLeDiff, Nat.reduceAdd]
  rfl
