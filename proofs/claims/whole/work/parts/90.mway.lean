theorem tkw_f {T : Nat → Nat} {n i : Nat} {s : Nat × Nat × Nat} (h : ¬ s.1 = 0) : tkw T n i s = s := if_neg h
theorem tnu_f {T : Nat → Nat} {n lo hi : Nat} {s : Nat × Nat × Nat} (h : ¬ s.1 = 0) : tnuT T n lo hi s = s := by
  unfold tnuT; rw [if_neg (fun z => h z.1)]; exact rfT_s h
theorem tna_f {T : Nat → Nat} {n : Nat} {s : Nat × Nat × Nat} (h : ¬ s.1 = 0) : tnaT T n s = s := by
  unfold tnaT; rw [if_neg (fun z => h z.1)]; exact rfT_s h
theorem tso_f {T : Nat → Nat} {n : Nat} {s : Nat × Nat × Nat} (h : ¬ s.1 = 0) : tsoT T n s = s := by
  unfold tsoT; rw [if_neg (fun z => h z.1)]; exact rfT_s h
theorem tya_f {T : Nat → Nat} {n : Nat} {A : MI} {yn : Nat} {s : Nat × Nat × Nat} (h : ¬ s.1 = 0) : tyaT T n A yn s = s := by
  unfold tyaT; rw [tna_f h, if_neg (fun z => h z.1)]; exact rf_s h
theorem ite_b {c : Bool} {α : Type} (x : α) : (if c then x else x) = x := by cases c <;> rfl
theorem wyS_f {T : Nat → Nat} {n : Nat} {A : MI} {yn wn : Nat} {s : Nat × Nat × Nat} (h : ¬ (tyaT T n A yn (adv T n s)).1 = 0) : wyS T n A yn wn s = tyaT T n A yn (adv T n s) := by
  unfold wyS wyC
  rw [tya_f h, rf_s h, ite_b, tkw_f h, tnu_f h]
theorem hwF_2 {A : MI} {x y : Int32} : ∀ k, hwF A x y k = true → ∃ i, i < k ∧ ((A 2 i = x ∧ A 3 i = y) ∨ (A 2 i = y ∧ A 3 i = x)) := by
  intro k
  induction k with
  | zero => intro h; exact absurd h (by unfold hwF; decide)
  | succ k ih =>
    intro h
    unfold hwF at h
    simp only [Bool.or_eq_true, Bool.and_eq_true, decide_eq_true_eq] at h
    rcases h with h | h
    · obtain ⟨i, hi, hh⟩ := ih h
      exact ⟨i, by omega, hh⟩
    · exact ⟨k, by omega, h⟩
theorem wy_1 {A M : MI} {yn wn f g : Nat} (h : MDw A M yn wn) (y8 : yn ≤ 8) (hf : f < 8) (hg : g < 8) (hw : hwF A (nI f) (nI g) wn = true) : ¬ M 108 (8 * f + g) ≤ 0 := by
  obtain ⟨i, hi, hh⟩ := hwF_2 wn hw
  obtain ⟨f', t', k, a1, a2, a3, a4, a5, a6, a7, a8, a9, a10⟩ := h.1 i hi
  rw [a1, a2, nI_eq (by omega) (by omega), nI_eq (by omega) (by omega), nI_eq (by omega) (by omega), nI_eq (by omega) (by omega)] at hh
  have e : M 108 (8 * f + g) = nI k := by
    rcases hh with hh | hh
    · rw [← hh.1, ← hh.2]; exact a9
    · rw [← hh.1, ← hh.2]; exact a10
  rw [e]
  exact nI_ge (a := 0) (by omega) (by omega)
theorem wy_0 {A M : MI} {yn wn f g : Nat} (h : MDw A M yn wn) (hf : f < 8) (hg : g < 8) (hw : ¬ hwF A (nI f) (nI g) wn = true) : M 108 (8 * f + g) = 0 := by
  rcases h.2 f g hf hg with q | ⟨i, hi, hh⟩
  · exact q
  · exact absurd (hwF_1 hh wn hi) hw
theorem i8 (f g : Nat) : (8 : Int32) * nI f + nI g = nI (8 * f + g) := by
  rw [show (8 : Int32) = nI 8 from rfl, pk_mul, nI_add]
theorem MD_wy {T : Nat → Nat} {n : Nat} {A : MI} {yn wn hn sn : Nat} {M Y : MI} {J K : MJ} (h : MD T n A yn wn hn sn M J) (hf : wn < 16) {f g k : Nat} (hfy : f < yn) (hgy : g < yn) (hfg : ¬ f = g) (hk1 : 1 ≤ k) (hk2 : k ≤ 60) (hno : ¬ hwF A (nI f) (nI g) wn = true) (hd : DA (upI (upI (upI M 108 (8 * f + g) (nI k)) 108 (8 * g + f) (nI k)) 100 34 (nI (wn + 1))) Y) (hk : ∀ i, K 102 i = J 102 i) : MD T n (upI (upI (upI (upI A 2 wn (nI f)) 3 wn (nI g)) 4 wn (nI k)) 0 5 (nI (wn + 1))) yn (wn + 1) hn sn Y K := by
  obtain ⟨⟨k1, k5, k9, k12⟩, ⟨y8, w16, h12, s7⟩, ⟨m33, m34, m35, m36⟩, hMN, hMy, hMh, hMs, hMw, hMo⟩ := h
  have ea : ∀ c', ¬ c' = 0 → ¬ c' = 2 → ¬ c' = 3 → ¬ c' = 4 → (upI (upI (upI (upI A 2 wn (nI f)) 3 wn (nI g)) 4 wn (nI k)) 0 5 (nI (wn + 1))) c' = A c' := fun c' z0 _ _ _ => by rw [upc (by omega), upc (by omega), upc (by omega), upc (by omega)]
  have e0 : ∀ j, ¬ j = 5 → (upI (upI (upI (upI A 2 wn (nI f)) 3 wn (nI g)) 4 wn (nI k)) 0 5 (nI (wn + 1))) 0 j = A 0 j := fun j _ => by rw [ups (by omega), upc (by omega), upc (by omega), upc (by omega)]
  have em : ∀ c', 103 ≤ c' → c' ≤ 113 → ¬ c' = 108 → Y c' = M c' := fun c' z1 z2 _ => by rw [hd.1 c' z1 z2, upc (by omega), upc (by omega), upc (by omega)]
  have e1 : ∀ j, 33 ≤ j → j ≤ 40 → ¬ j = 34 → Y 100 j = M 100 j := fun j z1 z2 _ => by rw [hd.2 j z1 z2, ups (by omega), upc (by omega), upc (by omega)]
  refine ⟨⟨by rw [e0 1 (by omega)]; exact k1, by rw [upq], by rw [e0 9 (by omega)]; exact k9, by rw [e0 12 (by omega)]; exact k12⟩, ⟨by omega, by omega, by omega, by omega⟩, ⟨by rw [e1 33 (by decide) (by decide) (by omega)]; exact m33, by rw [hd.2 34 (by decide) (by decide), upq], by rw [e1 35 (by decide) (by decide) (by omega)]; exact m35, by rw [e1 36 (by decide) (by decide) (by omega)]; exact m36⟩, MN_c hMN (ea 26 (by omega) (by omega) (by omega) (by omega)) hk, My_c hMy y8 (fun c' z1 z2 => ea c' (by omega) (by omega) (by omega) (by omega)) (fun c' z1 z2 => em c' (by omega) (by omega) (by omega)), Mh_c hMh (fun c' z1 z2 => ea c' (by omega) (by omega) (by omega) (by omega)) (fun c' z1 z2 => em c' (by omega) (by omega) (by omega)), Ms_c hMs (ea 8 (by omega) (by omega) (by omega) (by omega)) (ea 9 (by omega) (by omega) (by omega) (by omega)) (em 112 (by decide) (by decide) (by omega)) (em 113 (by decide) (by decide) (by omega)), ?_, Mo_c hMo (Nat.le_refl _) (fun j z1 z2 => e0 j (by omega)) (fun j z1 z2 => e1 j (by omega) (by omega) (by omega))⟩
  · have a2 : (upI (upI (upI (upI A 2 wn (nI f)) 3 wn (nI g)) 4 wn (nI k)) 0 5 (nI (wn + 1))) 2 = upI A 2 wn (nI f) 2 := by rw [upc (by decide), upc (by decide), upc (by decide)]
    have a3 : (upI (upI (upI (upI A 2 wn (nI f)) 3 wn (nI g)) 4 wn (nI k)) 0 5 (nI (wn + 1))) 3 = upI A 3 wn (nI g) 3 := by rw [upc (by decide), upc (by decide)]; exact upx (upc (by decide))
    have a4 : (upI (upI (upI (upI A 2 wn (nI f)) 3 wn (nI g)) 4 wn (nI k)) 0 5 (nI (wn + 1))) 4 = upI A 4 wn (nI k) 4 := by rw [upc (by decide)]; exact upx ((upc (by decide)).trans (upc (by decide)))
    have y108 : Y 108 = upI (upI M 108 (8 * f + g) (nI k)) 108 (8 * g + f) (nI k) 108 := by rw [hd.1 108 (by decide) (by decide), upc (by decide)]
    unfold MDw wyI
    rw [a2, a3, a4, y108]
    refine ⟨fun i hi => ?_, fun a c ha hc => ?_⟩
    · by_cases e : i = wn
      · refine ⟨f, g, k, ?_, ?_, ?_, hfy, hgy, hfg, hk1, hk2, ?_, ?_⟩
        · rw [e, upq]
        · rw [e, upq]
        · rw [e, upq]
        · rw [ups (by omega), upq]
        · rw [upq]
      · obtain ⟨f', t', k', b1, b2, b3, b4, b5, b6, b7, b8, b9, b10⟩ := hMw.1 i (by omega)
        have n1 : ¬ (f' = f ∧ t' = g) := fun z => hno (hwF_1 (i := i) (Or.inl ⟨by rw [b1, z.1], by rw [b2, z.2]⟩) wn (by omega))
        have n2 : ¬ (f' = g ∧ t' = f) := fun z => hno (hwF_1 (i := i) (Or.inr ⟨by rw [b1, z.1], by rw [b2, z.2]⟩) wn (by omega))
        exact ⟨f', t', k', by rw [ups e]; exact b1, by rw [ups e]; exact b2, by rw [ups e]; exact b3, b4, b5, b6, b7, b8, by rw [ups (by omega), ups (by omega)]; exact b9, by rw [ups (by omega), ups (by omega)]; exact b10⟩
    · by_cases e : (a = f ∧ c = g) ∨ (a = g ∧ c = f)
      · refine Or.inr ⟨wn, by omega, ?_⟩
        rw [upq, upq]
        rcases e with e | e
        · exact Or.inl ⟨by rw [e.1], by rw [e.2]⟩
        · exact Or.inr ⟨by rw [e.2], by rw [e.1]⟩
      · rw [ups (by omega), ups (by omega)]
        rcases hMw.2 a c ha hc with q | ⟨i, hi, hh⟩
        · exact Or.inl q
        · refine Or.inr ⟨i, by omega, ?_⟩
          rw [ups (by omega), ups (by omega)]
          exact hh
set_option maxRecDepth 100000 in
theorem l_wyE {T : Nat → Nat} {n : Nat} (r : MR) {M : MI} {J : MJ} {A : MI} {yn wn hn sn : Nat} (hD : MD T n A yn wn hn sn M J) {V : MI} {K : MJ} {t : Nat × Nat × Nat} (pm0 : PM T n t V K) (fl0 : FL M J V K) (da0 : DA M V) (kn0 : ∀ i, K 102 i = J 102 i) (hf : wn < 16) {f g : Nat} {a b : Int32} (ht : t.1 = 0 → a = nI f ∧ b = nI g ∧ f < yn ∧ g < yn ∧ ¬ f = g ∧ ¬ hwF A (nI f) (nI g) wn = true) (x3 : Option Value) : Wq MX12_readWay 62 [some (.ref 100), some (.int a), some (.int b), x3] [] V r K (RML T n (tnuT T n 1 60 (tkw T n 15 t)) (MD T n (upI (upI (upI (upI A 2 wn (nI f)) 3 wn (nI g)) 4 wn (nI (vl T n (tkw T n 15 t).2.2))) 0 5 (nI (wn + 1))) yn (wn + 1) hn sn) M J r) := by
  obtain ⟨⟨k1, k5, k9, k12⟩, ⟨y8, w16, h12, s7⟩, ⟨m33, m34, m35, m36⟩, hMN, hMy, hMh, hMs, hMw, hMo⟩ := id hD
  have hc0 : V 100 34 = nI wn := (da0.2 34 (by decide) (by decide)).trans m34
  refine x_aload_n (q := 63) dX12_readWay_62 rfl rfl ?_
  refine x_ldc2 (v := 499850634611) (q := 66) dX12_readWay_63 rfl tw_1375 ?_
  refine x_iconst (1) (q := 67) dX12_readWay_66 rfl (by decide) ?_
  refine x_bipush (60) (q := 69) dX12_readWay_67 rfl (by decide) ?_
  refine q_callV (ci := 12) (N := 79) (T := TX12) (As := [.long 499850634611, .int 1, .int 60]) (rest := []) (q := 72) dX12_readWay_69 rfl okX12_told tw_1402 rfl rfl (c_tld r pm0 (i := 15) (by decide) rfl (lo := 1) (hi := 60) (by decide) (by decide)) rfl rfl (Nat.le_of_ble_eq_true rfl) ⟨by decide, by decide⟩ ⟨rfl, rfl⟩ (fun rv_ V1 r_ K1 hv_ => ?_)
  obtain ⟨x_69, a1_, hx_69, pm1, fm1, a3_⟩ := hv_
  rw [a1_, a3_]
  obtain ⟨t1, et1⟩ : ∃ z, z = tnuT T n 1 60 (tkw T n 15 t) := ⟨_, rfl⟩
  rw [← et1] at pm1
  have fl1 := fl0.tr fm1.l
  have da1 := DA_f da0 fm1
  have kn1 : ∀ i, K1 102 i = J 102 i := fun i => (fm1.2.2 102 i (by omega)).trans (kn0 i)
  have hc1 : V1 100 34 = nI wn := (fm1.2.1 34 (by decide) (by decide) (by decide) (by decide) (by decide) (by decide)).trans hc0
  rw [← et1] at hx_69
  show Wq MX12_readWay 72 [some (.ref 100), some (.int a), some (.int b), x3] [.int x_69] V1 r K1 _
  refine x_istore_n (L2 := [some (.ref 100), some (.int a), some (.int b), some (.int x_69)]) (q := 73) dX12_readWay_72 rfl (by decide) rfl rfl ?_
  refine x_aload_n (q := 74) dX12_readWay_73 rfl rfl ?_
  refine q_gi (K := 2) (q := 77) dX12_readWay_74 rfl cl_12 (by decide) tw_1084 rfl rfl ?_
  refine x_if_le (t := 81) (q := 80) dX12_readWay_77 (by decide) rfl (fun c77 => ?_) (fun c77 => ?_)
  · have z := (f_le pm1.2.2.1 pm1.2.2.2.2.2.1).mp c77
    have f_t1 := tnuT_0 (by rw [et1] at z; exact z)
    have z_t : t.1 = 0 := (tkw_0 f_t1.1.1).1
    obtain ⟨ea, eb, hfy, hgy, hfg, hno⟩ := ht z_t
    refine x_aload_n (q := 82) dX12_readWay_81 rfl rfl ?_
    refine q_gr (K := 16) (b := 108) (q := 85) dX12_readWay_82 rfl cl_12 (by decide) tw_1098 rfl rfl rfl ?_
    refine x_bipush (8) (q := 87) dX12_readWay_85 rfl (by decide) ?_
    refine x_iload_n (q := 88) dX12_readWay_87 rfl rfl ?_
    refine x_imul (q := 89) dX12_readWay_88 rfl ?_
    refine x_iload_n (q := 90) dX12_readWay_89 rfl rfl ?_
    refine x_iadd (q := 91) dX12_readWay_90 rfl ?_
    refine x_iload_n (q := 92) dX12_readWay_91 rfl rfl ?_
    refine q_iast (q := 93) dX12_readWay_92 rfl rfl (by rw [ea, eb, i8]; exact vp_in_nI (by omega) (by decide)) (fun I11 eI11 => ?_)
    rw [ea, eb, i8, nI_clamp (by omega)] at eI11
    have pm2 : PM T n t1 I11 K1 := by rw [eI11]; exact PM_u pm1 (by decide) (by decide)
    have fl2 : FL M J I11 K1 := fl1.tr (by rw [eI11]; exact FL_u (by decide))
    have da2 : DA (upI M 108 (8 * f + g) x_69) I11 := by rw [eI11]; exact DA_u da1
    have kn2 := kn1
    have hc2 : I11 100 34 = nI wn := by rw [eI11, upc (by decide)]; exact hc1
    refine x_aload_n (q := 94) dX12_readWay_93 rfl rfl ?_
    refine q_gr (K := 16) (b := 108) (q := 97) dX12_readWay_94 rfl cl_12 (by decide) tw_1098 rfl rfl rfl ?_
    refine x_bipush (8) (q := 99) dX12_readWay_97 rfl (by decide) ?_
    refine x_iload_n (q := 100) dX12_readWay_99 rfl rfl ?_
    refine x_imul (q := 101) dX12_readWay_100 rfl ?_
    refine x_iload_n (q := 102) dX12_readWay_101 rfl rfl ?_
    refine x_iadd (q := 103) dX12_readWay_102 rfl ?_
    refine x_iload_n (q := 104) dX12_readWay_103 rfl rfl ?_
    refine q_iast (q := 105) dX12_readWay_104 rfl rfl (by rw [ea, eb, i8]; exact vp_in_nI (by omega) (by decide)) (fun I21 eI21 => ?_)
    rw [ea, eb, i8, nI_clamp (by omega)] at eI21
    have pm3 : PM T n t1 I21 K1 := by rw [eI21]; exact PM_u pm2 (by decide) (by decide)
    have fl3 : FL M J I21 K1 := fl2.tr (by rw [eI21]; exact FL_u (by decide))
    have da3 : DA (upI (upI M 108 (8 * f + g) x_69) 108 (8 * g + f) x_69) I21 := by rw [eI21]; exact DA_u da2
    have kn3 := kn2
    have hc3 : I21 100 34 = nI wn := by rw [eI21, upc (by decide)]; exact hc2
    refine x_aload_n (q := 106) dX12_readWay_105 rfl rfl ?_
    refine x_dup (q := 107) dX12_readWay_106 rfl rfl ?_
    refine q_gi (K := 34) (q := 110) dX12_readWay_107 rfl cl_12 (by decide) tw_1116 rfl rfl ?_
    refine x_iconst (1) (q := 111) dX12_readWay_110 rfl (by decide) ?_
    refine x_iadd (q := 112) dX12_readWay_111 rfl ?_
    refine q_pi (K := 34) (q := 115) dX12_readWay_112 rfl cl_12 (by decide) tw_1116 rfl rfl rfl rfl (fun I31 eI31 => ?_)
    refine q_vret dX12_readWay_115 rfl ?_
    rw [hc3, nI_p1] at eI31
    have pm4 : PM T n t1 I31 K1 := by rw [eI31]; exact PM_0 pm3 (by decide)
    have fl4 : FL M J I31 K1 := fl3.tr (by rw [eI31]; exact FL_0 (by decide))
    have da4 : DA (upI (upI (upI M 108 (8 * f + g) x_69) 108 (8 * g + f) x_69) 100 34 (nI (wn + 1))) I31 := by rw [eI31]; exact DA_u da3
    have kn4 := kn3
    rw [← et1]
    refine ⟨rfl, pm4, fl4, fun _ => ?_, rfl⟩
    rw [hx_69 z] at da4
    have g := f_t1.2.1
    exact MD_wy hD hf hfy hgy hfg (by omega) (by omega) hno da4 kn4
  · refine q_vret dX12_readWay_80 rfl ?_
    rw [← et1]
    exact ⟨rfl, pm1, fl1, fun z => absurd ((f_le pm1.2.2.1 pm1.2.2.2.2.2.1).mpr z) c77, rfl⟩
theorem wyC_n {T : Nat → Nat} {n : Nat} {A : MI} {yn wn f : Nat} {t : Nat × Nat × Nat} (h : naC T n t → nf T n A (w5 T n t.2.2) yn 0 < 8 → ¬ wyF A wn f (nf T n A (w5 T n t.2.2) yn 0) = true) : (if wyF A wn f (nf T n A (w5 T n t.2.2) yn 0) then rf 3 (sk T n t.2.2) (tyaT T n A yn t) else tyaT T n A yn t) = tyaT T n A yn t := by
  by_cases z : (tyaT T n A yn t).1 = 0
  · have q := tyaT_0 z
    rw [if_neg (h q.1 q.2.1)]
  · rw [rf_s z, ite_b]
theorem wyC_d {T : Nat → Nat} {n : Nat} {A : MI} {yn wn f : Nat} {t : Nat × Nat × Nat} (h1 : naC T n t) (h2 : nf T n A (w5 T n t.2.2) yn 0 < 8) (h3 : wyF A wn f (nf T n A (w5 T n t.2.2) yn 0) = true) : (if wyF A wn f (nf T n A (w5 T n t.2.2) yn 0) then rf 3 (sk T n t.2.2) (tyaT T n A yn t) else tyaT T n A yn t) = (3, sk T n t.2.2, en T n t.2.2) := by
  have e : tyaT T n A yn t = adv T n t := by
    unfold tyaT
    rw [show tnaT T n t = adv T n t from if_pos h1, if_pos ⟨h1.1, h2⟩]
  rw [if_pos h3, e, rf_p (show (adv T n t).1 = 0 from h1.1)]
  rfl
set_option maxRecDepth 100000 in
theorem l_wy57 {T : Nat → Nat} {n : Nat} (r : MR) {M : MI} {J : MJ} {A : MI} {yn wn hn sn : Nat} (hD : MD T n A yn wn hn sn M J) {V : MI} {K : MJ} {t1 t : Nat × Nat × Nat} (zt : t.1 = 0) (hF8 : nf T n A (w5 T n t1.2.2) yn 0 < 8) (pm0 : PM T n t V K) (fl0 : FL M J V K) (da0 : DA M V) (kn0 : ∀ i, K 102 i = J 102 i) (hf : wn < 16) {a : Int32} (ha : a = nI (nf T n A (w5 T n t1.2.2) yn 0)) (b : Int32) (x3 : Option Value) (hfy : nf T n A (w5 T n t1.2.2) yn 0 < yn) (hnd : naC T n t → nf T n A (w5 T n t.2.2) yn 0 < 8 → ¬ wyF A wn (nf T n A (w5 T n t1.2.2) yn 0) (nf T n A (w5 T n t.2.2) yn 0) = true) : Wq MX12_readWay 57 [some (.ref 100), some (.int a), some (.int b), x3] [] V r K (RML T n (tnuT T n 1 60 (tkw T n 15 (if wyF A wn (nf T n A (w5 T n t1.2.2) yn 0) (nf T n A (w5 T n t.2.2) yn 0) then rf 3 (sk T n t.2.2) (tyaT T n A yn t) else tyaT T n A yn t))) (MD T n (upI (upI (upI (upI A 2 wn (nI (nf T n A (w5 T n t1.2.2) yn 0))) 3 wn (nI (nf T n A (w5 T n t.2.2) yn 0))) 4 wn (nI (vl T n (tkw T n 15 (if wyF A wn (nf T n A (w5 T n t1.2.2) yn 0) (nf T n A (w5 T n t.2.2) yn 0) then rf 3 (sk T n t.2.2) (tyaT T n A yn t) else tyaT T n A yn t)).2.2))) 0 5 (nI (wn + 1))) yn (wn + 1) hn sn) M J r) := by
  obtain ⟨⟨k1, k5, k9, k12⟩, ⟨y8, w16, h12, s7⟩, ⟨m33, m34, m35, m36⟩, hMN, hMy, hMh, hMs, hMw, hMo⟩ := id hD
  have hc0 : V 100 34 = nI wn := (da0.2 34 (by decide) (by decide)).trans m34
  have hy0 : V 100 33 = nI yn := (da0.2 33 (by decide) (by decide)).trans m33
  have hN0 : MN T n A yn K := MN_c hMN rfl kn0
  refine x_aload_n (q := 58) dX12_readWay_57 rfl rfl ?_
  refine q_callV (ci := 12) (N := 79) (T := TX12) (As := []) (rest := []) (q := 61) dX12_readWay_58 rfl okX12_old tw_1422 rfl rfl (c_old r pm0 (A := A) (yn := yn) hy0 y8 hN0) rfl rfl (Nat.le_of_ble_eq_true rfl) ⟨by decide, by decide⟩ ⟨rfl, rfl⟩ (fun rv_ V1 r_ K1 hv_ => ?_)
  obtain ⟨x_58, a1_, hx_58, pm1, fm1, a3_⟩ := hv_
  rw [a1_, a3_]
  have et1_ : tyaT T n A yn t = tyaT T n A yn t := rfl
  show Wq MX12_readWay 61 [some (.ref 100), some (.int a), some (.int b), x3] [.int x_58] V1 r K1 _
  refine x_istore_n (L2 := [some (.ref 100), some (.int a), some (.int x_58), x3]) (q := 62) dX12_readWay_61 rfl (by decide) rfl rfl ?_
  rw [wyC_n hnd]
  rw [et1_] at pm1
  refine l_wyE r hD pm1 (fl0.tr fm1.l) (DA_f da0 fm1) (fun i => (fm1.2.2 102 i (by omega)).trans (kn0 i)) hf (f := nf T n A (w5 T n t1.2.2) yn 0) (g := nf T n A (w5 T n t.2.2) yn 0) (fun z => ?_) x3
  have q := tyaT_0 z
  have hn0 := hnd q.1 q.2.1
  have l1 := (fd_e hN0 y8 q.1.2.1).1 q.2.1
  refine ⟨ha, by rw [et1_] at hx_58; exact hx_58 z, hfy, l1.2, fun w => hn0 (wyF_a w), fun w => hn0 (wyF_b w)⟩
set_option maxRecDepth 100000 in
theorem l_wy52 {T : Nat → Nat} {n : Nat} (r : MR) {M : MI} {J : MJ} {A : MI} {yn wn hn sn : Nat} (hD : MD T n A yn wn hn sn M J) {V : MI} {K : MJ} {t1 t : Nat × Nat × Nat} (zt : t.1 = 0) (hF8 : nf T n A (w5 T n t1.2.2) yn 0 < 8) (pm0 : PM T n t V K) (fl0 : FL M J V K) (da0 : DA M V) (kn0 : ∀ i, K 102 i = J 102 i) (hf : wn < 16) {a : Int32} (ha : a = nI (nf T n A (w5 T n t1.2.2) yn 0)) (b : Int32) (x3 : Option Value) (hc : naC T n t) (hg : nf T n A (w5 T n t.2.2) yn 0 < 8) (h3 : wyF A wn (nf T n A (w5 T n t1.2.2) yn 0) (nf T n A (w5 T n t.2.2) yn 0) = true) : Wq MX12_readWay 52 [some (.ref 100), some (.int a), some (.int b), x3] [] V r K (RML T n (tnuT T n 1 60 (tkw T n 15 (if wyF A wn (nf T n A (w5 T n t1.2.2) yn 0) (nf T n A (w5 T n t.2.2) yn 0) then rf 3 (sk T n t.2.2) (tyaT T n A yn t) else tyaT T n A yn t))) (MD T n (upI (upI (upI (upI A 2 wn (nI (nf T n A (w5 T n t1.2.2) yn 0))) 3 wn (nI (nf T n A (w5 T n t.2.2) yn 0))) 4 wn (nI (vl T n (tkw T n 15 (if wyF A wn (nf T n A (w5 T n t1.2.2) yn 0) (nf T n A (w5 T n t.2.2) yn 0) then rf 3 (sk T n t.2.2) (tyaT T n A yn t) else tyaT T n A yn t)).2.2))) 0 5 (nI (wn + 1))) yn (wn + 1) hn sn) M J r) := by
  obtain ⟨⟨k1, k5, k9, k12⟩, ⟨y8, w16, h12, s7⟩, ⟨m33, m34, m35, m36⟩, hMN, hMy, hMh, hMs, hMw, hMo⟩ := id hD
  have hc0 : V 100 34 = nI wn := (da0.2 34 (by decide) (by decide)).trans m34
  have hy0 : V 100 33 = nI yn := (da0.2 33 (by decide) (by decide)).trans m33
  have hN0 : MN T n A yn K := MN_c hMN rfl kn0
  have est : rf (if kd T n t.2.2 = 1 then 1 else 3) (sk T n t.2.2) t = (3, sk T n t.2.2, t.2.2) := by rw [if_neg (fun z => absurd (hc.2.1.symm.trans z) (by decide))]; exact rf_p zt
  refine x_aload_n (q := 53) dX12_readWay_52 rfl rfl ?_
  refine x_iconst (3) (q := 54) dX12_readWay_53 rfl (by decide) ?_
  refine q_callV (ci := 12) (N := 79) (T := TX12) (As := [.int 3]) (rest := []) (q := 57) dX12_readWay_54 rfl okX12_wrong tw_1390 rfl rfl (c_wr r pm0 (k := 3) (by decide) zt) rfl rfl (Nat.le_of_ble_eq_true rfl) ⟨by decide, by decide⟩ ⟨rfl, rfl⟩ (fun rv_ V1 r_ K1 hv_ => ?_)
  obtain ⟨a1_, pm1, fm1, a3_⟩ := hv_
  rw [a1_, a3_]
  rw [est] at pm1
  show Wq MX12_readWay 57 [some (.ref 100), some (.int a), some (.int b), x3] [] V1 r K1 _
  refine x_aload_n (q := 58) dX12_readWay_57 rfl rfl ?_
  refine q_callV (ci := 12) (N := 79) (T := TX12) (As := []) (rest := []) (q := 61) dX12_readWay_58 rfl okX12_old tw_1422 rfl rfl (c_old_f r pm1 (A := A) (yn := yn) ((fm1.2.1 33 (by decide) (by decide) (by decide) (by decide) (by decide) (by decide)).trans hy0) y8 (MN_c hN0 rfl (fun i => fm1.2.2 102 i (by omega))) (show ¬ (3 = 0) by decide) 0) rfl rfl (Nat.le_of_ble_eq_true rfl) ⟨by decide, by decide⟩ ⟨rfl, rfl⟩ (fun rv_ V2 r_ K2 hv_ => ?_)
  obtain ⟨x_58, a1_, hx_58, pm2, fm2, a3_⟩ := hv_
  rw [a1_, a3_]
  show Wq MX12_readWay 61 [some (.ref 100), some (.int a), some (.int b), x3] [.int x_58] V2 r K2 _
  refine x_istore_n (L2 := [some (.ref 100), some (.int a), some (.int x_58), x3]) (q := 62) dX12_readWay_61 rfl (by decide) rfl rfl ?_
  have n3 : ¬ ((3, sk T n t.2.2, en T n t.2.2) : Nat × Nat × Nat).1 = 0 := show ¬ (3 = 0) by decide
  rw [wyC_d hc hg h3, tkw_f n3, tnu_f n3]
  refine wq_mono (fun v Y r' K' hv => ?_) (l_wyE r hD pm2 ((fl0.tr fm1.l).tr fm2.l) (DA_f (DA_f da0 fm1) fm2) (fun i => (fm2.2.2 102 i (by omega)).trans ((fm1.2.2 102 i (by omega)).trans (kn0 i))) hf (f := 0) (g := 0) (fun z => absurd z (show ¬ (3 = 0) by decide)) x3)
  obtain ⟨b1, b2, b3, b4, b5⟩ := hv
  have n4 : ¬ ((3, sk T n t.2.2, t.2.2) : Nat × Nat × Nat).1 = 0 := show ¬ (3 = 0) by decide
  rw [tkw_f n4, tnu_f n4] at b2
  exact ⟨b1, PM_p b2 n4 rfl rfl (en_b pm0.2.2.2.2.1).2, b3, fun z => absurd z n3, b5⟩
set_option maxRecDepth 100000 in
theorem l_wy17a {T : Nat → Nat} {n : Nat} (r : MR) {M : MI} {J : MJ} {A : MI} {yn wn hn sn : Nat} (hD : MD T n A yn wn hn sn M J) {V : MI} {K : MJ} {t1 t : Nat × Nat × Nat} (zt : t.1 = 0) (hF8 : nf T n A (w5 T n t1.2.2) yn 0 < 8) (pm0 : PM T n t V K) (fl0 : FL M J V K) (da0 : DA M V) (kn0 : ∀ i, K 102 i = J 102 i) (hf : wn < 16) {a : Int32} (ha : a = nI (nf T n A (w5 T n t1.2.2) yn 0)) (hfy : nf T n A (w5 T n t1.2.2) yn 0 < yn) (hc : ¬ naC T n t) (x2 x3 : Option Value) : Wq MX12_readWay 17 [some (.ref 100), some (.int a), x2, x3] [] V r K (RML T n (tnuT T n 1 60 (tkw T n 15 (if wyF A wn (nf T n A (w5 T n t1.2.2) yn 0) (nf T n A (w5 T n t.2.2) yn 0) then rf 3 (sk T n t.2.2) (tyaT T n A yn t) else tyaT T n A yn t))) (MD T n (upI (upI (upI (upI A 2 wn (nI (nf T n A (w5 T n t1.2.2) yn 0))) 3 wn (nI (nf T n A (w5 T n t.2.2) yn 0))) 4 wn (nI (vl T n (tkw T n 15 (if wyF A wn (nf T n A (w5 T n t1.2.2) yn 0) (nf T n A (w5 T n t.2.2) yn 0) then rf 3 (sk T n t.2.2) (tyaT T n A yn t) else tyaT T n A yn t)).2.2))) 0 5 (nI (wn + 1))) yn (wn + 1) hn sn) M J r) := by
  obtain ⟨⟨k1, k5, k9, k12⟩, ⟨y8, w16, h12, s7⟩, ⟨m33, m34, m35, m36⟩, hMN, hMy, hMh, hMs, hMw, hMo⟩ := id hD
  have hc0 : V 100 34 = nI wn := (da0.2 34 (by decide) (by decide)).trans m34
  have hy0 : V 100 33 = nI yn := (da0.2 33 (by decide) (by decide)).trans m33
  have hN0 : MN T n A yn K := MN_c hMN rfl kn0
  refine x_aload_n (q := 18) dX12_readWay_17 rfl rfl ?_
  refine q_callV (ci := 12) (N := 79) (T := TX12) (As := []) (rest := []) (q := 21) dX12_readWay_18 rfl okX12_find tw_1398 rfl rfl (c_fnd r K hy0 y8) rfl rfl (Nat.le_of_ble_eq_true rfl) ⟨by decide, by decide⟩ ⟨rfl, rfl⟩ (fun rv_ I_ r_ J_ hv_ => ?_)
  obtain ⟨a1_, a2_, a3_, a4_⟩ := hv_
  rw [a1_, a2_, a3_, a4_]
  show Wq MX12_readWay 21 [some (.ref 100), some (.int a), x2, x3] [.int (fdV K (K 100 9) yn)] V r K _
  refine x_nmi (fun v1 ev1 => ?_)
  refine x_istore_n (L2 := [some (.ref 100), some (.int a), some (.int v1), x3]) (q := 22) dX12_readWay_21 rfl (by decide) rfl rfl ?_
  have evv : v1 = fdV K (K 100 9) yn := ev1
  refine x_aload_n (q := 23) dX12_readWay_22 rfl rfl ?_
  refine q_callV (ci := 12) (N := 79) (T := TX12) (As := []) (rest := []) (q := 26) dX12_readWay_23 rfl okX12_isName tw_1367 rfl rfl (c_isN_b r pm0 zt hc) rfl rfl (Nat.le_of_ble_eq_true rfl) ⟨by decide, by decide⟩ ⟨rfl, rfl⟩ (fun rv_ I_ r_ J_ hv_ => ?_)
  obtain ⟨a1_, a2_, a3_, a4_⟩ := hv_
  rw [a1_, a2_, a3_, a4_]
  show Wq MX12_readWay 26 [some (.ref 100), some (.int a), some (.int v1), x3] [.int 0] V r K _
  refine x_if_eq (t := 57) (q := 29) dX12_readWay_26 (by decide) rfl (fun c26 => ?_) (fun c26 => absurd c26 ((by decide)))
  exact l_wy57 r hD zt hF8 pm0 fl0 da0 kn0 hf ha _ x3 hfy (fun z => absurd z hc)
set_option maxRecDepth 100000 in
theorem l_wy17b {T : Nat → Nat} {n : Nat} (r : MR) {M : MI} {J : MJ} {A : MI} {yn wn hn sn : Nat} (hD : MD T n A yn wn hn sn M J) {V : MI} {K : MJ} {t1 t : Nat × Nat × Nat} (zt : t.1 = 0) (hF8 : nf T n A (w5 T n t1.2.2) yn 0 < 8) (pm0 : PM T n t V K) (fl0 : FL M J V K) (da0 : DA M V) (kn0 : ∀ i, K 102 i = J 102 i) (hf : wn < 16) {a : Int32} (ha : a = nI (nf T n A (w5 T n t1.2.2) yn 0)) (hfy : nf T n A (w5 T n t1.2.2) yn 0 < yn) (hc : naC T n t) (hg : ¬ nf T n A (w5 T n t.2.2) yn 0 < 8) (x2 x3 : Option Value) : Wq MX12_readWay 17 [some (.ref 100), some (.int a), x2, x3] [] V r K (RML T n (tnuT T n 1 60 (tkw T n 15 (if wyF A wn (nf T n A (w5 T n t1.2.2) yn 0) (nf T n A (w5 T n t.2.2) yn 0) then rf 3 (sk T n t.2.2) (tyaT T n A yn t) else tyaT T n A yn t))) (MD T n (upI (upI (upI (upI A 2 wn (nI (nf T n A (w5 T n t1.2.2) yn 0))) 3 wn (nI (nf T n A (w5 T n t.2.2) yn 0))) 4 wn (nI (vl T n (tkw T n 15 (if wyF A wn (nf T n A (w5 T n t1.2.2) yn 0) (nf T n A (w5 T n t.2.2) yn 0) then rf 3 (sk T n t.2.2) (tyaT T n A yn t) else tyaT T n A yn t)).2.2))) 0 5 (nI (wn + 1))) yn (wn + 1) hn sn) M J r) := by
  obtain ⟨⟨k1, k5, k9, k12⟩, ⟨y8, w16, h12, s7⟩, ⟨m33, m34, m35, m36⟩, hMN, hMy, hMh, hMs, hMw, hMo⟩ := id hD
  have hc0 : V 100 34 = nI wn := (da0.2 34 (by decide) (by decide)).trans m34
  have hy0 : V 100 33 = nI yn := (da0.2 33 (by decide) (by decide)).trans m33
  have hN0 : MN T n A yn K := MN_c hMN rfl kn0
  have hw : K 100 9 = lN (w8 T n t.2.2) := (pm0.2.2.2.2.2.2 zt).2.2.2.2 hc.2.1
  have fe := fd_e hN0 y8 hc.2.1
  refine x_aload_n (q := 18) dX12_readWay_17 rfl rfl ?_
  refine q_callV (ci := 12) (N := 79) (T := TX12) (As := []) (rest := []) (q := 21) dX12_readWay_18 rfl okX12_find tw_1398 rfl rfl (c_fnd r K hy0 y8) rfl rfl (Nat.le_of_ble_eq_true rfl) ⟨by decide, by decide⟩ ⟨rfl, rfl⟩ (fun rv_ I_ r_ J_ hv_ => ?_)
  obtain ⟨a1_, a2_, a3_, a4_⟩ := hv_
  rw [a1_, a2_, a3_, a4_]
  show Wq MX12_readWay 21 [some (.ref 100), some (.int a), x2, x3] [.int (fdV K (K 100 9) yn)] V r K _
  refine x_nmi (fun v1 ev1 => ?_)
  refine x_istore_n (L2 := [some (.ref 100), some (.int a), some (.int v1), x3]) (q := 22) dX12_readWay_21 rfl (by decide) rfl rfl ?_
  have evv : v1 = fdV K (K 100 9) yn := ev1
  refine x_aload_n (q := 23) dX12_readWay_22 rfl rfl ?_
  refine q_callV (ci := 12) (N := 79) (T := TX12) (As := []) (rest := []) (q := 26) dX12_readWay_23 rfl okX12_isName tw_1367 rfl rfl (c_isN_g r pm0 hc) rfl rfl (Nat.le_of_ble_eq_true rfl) ⟨by decide, by decide⟩ ⟨rfl, rfl⟩ (fun rv_ I_ r_ J_ hv_ => ?_)
  obtain ⟨a1_, a2_, a3_, a4_⟩ := hv_
  rw [a1_, a2_, a3_, a4_]
  show Wq MX12_readWay 26 [some (.ref 100), some (.int a), some (.int v1), x3] [.int 1] V r K _
  refine x_if_eq (t := 57) (q := 29) dX12_readWay_26 (by decide) rfl (fun c26 => absurd c26 ((by decide))) (fun c26 => ?_)
  refine x_iload_n (q := 30) dX12_readWay_29 rfl rfl ?_
  refine x_if_lt (t := 57) (q := 33) dX12_readWay_30 (by decide) rfl (fun c30 => ?_) (fun c30 => absurd c30 (fun z => z (by rw [evv, hw, fe.2 hg]; decide)))
  exact l_wy57 r hD zt hF8 pm0 fl0 da0 kn0 hf ha _ x3 hfy (fun _ z => absurd z hg)
theorem nI_ge0 {d : Nat} (h : d < 2 ^ 31) : ¬ nI d < 0 := fun z => absurd ((nI_ltI (b := 0) h (by decide)).mp z) (by omega)
set_option maxRecDepth 100000 in
theorem l_wy17c {T : Nat → Nat} {n : Nat} (r : MR) {M : MI} {J : MJ} {A : MI} {yn wn hn sn : Nat} (hD : MD T n A yn wn hn sn M J) {V : MI} {K : MJ} {t1 t : Nat × Nat × Nat} (zt : t.1 = 0) (hF8 : nf T n A (w5 T n t1.2.2) yn 0 < 8) (pm0 : PM T n t V K) (fl0 : FL M J V K) (da0 : DA M V) (kn0 : ∀ i, K 102 i = J 102 i) (hf : wn < 16) {a : Int32} (ha : a = nI (nf T n A (w5 T n t1.2.2) yn 0)) (hfy : nf T n A (w5 T n t1.2.2) yn 0 < yn) (hc : naC T n t) (hg : nf T n A (w5 T n t.2.2) yn 0 < 8) (x2 x3 : Option Value) : Wq MX12_readWay 17 [some (.ref 100), some (.int a), x2, x3] [] V r K (RML T n (tnuT T n 1 60 (tkw T n 15 (if wyF A wn (nf T n A (w5 T n t1.2.2) yn 0) (nf T n A (w5 T n t.2.2) yn 0) then rf 3 (sk T n t.2.2) (tyaT T n A yn t) else tyaT T n A yn t))) (MD T n (upI (upI (upI (upI A 2 wn (nI (nf T n A (w5 T n t1.2.2) yn 0))) 3 wn (nI (nf T n A (w5 T n t.2.2) yn 0))) 4 wn (nI (vl T n (tkw T n 15 (if wyF A wn (nf T n A (w5 T n t1.2.2) yn 0) (nf T n A (w5 T n t.2.2) yn 0) then rf 3 (sk T n t.2.2) (tyaT T n A yn t) else tyaT T n A yn t)).2.2))) 0 5 (nI (wn + 1))) yn (wn + 1) hn sn) M J r) := by
  obtain ⟨⟨k1, k5, k9, k12⟩, ⟨y8, w16, h12, s7⟩, ⟨m33, m34, m35, m36⟩, hMN, hMy, hMh, hMs, hMw, hMo⟩ := id hD
  have hc0 : V 100 34 = nI wn := (da0.2 34 (by decide) (by decide)).trans m34
  have hy0 : V 100 33 = nI yn := (da0.2 33 (by decide) (by decide)).trans m33
  have hN0 : MN T n A yn K := MN_c hMN rfl kn0
  have hw : K 100 9 = lN (w8 T n t.2.2) := (pm0.2.2.2.2.2.2 zt).2.2.2.2 hc.2.1
  have fe := fd_e hN0 y8 hc.2.1
  refine x_aload_n (q := 18) dX12_readWay_17 rfl rfl ?_
  refine q_callV (ci := 12) (N := 79) (T := TX12) (As := []) (rest := []) (q := 21) dX12_readWay_18 rfl okX12_find tw_1398 rfl rfl (c_fnd r K hy0 y8) rfl rfl (Nat.le_of_ble_eq_true rfl) ⟨by decide, by decide⟩ ⟨rfl, rfl⟩ (fun rv_ I_ r_ J_ hv_ => ?_)
  obtain ⟨a1_, a2_, a3_, a4_⟩ := hv_
  rw [a1_, a2_, a3_, a4_]
  show Wq MX12_readWay 21 [some (.ref 100), some (.int a), x2, x3] [.int (fdV K (K 100 9) yn)] V r K _
  refine x_nmi (fun v1 ev1 => ?_)
  refine x_istore_n (L2 := [some (.ref 100), some (.int a), some (.int v1), x3]) (q := 22) dX12_readWay_21 rfl (by decide) rfl rfl ?_
  have evv : v1 = fdV K (K 100 9) yn := ev1
  refine x_aload_n (q := 23) dX12_readWay_22 rfl rfl ?_
  refine q_callV (ci := 12) (N := 79) (T := TX12) (As := []) (rest := []) (q := 26) dX12_readWay_23 rfl okX12_isName tw_1367 rfl rfl (c_isN_g r pm0 hc) rfl rfl (Nat.le_of_ble_eq_true rfl) ⟨by decide, by decide⟩ ⟨rfl, rfl⟩ (fun rv_ I_ r_ J_ hv_ => ?_)
  obtain ⟨a1_, a2_, a3_, a4_⟩ := hv_
  rw [a1_, a2_, a3_, a4_]
  show Wq MX12_readWay 26 [some (.ref 100), some (.int a), some (.int v1), x3] [.int 1] V r K _
  refine x_if_eq (t := 57) (q := 29) dX12_readWay_26 (by decide) rfl (fun c26 => absurd c26 ((by decide))) (fun c26 => ?_)
  refine x_iload_n (q := 30) dX12_readWay_29 rfl rfl ?_
  refine x_if_lt (t := 57) (q := 33) dX12_readWay_30 (by decide) rfl (fun c30 => absurd c30 (fun z => absurd z (by rw [evv, hw, (fe.1 hg).1]; exact nI_ge0 (by omega)))) (fun c30 => ?_)
  have evg : v1 = nI (nf T n A (w5 T n t.2.2) yn 0) := by rw [evv, hw]; exact (fe.1 hg).1
  have etk : V 108 ((8 * a) + v1).toNatClampNeg = M 108 (8 * (nf T n A (w5 T n t1.2.2) yn 0) + (nf T n A (w5 T n t.2.2) yn 0)) := by rw [ha, evg, i8, nI_clamp (by omega), da0.1 108 (by decide) (by decide)]
  refine x_iload_n (q := 34) dX12_readWay_33 rfl rfl ?_
  refine x_iload_n (q := 35) dX12_readWay_34 rfl rfl ?_
  refine x_icmp_eq (t := 52) (q := 38) dX12_readWay_35 (by decide) rfl (fun c35 => ?_) (fun c35 => ?_)
  · first
    | exact l_wy52 r hD zt hF8 pm0 fl0 da0 kn0 hf ha _ x3 hc hg (wyF_a ((nI_eq (by omega) (by omega)).mp (by rw [ha, evg] at c35; exact c35)))
    | exact l_wy52 r hD zt hF8 pm0 fl0 da0 kn0 hf ha _ x3 hc hg (wyF_b (by by_cases w : hwF A (nI (nf T n A (w5 T n t1.2.2) yn 0)) (nI (nf T n A (w5 T n t.2.2) yn 0)) wn = true; exact w; exact absurd (by rw [etk, wy_0 hMw hF8 hg w]; decide) c49))
  · refine x_aload_n (q := 39) dX12_readWay_38 rfl rfl ?_
    refine q_gr (K := 16) (b := 108) (q := 42) dX12_readWay_39 rfl cl_12 (by decide) tw_1098 rfl rfl rfl ?_
    refine x_bipush (8) (q := 44) dX12_readWay_42 rfl (by decide) ?_
    refine x_iload_n (q := 45) dX12_readWay_44 rfl rfl ?_
    refine x_imul (q := 46) dX12_readWay_45 rfl ?_
    refine x_iload_n (q := 47) dX12_readWay_46 rfl rfl ?_
    refine x_iadd (q := 48) dX12_readWay_47 rfl ?_
    refine q_iald (q := 49) dX12_readWay_48 rfl rfl (by rw [ha, evg, i8]; exact vp_in_nI (by omega) (by decide)) ?_
    refine x_if_le (t := 57) (q := 52) dX12_readWay_49 (by decide) rfl (fun c49 => ?_) (fun c49 => ?_)
    · exact l_wy57 r hD zt hF8 pm0 fl0 da0 kn0 hf ha _ x3 hfy (fun _ _ => wyF_n (fun w => c35 (by rw [ha, evg, w])) (fun w => wy_1 hMw y8 hF8 hg w (by rw [← etk]; exact c49)))
    · first
      | exact l_wy52 r hD zt hF8 pm0 fl0 da0 kn0 hf ha _ x3 hc hg (wyF_a ((nI_eq (by omega) (by omega)).mp (by rw [ha, evg] at c35; exact c35)))
      | exact l_wy52 r hD zt hF8 pm0 fl0 da0 kn0 hf ha _ x3 hc hg (wyF_b (by by_cases w : hwF A (nI (nf T n A (w5 T n t1.2.2) yn 0)) (nI (nf T n A (w5 T n t.2.2) yn 0)) wn = true; exact w; exact absurd (by rw [etk, wy_0 hMw hF8 hg w]; decide) c49))
set_option maxRecDepth 100000 in
theorem c_mwy {T : Nat → Nat} {n : Nat} (r : MR) {M : MI} {J : MJ} {s : Nat × Nat × Nat} (h : PM T n s M J) (h0 : s.1 = 0) (hk1 : ¬ kd T n s.2.2 = 1) {A : MI} {yn wn hn sn : Nat} (hD : MD T n A yn wn hn sn M J) (hf : wn < 16) : Cq yX12_readWay MX12_readWay [.ref 100] M r J (RML T n (wyS T n A yn wn s) (MD T n (wyA T n s A yn wn) yn (wn + 1) hn sn) M J r) := by
  obtain ⟨⟨k1, k5, k9, k12⟩, ⟨y8, w16, h12, s7⟩, ⟨m33, m34, m35, m36⟩, hMN, hMy, hMh, hMs, hMw, hMo⟩ := id hD
  have pm0 := h
  have fl0 : FL M J M J := FL.rf
  have da0 : DA M M := DA.rf
  have kn0 : ∀ i, J 102 i = J 102 i := fun _ => rfl
  have hc0 : M 100 34 = nI wn := m34
  refine cq_of [some (.ref 100), none, none, none] 3 (by decide +kernel) rfl rfl (Nat.le_of_ble_eq_true rfl) rfl ?_
  refine x_aload_n (q := 1) dX12_readWay_0 rfl rfl ?_
  refine q_callV (ci := 12) (N := 79) (T := TX12) (As := []) (rest := []) (q := 4) dX12_readWay_1 rfl okX12_token tw_1340 rfl rfl (c_tokP r pm0 h0 hk1) rfl rfl (Nat.le_of_ble_eq_true rfl) ⟨by decide, by decide⟩ ⟨rfl, rfl⟩ (fun rv_ V1 r_ K1 hv_ => ?_)
  obtain ⟨a1_, pm1, fm1, a3_⟩ := hv_
  rw [a1_, a3_]
  obtain ⟨t1, et1⟩ : ∃ z, z = adv T n s := ⟨_, rfl⟩
  rw [← et1] at pm1
  have fl1 := fl0.tr fm1.l
  have da1 := DA_f da0 fm1
  have kn1 : ∀ i, K1 102 i = J 102 i := fun i => (fm1.2.2 102 i (by omega)).trans (kn0 i)
  have hc1 : V1 100 34 = nI wn := (fm1.2.1 34 (by decide) (by decide) (by decide) (by decide) (by decide) (by decide)).trans hc0
  show Wq MX12_readWay 4 [some (.ref 100), none, none, none] [] V1 r K1 _
  refine x_aload_n (q := 5) dX12_readWay_4 rfl rfl ?_
  refine q_callV (ci := 12) (N := 79) (T := TX12) (As := []) (rest := []) (q := 8) dX12_readWay_5 rfl okX12_old tw_1422 rfl rfl (c_old r pm1 (A := A) (yn := yn) ((da1.2 33 (by decide) (by decide)).trans m33) y8 (MN_c hMN rfl kn1)) rfl rfl (Nat.le_of_ble_eq_true rfl) ⟨by decide, by decide⟩ ⟨rfl, rfl⟩ (fun rv_ V2 r_ K2 hv_ => ?_)
  obtain ⟨x_5, a1_, hx_5, pm2, fm2, a3_⟩ := hv_
  rw [a1_, a3_]
  obtain ⟨t2, et2⟩ : ∃ z, z = tyaT T n A yn t1 := ⟨_, rfl⟩
  rw [← et2] at pm2
  have fl2 := fl1.tr fm2.l
  have da2 := DA_f da1 fm2
  have kn2 : ∀ i, K2 102 i = J 102 i := fun i => (fm2.2.2 102 i (by omega)).trans (kn1 i)
  have hc2 : V2 100 34 = nI wn := (fm2.2.1 34 (by decide) (by decide) (by decide) (by decide) (by decide) (by decide)).trans hc1
  rw [← et2] at hx_5
  show Wq MX12_readWay 8 [some (.ref 100), none, none, none] [.int x_5] V2 r K2 _
  refine x_istore_n (L2 := [some (.ref 100), some (.int x_5), none, none]) (q := 9) dX12_readWay_8 rfl (by decide) rfl rfl ?_
  refine x_aload_n (q := 10) dX12_readWay_9 rfl rfl ?_
  refine q_gi (K := 2) (q := 13) dX12_readWay_10 rfl cl_12 (by decide) tw_1084 rfl rfl ?_
  refine x_if_le (t := 17) (q := 16) dX12_readWay_13 (by decide) rfl (fun c13 => ?_) (fun c13 => ?_)
  · have z2 := (f_le pm2.2.2.1 pm2.2.2.2.2.2.1).mp c13
    have g2 := tyaT_0 (by rw [et2] at z2; exact z2)
    have ha := hx_5 z2
    have l1 := (fd_e (MN_c hMN rfl kn1) y8 g2.1.2.1).1 g2.2.1
    have es : wyS T n A yn wn s = tnuT T n 1 60 (tkw T n 15 (if wyF A wn (nf T n A (w5 T n t1.2.2) yn 0) (nf T n A (w5 T n t2.2.2) yn 0) then rf 3 (sk T n t2.2.2) (tyaT T n A yn t2) else tyaT T n A yn t2)) := by unfold wyS wyC; rw [← et1, ← et2]
    have eA : wyA T n s A yn wn = upI (upI (upI (upI A 2 wn (nI (nf T n A (w5 T n t1.2.2) yn 0))) 3 wn (nI (nf T n A (w5 T n t2.2.2) yn 0))) 4 wn (nI (vl T n (tkw T n 15 (if wyF A wn (nf T n A (w5 T n t1.2.2) yn 0) (nf T n A (w5 T n t2.2.2) yn 0) then rf 3 (sk T n t2.2.2) (tyaT T n A yn t2) else tyaT T n A yn t2)).2.2))) 0 5 (nI (wn + 1)) := by unfold wyA wyC; rw [← et1, ← et2]
    rw [es, eA]
    by_cases hc : naC T n t2
    · by_cases hg : nf T n A (w5 T n t2.2.2) yn 0 < 8
      · exact l_wy17c r hD z2 g2.2.1 pm2 fl2 da2 kn2 hf ha l1.2 hc hg _ _
      · exact l_wy17b r hD z2 g2.2.1 pm2 fl2 da2 kn2 hf ha l1.2 hc hg _ _
    · exact l_wy17a r hD z2 g2.2.1 pm2 fl2 da2 kn2 hf ha l1.2 hc _ _
  · refine q_vret dX12_readWay_16 rfl ?_
    have n2 : ¬ t2.1 = 0 := fun z => c13 ((f_le pm2.2.2.1 pm2.2.2.2.2.2.1).mpr z)
    have es : wyS T n A yn wn s = t2 := by rw [wyS_f (by rw [← et1, ← et2]; exact n2), ← et1, ← et2]
    rw [es]
    exact ⟨rfl, pm2, fl2, fun z => absurd z n2, rfl⟩
