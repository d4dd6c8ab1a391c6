def FA (M : MI) (J : MJ) (Y : MI) (K : MJ) : Prop := (∀ c, c ≠ 100 → ¬ (102 ≤ c ∧ c ≤ 113) → Y c = M c) ∧ (∀ j, 9 ≤ j → ¬ (33 ≤ j ∧ j ≤ 40) → Y 100 j = M 100 j) ∧ (∀ c k, c ≠ 102 → ¬ (c = 100 ∧ k = 9) → K c k = J c k) ∧ Y 100 1 = 0
theorem FA.tr {M V Y : MI} {J K L : MJ} (h : FA M J V K) (f : FL V K Y L) : FA M J Y L := ⟨fun c a b => (f.1 c a b).trans (h.1 c a b), fun j a b => (f.2.1 j (by omega) (by omega) (by omega) (by omega) (by omega) (by omega) b).trans (h.2.1 j a b), fun c k a b => (f.2.2 c k a b).trans (h.2.2.1 c k a b), (f.2.1 1 (by decide) (by decide) (by decide) (by decide) (by decide) (by decide) (by decide)).trans h.2.2.2⟩
def RA (T : Nat → Nat) (n : Nat) (R : (Nat × Nat × Nat) × MI) (M : MI) (J : MJ) (r : MR) : Option Value → MI → MR → MJ → Prop := fun v Y r' K => v = none ∧ PM T n R.1 Y K ∧ FA M J Y K ∧ (R.1.1 = 0 → ∃ y w h c, MD T n R.2 y w h c Y K) ∧ r' = r
theorem MD_0 {T : Nat → Nat} {n : Nat} {A M : MI} {J : MJ} (a : A 0 1 = 0 ∧ A 0 5 = 0 ∧ A 0 9 = 0 ∧ A 0 12 = 0 ∧ A 0 13 = 0 ∧ A 0 14 = 0 ∧ A 0 15 = -1 ∧ A 0 16 = 999 ∧ A 0 17 = 0 ∧ A 5 0 = 0 ∧ A 6 0 = 0 ∧ A 7 0 = 0) (m33 : M 100 33 = 0) (m34 : M 100 34 = 0) (m35 : M 100 35 = 0) (m36 : M 100 36 = 0) (m37 : M 100 37 = -1) (m38 : M 100 38 = -1) (m39 : M 100 39 = -1) (m40 : M 100 40 = -1) (mt : ∀ j, j < 64 → M 108 j = 0) : MD T n A 0 0 0 0 M J := by
  obtain ⟨a1, a5, a9, a12, a13, a14, a15, a16, a17, b5, b6, b7⟩ := a
  have tf : ∀ k, (0 : Nat).testBit k = false := fun k => Nat.zero_testBit k
  refine ⟨⟨a1, a5, a9, a12⟩, ⟨by omega, by omega, by omega, by omega⟩, ⟨m33, m34, m35, m36⟩, ⟨fun y z => by omega, fun y z h1 _ _ => by omega⟩, fun y z => by omega, ⟨fun k z => by omega, fun _ => ⟨b5, b6, b7⟩⟩, fun k z => by omega, ⟨fun i z => by omega, fun a' c ha hc => Or.inl (mt _ (by omega))⟩, 0, by decide, a17, ?_, ?_, ?_, ?_, ?_⟩
  · exact ⟨fun _ => ⟨m37, a13⟩, fun z => absurd z (by rw [tf]; decide)⟩
  · exact ⟨fun _ => ⟨m38, a14⟩, fun z => absurd z (by rw [tf]; decide)⟩
  · exact ⟨fun _ => ⟨m39, a15⟩, fun z => absurd z (by rw [tf]; decide)⟩
  · exact ⟨fun _ => ⟨m40, a16⟩, fun z => absurd z (by rw [tf]; decide)⟩
  · exact fun z => absurd z (by rw [tf]; decide)
set_option maxRecDepth 100000 in
theorem l_raL {T : Nat → Nat} {n : Nat} (r : MR) {M : MI} {J : MJ} (x1 : Option Value) : ∀ (f : Nat) (i : Nat) (s : Nat × Nat × Nat) (A V : MI) (K : MJ) (_ : i + f = n + 1) (_ : PM T n s V K) (_ : FA M J V K) (_ : s.1 = 0 → ∃ y w h c, MD T n A y w h c V K) (_ : s.1 = 0 → i ≤ s.2.2), Wq MX12_readAll 93 [some (.ref 100), x1] [] V r K (RA T n (pF T n f s A) M J r) := by
  intro f
  induction f with
  | zero =>
    intro i s A V K hif pm0 fa0 hm hp
    have hn := pm0.1.1
    have hpn := pm0.2.2.2.2.1
    have n0 : ¬ s.1 = 0 := fun z => by have := hp z; omega
    refine x_aload_n (q := 94) dX12_readAll_93 rfl rfl ?_
    refine q_gi (K := 2) (q := 97) dX12_readAll_94 rfl cl_12 (by decide) tw_1084 rfl rfl ?_
    refine x_if_ne (t := 114) (q := 100) dX12_readAll_97 (by decide) rfl (fun c97 => ?_) (fun c97 => absurd c97 (fun z => n0 (f_0 pm0.2.2.1 pm0.2.2.2.2.2.1 z)))
    refine q_vret dX12_readAll_114 rfl ?_
    have er : pF T n 0 s A = (s, A) := rfl
    rw [er]
    exact ⟨rfl, pm0, fa0, fun z => absurd z n0, rfl⟩
  | succ f ih =>
    intro i s A V K hif pm0 fa0 hm hp
    have hn := pm0.1.1
    have hpn := pm0.2.2.2.2.1
    by_cases n0 : s.1 = 0
    · have hL := pm0.2.2.2.2.2.2 n0
      refine x_aload_n (q := 94) dX12_readAll_93 rfl rfl ?_
      refine q_gi (K := 2) (q := 97) dX12_readAll_94 rfl cl_12 (by decide) tw_1084 rfl rfl ?_
      refine x_if_ne (t := 114) (q := 100) dX12_readAll_97 (by decide) rfl (fun c97 => absurd c97 (fun z => z (by rw [pm0.2.2.1, n0]; rfl))) (fun c97 => ?_)
      refine x_aload_n (q := 101) dX12_readAll_100 rfl rfl ?_
      refine q_gi (K := 6) (q := 104) dX12_readAll_101 rfl cl_12 (by decide) tw_1088 rfl rfl ?_
      refine x_if_eq (t := 114) (q := 107) dX12_readAll_104 (by decide) rfl (fun c104 => ?_) (fun c104 => ?_)
      · refine q_vret dX12_readAll_114 rfl ?_
        have k0 : kd T n s.2.2 = 0 := (ms_c 0 hL.2.1 (by decide) rfl).mp c104
        have er : pF T n (f + 1) s A = (s, A) := if_neg (fun z => z.2 k0)
        rw [er]
        exact ⟨rfl, pm0, fa0, hm, rfl⟩
      · have k0 : ¬ kd T n s.2.2 = 0 := fun z => c104 ((ms_c 0 hL.2.1 (by decide) rfl).mpr z)
        obtain ⟨y, w, h, c, hD⟩ := hm n0
        refine x_aload_n (q := 108) dX12_readAll_107 rfl rfl ?_
        refine q_callV (ci := 12) (N := 79) (T := TX12) (As := []) (rest := []) (q := 111) dX12_readAll_108 rfl okX12_readLine tw_1354 rfl rfl (c_rl r pm0 n0 hD) rfl rfl (Nat.le_of_ble_eq_true rfl) ⟨by decide, by decide⟩ ⟨rfl, rfl⟩ (fun rv_ V1 r_ K1 hv_ => ?_)
        obtain ⟨a1_, pm1, fl1, md1, a3_⟩ := hv_
        rw [a1_, a3_]
        show Wq MX12_readAll 111 [some (.ref 100), x1] [] V1 r K1 _
        refine x_goto (t := 93) dX12_readAll_111 (by decide) ?_
        have er : pF T n (f + 1) s A = pF T n f (tsc T n (lb T n s A).1) (lb T n s A).2 := if_pos ⟨n0, k0⟩
        rw [er]
        exact ih (i + 1) _ _ _ _ (by omega) pm1 (fa0.tr fl1) md1 (fun z => by have g1 := (pm_line z).2; have g2 := hp n0; omega)
    · refine x_aload_n (q := 94) dX12_readAll_93 rfl rfl ?_
      refine q_gi (K := 2) (q := 97) dX12_readAll_94 rfl cl_12 (by decide) tw_1084 rfl rfl ?_
      refine x_if_ne (t := 114) (q := 100) dX12_readAll_97 (by decide) rfl (fun c97 => ?_) (fun c97 => absurd c97 (fun z => n0 (f_0 pm0.2.2.1 pm0.2.2.2.2.2.1 z)))
      refine q_vret dX12_readAll_114 rfl ?_
      have er : pF T n (f + 1) s A = (s, A) := if_neg (fun z => n0 z.1)
      rw [er]
      exact ⟨rfl, pm0, fa0, fun z => absurd z n0, rfl⟩
set_option maxRecDepth 100000 in
theorem l_raC (r : MR) (J : MJ) (Z : MI) (post : Option Value → MI → MR → MJ → Prop) (kx : ∀ Y : MI, (∀ j, j < 64 → Y 108 j = 0) → (∀ c, c ≠ 108 → Y c = Z c) → Wq MX12_readAll 89 [some (.ref 100), some (.int (nI 64))] [] Y r J post) : ∀ (f : Nat) (k : Nat) (Y : MI) (_ : k + f = 64) (_ : ∀ j, j < k → Y 108 j = 0) (_ : ∀ c, c ≠ 108 → Y c = Z c), Wq MX12_readAll 70 [some (.ref 100), some (.int (nI k))] [] Y r J (post) := by
  intro f
  induction f with
  | zero =>
    intro k Y hkf h1 h2
    refine x_iload_n (q := 71) dX12_readAll_70 rfl rfl ?_
    refine x_bipush (64) (q := 73) dX12_readAll_71 rfl (by decide) ?_
    refine x_icmp_ge (t := 89) (q := 76) dX12_readAll_73 (by decide) rfl (fun c73 => ?_) (fun c73 => absurd c73 (fun q => q (nI_le (a := 64) (by omega) (by omega))))
    obtain rfl : k = 64 := by omega
    exact kx Y h1 h2
  | succ f ih =>
    intro k Y hkf h1 h2
    refine x_iload_n (q := 71) dX12_readAll_70 rfl rfl ?_
    refine x_bipush (64) (q := 73) dX12_readAll_71 rfl (by decide) ?_
    refine x_icmp_ge (t := 89) (q := 76) dX12_readAll_73 (by decide) rfl (fun c73 => absurd c73 (nI_ge (b := 64) (by omega) (by decide))) (fun c73 => ?_)
    refine x_aload_n (q := 77) dX12_readAll_76 rfl rfl ?_
    refine q_gr (K := 16) (b := 108) (q := 80) dX12_readAll_77 rfl cl_12 (by decide) tw_1098 rfl rfl rfl ?_
    refine x_iload_n (q := 81) dX12_readAll_80 rfl rfl ?_
    refine x_iconst (0) (q := 82) dX12_readAll_81 rfl (by decide) ?_
    refine q_iast (q := 83) dX12_readAll_82 rfl rfl (vp_in_nI (by omega) (by decide)) (fun I1 eI1 => ?_)
    obtain ⟨v2, ev2⟩ : ∃ y_ : Int32, y_ = (nI k) + 1 := ⟨_, rfl⟩
    refine x_iinc (v := v2) (L2 := [some (.ref 100), some (.int v2)]) (q := 86) dX12_readAll_83 rfl (by decide) rfl rfl (by rw [ev2]; rfl) rfl ?_
    refine x_goto (t := 70) dX12_readAll_86 (by decide) ?_
    rw [nI_clamp (by omega)] at eI1
    rw [show v2 = nI (k + 1) by rw [ev2, nI_p1]]
    refine ih (k + 1) I1 (by omega) (fun j hj => ?_) (fun c hc => by rw [eI1, upc hc]; exact h2 c hc)
    rw [eI1]
    by_cases e : j = k
    · rw [e, upq]
    · rw [ups e]; exact h1 j (by omega)
set_option maxRecDepth 100000 in
theorem c_ra {T : Nat → Nat} {n : Nat} (r : MR) {M : MI} (J : MJ) (hT : TXM T n M) (h1 : M 100 1 = nI n) {A : MI} (hA : A 0 1 = 0 ∧ A 0 5 = 0 ∧ A 0 9 = 0 ∧ A 0 12 = 0 ∧ A 0 13 = 0 ∧ A 0 14 = 0 ∧ A 0 15 = -1 ∧ A 0 16 = 999 ∧ A 0 17 = 0 ∧ A 5 0 = 0 ∧ A 6 0 = 0 ∧ A 7 0 = 0) : Cq yX12_readAll MX12_readAll [.ref 100] M r J (RA T n (pF T n (n + 1) (0, 0, 0) A) M J r) := by
  refine cq_of [some (.ref 100), none] 1 (by decide +kernel) rfl rfl (Nat.le_of_ble_eq_true rfl) rfl ?_
  refine x_aload_n (q := 1) dX12_readAll_0 rfl rfl ?_
  refine x_aload_n (q := 2) dX12_readAll_1 rfl rfl ?_
  refine q_gi (K := 1) (q := 5) dX12_readAll_2 rfl cl_12 (by decide) tw_1083 rfl rfl ?_
  refine q_pi (K := 5) (q := 8) dX12_readAll_5 rfl cl_12 (by decide) tw_1087 rfl rfl rfl rfl (fun I1 eI1 => ?_)
  refine x_aload_n (q := 9) dX12_readAll_8 rfl rfl ?_
  refine x_iconst (0) (q := 10) dX12_readAll_9 rfl (by decide) ?_
  refine q_pi (K := 1) (q := 13) dX12_readAll_10 rfl cl_12 (by decide) tw_1083 rfl rfl rfl rfl (fun I2 eI2 => ?_)
  refine x_aload_n (q := 14) dX12_readAll_13 rfl rfl ?_
  refine x_iconst (0) (q := 15) dX12_readAll_14 rfl (by decide) ?_
  refine q_pi (K := 4) (q := 18) dX12_readAll_15 rfl cl_12 (by decide) tw_1086 rfl rfl rfl rfl (fun I3 eI3 => ?_)
  refine x_aload_n (q := 19) dX12_readAll_18 rfl rfl ?_
  refine x_iconst (0) (q := 20) dX12_readAll_19 rfl (by decide) ?_
  refine q_pi (K := 2) (q := 23) dX12_readAll_20 rfl cl_12 (by decide) tw_1084 rfl rfl rfl rfl (fun I4 eI4 => ?_)
  refine x_aload_n (q := 24) dX12_readAll_23 rfl rfl ?_
  refine x_iconst (-1) (q := 25) dX12_readAll_24 rfl (by decide) ?_
  refine q_pi (K := 3) (q := 28) dX12_readAll_25 rfl cl_12 (by decide) tw_1085 rfl rfl rfl rfl (fun I5 eI5 => ?_)
  refine x_aload_n (q := 29) dX12_readAll_28 rfl rfl ?_
  refine x_iconst (0) (q := 30) dX12_readAll_29 rfl (by decide) ?_
  refine q_pi (K := 33) (q := 33) dX12_readAll_30 rfl cl_12 (by decide) tw_1115 rfl rfl rfl rfl (fun I6 eI6 => ?_)
  refine x_aload_n (q := 34) dX12_readAll_33 rfl rfl ?_
  refine x_iconst (0) (q := 35) dX12_readAll_34 rfl (by decide) ?_
  refine q_pi (K := 34) (q := 38) dX12_readAll_35 rfl cl_12 (by decide) tw_1116 rfl rfl rfl rfl (fun I7 eI7 => ?_)
  refine x_aload_n (q := 39) dX12_readAll_38 rfl rfl ?_
  refine x_iconst (0) (q := 40) dX12_readAll_39 rfl (by decide) ?_
  refine q_pi (K := 35) (q := 43) dX12_readAll_40 rfl cl_12 (by decide) tw_1117 rfl rfl rfl rfl (fun I8 eI8 => ?_)
  refine x_aload_n (q := 44) dX12_readAll_43 rfl rfl ?_
  refine x_iconst (0) (q := 45) dX12_readAll_44 rfl (by decide) ?_
  refine q_pi (K := 36) (q := 48) dX12_readAll_45 rfl cl_12 (by decide) tw_1118 rfl rfl rfl rfl (fun I9 eI9 => ?_)
  refine x_aload_n (q := 49) dX12_readAll_48 rfl rfl ?_
  refine x_iconst (-1) (q := 50) dX12_readAll_49 rfl (by decide) ?_
  refine q_pi (K := 37) (q := 53) dX12_readAll_50 rfl cl_12 (by decide) tw_1119 rfl rfl rfl rfl (fun I10 eI10 => ?_)
  refine x_aload_n (q := 54) dX12_readAll_53 rfl rfl ?_
  refine x_iconst (-1) (q := 55) dX12_readAll_54 rfl (by decide) ?_
  refine q_pi (K := 38) (q := 58) dX12_readAll_55 rfl cl_12 (by decide) tw_1120 rfl rfl rfl rfl (fun I11 eI11 => ?_)
  refine x_aload_n (q := 59) dX12_readAll_58 rfl rfl ?_
  refine x_iconst (-1) (q := 60) dX12_readAll_59 rfl (by decide) ?_
  refine q_pi (K := 39) (q := 63) dX12_readAll_60 rfl cl_12 (by decide) tw_1121 rfl rfl rfl rfl (fun I12 eI12 => ?_)
  refine x_aload_n (q := 64) dX12_readAll_63 rfl rfl ?_
  refine x_iconst (-1) (q := 65) dX12_readAll_64 rfl (by decide) ?_
  refine q_pi (K := 40) (q := 68) dX12_readAll_65 rfl cl_12 (by decide) tw_1122 rfl rfl rfl rfl (fun I13 eI13 => ?_)
  refine x_iconst (0) (q := 69) dX12_readAll_68 rfl (by decide) ?_
  refine x_istore_n (L2 := [some (.ref 100), some (.int 0)]) (q := 70) dX12_readAll_69 rfl (by decide) rfl rfl ?_
  rw [h1] at eI1
  obtain ⟨Z0, hZ0⟩ : ∃ Z0 : Nat → Int32, Z0 = fun j => if j = 40 then (-1) else if j = 39 then (-1) else if j = 38 then (-1) else if j = 37 then (-1) else if j = 36 then 0 else if j = 35 then 0 else if j = 34 then 0 else if j = 33 then 0 else if j = 3 then (-1) else if j = 2 then 0 else if j = 4 then 0 else if j = 1 then 0 else if j = 5 then nI n else M 100 j := ⟨_, rfl⟩
  have eZ : ∀ j, I13 100 j = Z0 j := fun j => by
    rw [eI13, eI12, eI11, eI10, eI9, eI8, eI7, eI6, eI5, eI4, eI3, eI2, eI1, hZ0]
    unfold upI
    simp only [true_and]
  have eC : ∀ c, c ≠ 100 → I13 c = M c := fun c a => by rw [eI13, upc a, eI12, upc a, eI11, upc a, eI10, upc a, eI9, upc a, eI8, upc a, eI7, upc a, eI6, upc a, eI5, upc a, eI4, upc a, eI3, upc a, eI2, upc a, eI1, upc a]
  subst hZ0
  refine l_raC r J I13 _ (fun Y y1 y2 => ?_) 64 0 I13 (by omega) (fun j z => by omega) (fun _ _ => rfl)
  have e100 : ∀ j, Y 100 j = (fun j => if j = 40 then (-1) else if j = 39 then (-1) else if j = 38 then (-1) else if j = 37 then (-1) else if j = 36 then 0 else if j = 35 then 0 else if j = 34 then 0 else if j = 33 then 0 else if j = 3 then (-1) else if j = 2 then 0 else if j = 4 then 0 else if j = 1 then 0 else if j = 5 then nI n else M 100 j) j := fun j => by rw [y2 100 (by decide)]; exact eZ j
  have hTY : TXM T n Y := ⟨hT.1, fun j hj => by rw [y2 101 (by decide), eC 101 (by decide)]; exact hT.2 j hj⟩
  have y5 : Y 100 5 = nI n := by rw [e100 5]; rfl
  have y4 : Y 100 4 = nI 0 := by rw [e100 4]; rfl
  have ec : ∀ c, c ≠ 100 → ¬ (102 ≤ c ∧ c ≤ 113) → Y c = M c := fun c a b => by rw [y2 c (fun z => b (by omega)), eC c a]
  have ez : ∀ j, 9 ≤ j → ¬ (33 ≤ j ∧ j ≤ 40) → (fun j => if j = 40 then (-1) else if j = 39 then (-1) else if j = 38 then (-1) else if j = 37 then (-1) else if j = 36 then 0 else if j = 35 then 0 else if j = 34 then 0 else if j = 33 then 0 else if j = 3 then (-1) else if j = 2 then 0 else if j = 4 then 0 else if j = 1 then 0 else if j = 5 then nI n else M 100 j) j = M 100 j := fun j a b => by
    show (if j = 40 then (-1) else if j = 39 then (-1) else if j = 38 then (-1) else if j = 37 then (-1) else if j = 36 then 0 else if j = 35 then 0 else if j = 34 then 0 else if j = 33 then 0 else if j = 3 then (-1) else if j = 2 then 0 else if j = 4 then 0 else if j = 1 then 0 else if j = 5 then nI n else M 100 j) = _
    rw [if_neg (by omega), if_neg (by omega), if_neg (by omega), if_neg (by omega), if_neg (by omega), if_neg (by omega), if_neg (by omega), if_neg (by omega), if_neg (by omega), if_neg (by omega), if_neg (by omega), if_neg (by omega), if_neg (by omega)]
  obtain ⟨Z0, hZ0⟩ : ∃ Z0 : Nat → Int32, Z0 = fun j => if j = 40 then (-1) else if j = 39 then (-1) else if j = 38 then (-1) else if j = 37 then (-1) else if j = 36 then 0 else if j = 35 then 0 else if j = 34 then 0 else if j = 33 then 0 else if j = 3 then (-1) else if j = 2 then 0 else if j = 4 then 0 else if j = 1 then 0 else if j = 5 then nI n else M 100 j := ⟨_, rfl⟩
  rw [← hZ0] at ez
  rw [← hZ0] at e100
  refine x_aload_n (q := 90) dX12_readAll_89 rfl rfl ?_
  refine q_callV (ci := 12) (N := 79) (T := TX12) (As := []) (rest := []) (q := 93) dX12_readAll_90 rfl okX12_token tw_1340 rfl rfl (c_tok hTY y5 r (p := 0) (Nat.zero_le _) y4) rfl rfl (Nat.le_of_ble_eq_true rfl) ⟨by decide, by decide⟩ ⟨rfl, rfl⟩ (fun rv_ V r_ K hv_ => ?_)
  obtain ⟨a1_, ⟨f1, f2, f3⟩, mx, a3_⟩ := hv_
  rw [a1_, a3_]
  show Wq MX12_readAll 93 [some (.ref 100), some (.int (nI 64))] [] V r K _
  have fv : ∀ j, j ≠ 4 → j ≠ 6 → j ≠ 7 → j ≠ 8 → V 100 j = Z0 j := fun j a1 a2 a3 a4 => (f2 j a1 a2 a3 a4).trans (e100 j)
  have pmV : PM T n (0, 0, 0) V K := ⟨⟨hT.1, fun j hj => by rw [f1 101 (by decide)]; exact hTY.2 j hj⟩, by rw [f2 5 (by decide) (by decide) (by decide) (by decide)]; exact y5, by rw [fv 2 (by decide) (by decide) (by decide) (by decide)]; rw [hZ0]; rfl, by rw [fv 3 (by decide) (by decide) (by decide) (by decide)]; rw [hZ0]; rfl, Nat.zero_le _, Nat.zero_le _, fun _ => mx⟩
  have faV : FA M J V K := ⟨fun c a b => by rw [f1 c a, ec c a b], fun j a b => by rw [fv j (by omega) (by omega) (by omega) (by omega)]; exact ez j a b, fun c k _ b => f3 c k b, by rw [fv 1 (by decide) (by decide) (by decide) (by decide)]; rw [hZ0]; rfl⟩
  refine l_raL r _ (n + 1) 0 (0, 0, 0) A V K (by omega) pmV faV (fun _ => ⟨0, 0, 0, 0, MD_0 hA ?_ ?_ ?_ ?_ ?_ ?_ ?_ ?_ (fun j hj => by rw [f1 108 (by decide)]; exact y1 j hj)⟩) (fun _ => Nat.zero_le _)
  · rw [fv 33 (by decide) (by decide) (by decide) (by decide)]; rw [hZ0]; rfl
  · rw [fv 34 (by decide) (by decide) (by decide) (by decide)]; rw [hZ0]; rfl
  · rw [fv 35 (by decide) (by decide) (by decide) (by decide)]; rw [hZ0]; rfl
  · rw [fv 36 (by decide) (by decide) (by decide) (by decide)]; rw [hZ0]; rfl
  · rw [fv 37 (by decide) (by decide) (by decide) (by decide)]; rw [hZ0]; rfl
  · rw [fv 38 (by decide) (by decide) (by decide) (by decide)]; rw [hZ0]; rfl
  · rw [fv 39 (by decide) (by decide) (by decide) (by decide)]; rw [hZ0]; rfl
  · rw [fv 40 (by decide) (by decide) (by decide) (by decide)]; rw [hZ0]; rfl
