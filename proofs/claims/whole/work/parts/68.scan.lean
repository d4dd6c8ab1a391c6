def nbd (T : Nat → Nat) (n q : Nat) : Prop := 4 < dge T n q - q ∨ (dge T n q < n ∧ ltr (T (dge T n q)) = true)
def scN (T : Nat → Nat) (n q : Nat) (X : MI) (Y : MI) : Prop := (∀ c, c ≠ 55 → Y c = X c) ∧ Y 55 2 = nI n ∧ Y 55 3 = nI (dge T n q) ∧ (nbd T n q → Y 55 4 = 1) ∧ (¬ nbd T n q → Y 55 4 = 3) ∧ Y 55 5 = nI q ∧ Y 55 6 = nI (vlQ T n q) ∧ Y 55 8 = -1
theorem v10_s {T : Nat → Nat} {q k : Nat} (h : dgi (T (q + k)) = true) : nI (v10 T q k) * 10 + bI (T (q + k)) - 48 = nI (v10 T q (k + 1)) := by
  have h1 := dgi_lo h
  rw [bI_lo _ (by omega), show (10 : Int32) = nI 10 from rfl, pk_mul, nI_add, show (48 : Int32) = nI 48 from rfl, pk_sub (by omega)]
  congr 1
  show _ = 10 * v10 T q k + (T (q + k) - 48)
  omega
set_option maxRecDepth 100000 in
theorem l_scnE {T : Nat → Nat} {n : Nat} {X : MI} (hT : TX T n X) {r : MR} (h4 : r 4 = 1) (J : MJ) {q : Nat} (hqn : q ≤ n) {Y : MI} (hL : Lq n (dge T n q) X Y) (h5 : Y 55 5 = nI q) (h8 : Y 55 8 = -1) (h6 : Y 55 6 = nI (vlQ T n q)) (x1 : Option Value) : Wq MX6_scanNumber 68 [some (.ref 55), x1] [] Y r J (Rq none (fun Y K => scN T n q X Y ∧ K = J) r) := by
  have hn := hT.1
  have hwb : q ≤ dge T n q ∧ dge T n q ≤ n := rlp_b (g := dgi) (T := T) (n := n) (p := q) hqn
  have e3 := hL.2.2
  have e2 := hL.2.1
  refine x_aload_n (q := 69) dX6_scanNumber_68 rfl rfl ?_
  refine q_gi (K := 3) (q := 72) dX6_scanNumber_69 rfl cl_6 (by decide) tw_334 rfl rfl ?_
  refine x_aload_n (q := 73) dX6_scanNumber_72 rfl rfl ?_
  refine q_gi (K := 2) (q := 76) dX6_scanNumber_73 rfl cl_6 (by decide) tw_333 rfl rfl ?_
  refine x_icmp_ge (t := 98) (q := 79) dX6_scanNumber_76 (by decide) rfl (fun c76 => ?_) (fun c76 => ?_)
  · have hlf : ¬ (dge T n q < n ∧ ltr (T (dge T n q)) = true) := by
      intro z
      first
      | exact absurd c76 (by rw [e3, e2]; exact nI_ge z.1 (by omega))
      | (rw [lI_b _ (hT.2 _ z.1).1, z.2] at c91; exact absurd c91 (by decide))
    refine x_iconst (0) (q := 99) dX6_scanNumber_98 rfl (by decide) ?_
    have hl : ¬ (dge T n q < n ∧ ltr (T (dge T n q)) = true) := hlf
    refine x_istore_n (L2 := [some (.ref 55), some (.int 0)]) (q := 100) dX6_scanNumber_99 rfl (by decide) rfl rfl ?_
    refine x_aload_n (q := 101) dX6_scanNumber_100 rfl rfl ?_
    refine x_aload_n (q := 102) dX6_scanNumber_101 rfl rfl ?_
    refine q_gi (K := 3) (q := 105) dX6_scanNumber_102 rfl cl_6 (by decide) tw_334 rfl rfl ?_
    refine x_aload_n (q := 106) dX6_scanNumber_105 rfl rfl ?_
    refine q_gi (K := 5) (q := 109) dX6_scanNumber_106 rfl cl_6 (by decide) tw_337 rfl rfl ?_
    refine x_isub (q := 110) dX6_scanNumber_109 rfl ?_
    refine x_iconst (4) (q := 111) dX6_scanNumber_110 rfl (by decide) ?_
    refine x_icmp_gt (t := 118) (q := 114) dX6_scanNumber_111 (by decide) rfl (fun c111 => ?_) (fun c111 => ?_)
    · refine x_iconst (1) (q := 119) dX6_scanNumber_118 rfl (by decide) ?_
      refine x_goto (t := 123) dX6_scanNumber_119 (by decide) ?_
      refine q_pi (K := 4) (q := 126) dX6_scanNumber_123 rfl cl_6 (by decide) tw_335 rfl rfl rfl rfl (fun I61 eI61 => ?_)
      refine q_vret dX6_scanNumber_126 rfl ?_
      have nb : nbd T n q := Or.inl ((nI_ltI (a := 4) (by omega) (by omega)).mp (by rw [e3, h5, pk_sub (by omega)] at c111; exact c111))
      refine ⟨rfl, ⟨⟨?_, ?_, ?_, ?_, ?_, ?_, ?_, ?_⟩, rfl⟩, rfl⟩
      · intro c e; rw [eI61, upc e]; exact hL.1 c e
      · rw [eI61, ups (by decide)]; exact e2
      · rw [eI61, ups (by decide)]; exact e3
      · intro _; rw [eI61, upq]
      · intro z; exact absurd nb z
      · rw [eI61, ups (by decide)]; exact h5
      · rw [eI61, ups (by decide)]; exact h6
      · rw [eI61, ups (by decide)]; exact h8
    · refine x_iload_n (q := 115) dX6_scanNumber_114 rfl rfl ?_
      refine x_if_eq (t := 122) (q := 118) dX6_scanNumber_115 (by decide) rfl (fun c115 => ?_) (fun c115 => absurd c115 ((by decide)))
      refine x_iconst (3) (q := 123) dX6_scanNumber_122 rfl (by decide) ?_
      refine q_pi (K := 4) (q := 126) dX6_scanNumber_123 rfl cl_6 (by decide) tw_335 rfl rfl rfl rfl (fun I61 eI61 => ?_)
      refine q_vret dX6_scanNumber_126 rfl ?_
      have nb : ¬ nbd T n q := by
        rintro (z | z)
        · rw [e3, h5, pk_sub (by omega)] at c111
          exact c111 (nI_lt (a := 4) z (by omega))
        · exact hl z
      refine ⟨rfl, ⟨⟨?_, ?_, ?_, ?_, ?_, ?_, ?_, ?_⟩, rfl⟩, rfl⟩
      · intro c e; rw [eI61, upc e]; exact hL.1 c e
      · rw [eI61, ups (by decide)]; exact e2
      · rw [eI61, ups (by decide)]; exact e3
      · intro z; exact absurd z nb
      · intro _; rw [eI61, upq]
      · rw [eI61, ups (by decide)]; exact h5
      · rw [eI61, ups (by decide)]; exact h6
      · rw [eI61, ups (by decide)]; exact h8
  · have glt : dge T n q < n := by
      by_cases z : dge T n q < n
      · exact z
      · exact absurd (by rw [e3, e2]; exact nI_le (by omega) (by omega)) c76
    have eb : Y 1 (Y 55 3).toNatClampNeg = bI (T (dge T n q)) := by rw [e3, nI_clamp (by omega)]; exact tx_b hT (hL.1 1 (by decide)) glt
    have hT8 := (hT.2 _ glt).1
    refine x_aload_n (q := 80) dX6_scanNumber_79 rfl rfl ?_
    refine q_gr (K := 1) (b := 1) (q := 83) dX6_scanNumber_80 rfl cl_6 (by decide) tw_332 rfl rfl (congrArg some h4) ?_
    refine x_aload_n (q := 84) dX6_scanNumber_83 rfl rfl ?_
    refine q_gi (K := 3) (q := 87) dX6_scanNumber_84 rfl cl_6 (by decide) tw_334 rfl rfl ?_
    refine q_bald (q := 88) dX6_scanNumber_87 rfl rfl (by rw [e3]; exact vp_in_nI (by omega) (by decide)) ?_
    refine q_callS (As := [.int (Y 1 (Y 55 3).toNatClampNeg)]) (rest := []) (q := 91) dX6_scanNumber_88 rfl okX6_isLetter tw_643 (by rw [eb]; exact c_isL (bI (T (dge T n q))) Y r J) rfl rfl (Nat.le_of_ble_eq_true rfl) ⟨by decide, by decide⟩ ⟨rfl, rfl⟩ (fun rv_ I_ r_ J_ hv_ => ?_)
    obtain ⟨a1_, a2_, a3_, a4_⟩ := hv_
    rw [a1_, a2_, a3_, a4_]
    show Wq MX6_scanNumber 91 [some (.ref 55), x1] [.int (lI (bI (T (dge T n q))))] Y r J _
    refine x_if_eq (t := 98) (q := 94) dX6_scanNumber_91 (by decide) rfl (fun c91 => ?_) (fun c91 => ?_)
    · have hlf : ¬ (dge T n q < n ∧ ltr (T (dge T n q)) = true) := by
        intro z
        first
        | exact absurd c76 (by rw [e3, e2]; exact nI_ge z.1 (by omega))
        | (rw [lI_b _ (hT.2 _ z.1).1, z.2] at c91; exact absurd c91 (by decide))
      refine x_iconst (0) (q := 99) dX6_scanNumber_98 rfl (by decide) ?_
      have hl : ¬ (dge T n q < n ∧ ltr (T (dge T n q)) = true) := hlf
      refine x_istore_n (L2 := [some (.ref 55), some (.int 0)]) (q := 100) dX6_scanNumber_99 rfl (by decide) rfl rfl ?_
      refine x_aload_n (q := 101) dX6_scanNumber_100 rfl rfl ?_
      refine x_aload_n (q := 102) dX6_scanNumber_101 rfl rfl ?_
      refine q_gi (K := 3) (q := 105) dX6_scanNumber_102 rfl cl_6 (by decide) tw_334 rfl rfl ?_
      refine x_aload_n (q := 106) dX6_scanNumber_105 rfl rfl ?_
      refine q_gi (K := 5) (q := 109) dX6_scanNumber_106 rfl cl_6 (by decide) tw_337 rfl rfl ?_
      refine x_isub (q := 110) dX6_scanNumber_109 rfl ?_
      refine x_iconst (4) (q := 111) dX6_scanNumber_110 rfl (by decide) ?_
      refine x_icmp_gt (t := 118) (q := 114) dX6_scanNumber_111 (by decide) rfl (fun c111 => ?_) (fun c111 => ?_)
      · refine x_iconst (1) (q := 119) dX6_scanNumber_118 rfl (by decide) ?_
        refine x_goto (t := 123) dX6_scanNumber_119 (by decide) ?_
        refine q_pi (K := 4) (q := 126) dX6_scanNumber_123 rfl cl_6 (by decide) tw_335 rfl rfl rfl rfl (fun I61 eI61 => ?_)
        refine q_vret dX6_scanNumber_126 rfl ?_
        have nb : nbd T n q := Or.inl ((nI_ltI (a := 4) (by omega) (by omega)).mp (by rw [e3, h5, pk_sub (by omega)] at c111; exact c111))
        refine ⟨rfl, ⟨⟨?_, ?_, ?_, ?_, ?_, ?_, ?_, ?_⟩, rfl⟩, rfl⟩
        · intro c e; rw [eI61, upc e]; exact hL.1 c e
        · rw [eI61, ups (by decide)]; exact e2
        · rw [eI61, ups (by decide)]; exact e3
        · intro _; rw [eI61, upq]
        · intro z; exact absurd nb z
        · rw [eI61, ups (by decide)]; exact h5
        · rw [eI61, ups (by decide)]; exact h6
        · rw [eI61, ups (by decide)]; exact h8
      · refine x_iload_n (q := 115) dX6_scanNumber_114 rfl rfl ?_
        refine x_if_eq (t := 122) (q := 118) dX6_scanNumber_115 (by decide) rfl (fun c115 => ?_) (fun c115 => absurd c115 ((by decide)))
        refine x_iconst (3) (q := 123) dX6_scanNumber_122 rfl (by decide) ?_
        refine q_pi (K := 4) (q := 126) dX6_scanNumber_123 rfl cl_6 (by decide) tw_335 rfl rfl rfl rfl (fun I61 eI61 => ?_)
        refine q_vret dX6_scanNumber_126 rfl ?_
        have nb : ¬ nbd T n q := by
          rintro (z | z)
          · rw [e3, h5, pk_sub (by omega)] at c111
            exact c111 (nI_lt (a := 4) z (by omega))
          · exact hl z
        refine ⟨rfl, ⟨⟨?_, ?_, ?_, ?_, ?_, ?_, ?_, ?_⟩, rfl⟩, rfl⟩
        · intro c e; rw [eI61, upc e]; exact hL.1 c e
        · rw [eI61, ups (by decide)]; exact e2
        · rw [eI61, ups (by decide)]; exact e3
        · intro z; exact absurd z nb
        · intro _; rw [eI61, upq]
        · rw [eI61, ups (by decide)]; exact h5
        · rw [eI61, ups (by decide)]; exact h6
        · rw [eI61, ups (by decide)]; exact h8
    · have hlt : dge T n q < n ∧ ltr (T (dge T n q)) = true := by
        refine ⟨glt, ?_⟩
        rw [lI_b _ hT8] at c91
        cases z : ltr (T (dge T n q))
        · rw [z] at c91; exact absurd rfl c91
        · rfl
      refine x_iconst (1) (q := 95) dX6_scanNumber_94 rfl (by decide) ?_
      refine x_goto (t := 99) dX6_scanNumber_95 (by decide) ?_
      have hl : dge T n q < n ∧ ltr (T (dge T n q)) = true := hlt
      refine x_istore_n (L2 := [some (.ref 55), some (.int 1)]) (q := 100) dX6_scanNumber_99 rfl (by decide) rfl rfl ?_
      refine x_aload_n (q := 101) dX6_scanNumber_100 rfl rfl ?_
      refine x_aload_n (q := 102) dX6_scanNumber_101 rfl rfl ?_
      refine q_gi (K := 3) (q := 105) dX6_scanNumber_102 rfl cl_6 (by decide) tw_334 rfl rfl ?_
      refine x_aload_n (q := 106) dX6_scanNumber_105 rfl rfl ?_
      refine q_gi (K := 5) (q := 109) dX6_scanNumber_106 rfl cl_6 (by decide) tw_337 rfl rfl ?_
      refine x_isub (q := 110) dX6_scanNumber_109 rfl ?_
      refine x_iconst (4) (q := 111) dX6_scanNumber_110 rfl (by decide) ?_
      refine x_icmp_gt (t := 118) (q := 114) dX6_scanNumber_111 (by decide) rfl (fun c111 => ?_) (fun c111 => ?_)
      · refine x_iconst (1) (q := 119) dX6_scanNumber_118 rfl (by decide) ?_
        refine x_goto (t := 123) dX6_scanNumber_119 (by decide) ?_
        refine q_pi (K := 4) (q := 126) dX6_scanNumber_123 rfl cl_6 (by decide) tw_335 rfl rfl rfl rfl (fun I61 eI61 => ?_)
        refine q_vret dX6_scanNumber_126 rfl ?_
        have nb : nbd T n q := by
          first
          | exact Or.inl ((nI_ltI (a := 4) (by omega) (by omega)).mp (by rw [e3, h5, pk_sub (by omega)] at c111; exact c111))
          | exact Or.inr hl
        refine ⟨rfl, ⟨⟨?_, ?_, ?_, ?_, ?_, ?_, ?_, ?_⟩, rfl⟩, rfl⟩
        · intro c e; rw [eI61, upc e]; exact hL.1 c e
        · rw [eI61, ups (by decide)]; exact e2
        · rw [eI61, ups (by decide)]; exact e3
        · intro _; rw [eI61, upq]
        · intro z; exact absurd nb z
        · rw [eI61, ups (by decide)]; exact h5
        · rw [eI61, ups (by decide)]; exact h6
        · rw [eI61, ups (by decide)]; exact h8
      · refine x_iload_n (q := 115) dX6_scanNumber_114 rfl rfl ?_
        refine x_if_eq (t := 122) (q := 118) dX6_scanNumber_115 (by decide) rfl (fun c115 => absurd c115 ((by decide))) (fun c115 => ?_)
        refine x_iconst (1) (q := 119) dX6_scanNumber_118 rfl (by decide) ?_
        refine x_goto (t := 123) dX6_scanNumber_119 (by decide) ?_
        refine q_pi (K := 4) (q := 126) dX6_scanNumber_123 rfl cl_6 (by decide) tw_335 rfl rfl rfl rfl (fun I61 eI61 => ?_)
        refine q_vret dX6_scanNumber_126 rfl ?_
        have nb : nbd T n q := by
          first
          | exact Or.inl ((nI_ltI (a := 4) (by omega) (by omega)).mp (by rw [e3, h5, pk_sub (by omega)] at c111; exact c111))
          | exact Or.inr hl
        refine ⟨rfl, ⟨⟨?_, ?_, ?_, ?_, ?_, ?_, ?_, ?_⟩, rfl⟩, rfl⟩
        · intro c e; rw [eI61, upc e]; exact hL.1 c e
        · rw [eI61, ups (by decide)]; exact e2
        · rw [eI61, ups (by decide)]; exact e3
        · intro _; rw [eI61, upq]
        · intro z; exact absurd nb z
        · rw [eI61, ups (by decide)]; exact h5
        · rw [eI61, ups (by decide)]; exact h6
        · rw [eI61, ups (by decide)]; exact h8
set_option maxRecDepth 100000 in
theorem l_scn {T : Nat → Nat} {n : Nat} {X : MI} (hT : TX T n X) {r : MR} (h4 : r 4 = 1) (J : MJ) {q : Nat} (hqn : q ≤ n) : ∀ (f : Nat) (i : Nat) (Y : MI) (x1 : Option Value) (_ : i + f = n) (_ : q ≤ i) (_ : Lq n i X Y) (_ : Y 55 5 = nI q) (_ : Y 55 8 = -1) (_ : Y 55 6 = nI (v10 T q (i - q))) (_ : rlp dgi T n i = dge T n q), Wq MX6_scanNumber 5 [some (.ref 55), x1] [] Y r J (Rq none (fun Y K => scN T n q X Y ∧ K = J) r) := by
  intro f
  induction f with
  | zero =>
    intro i Y x1 hik hqi hL h5 h8 h6 hw
    have hn := hT.1
    have e3 := hL.2.2
    have e2 := hL.2.1
    refine x_aload_n (q := 6) dX6_scanNumber_5 rfl rfl ?_
    refine q_gi (K := 3) (q := 9) dX6_scanNumber_6 rfl cl_6 (by decide) tw_334 rfl rfl ?_
    refine x_aload_n (q := 10) dX6_scanNumber_9 rfl rfl ?_
    refine q_gi (K := 2) (q := 13) dX6_scanNumber_10 rfl cl_6 (by decide) tw_333 rfl rfl ?_
    refine x_icmp_ge (t := 68) (q := 16) dX6_scanNumber_13 (by decide) rfl (fun c13 => ?_) (fun c13 => absurd c13 (fun z => z (by rw [e3, e2]; exact nI_le (by omega) (by omega))))
    have ew : dge T n q = i := by rw [← hw]; exact rlp_e (by omega)
    exact l_scnE hT h4 J hqn (by rw [ew]; exact hL) h5 h8 (by rw [h6]; unfold vlQ; rw [ew]) _
  | succ f ih =>
    intro i Y x1 hik hqi hL h5 h8 h6 hw
    have hn := hT.1
    have e3 := hL.2.2
    have e2 := hL.2.1
    have eb : Y 1 (Y 55 3).toNatClampNeg = bI (T i) := by rw [e3, nI_clamp (by omega)]; exact tx_b hT (hL.1 1 (by decide)) (by omega)
    have hT8 := (hT.2 i (by omega)).1
    refine x_aload_n (q := 6) dX6_scanNumber_5 rfl rfl ?_
    refine q_gi (K := 3) (q := 9) dX6_scanNumber_6 rfl cl_6 (by decide) tw_334 rfl rfl ?_
    refine x_aload_n (q := 10) dX6_scanNumber_9 rfl rfl ?_
    refine q_gi (K := 2) (q := 13) dX6_scanNumber_10 rfl cl_6 (by decide) tw_333 rfl rfl ?_
    refine x_icmp_ge (t := 68) (q := 16) dX6_scanNumber_13 (by decide) rfl (fun c13 => absurd c13 (by rw [e3, e2]; exact nI_ge (by omega) (by omega))) (fun c13 => ?_)
    refine x_aload_n (q := 17) dX6_scanNumber_16 rfl rfl ?_
    refine q_gr (K := 1) (b := 1) (q := 20) dX6_scanNumber_17 rfl cl_6 (by decide) tw_332 rfl rfl (congrArg some h4) ?_
    refine x_aload_n (q := 21) dX6_scanNumber_20 rfl rfl ?_
    refine q_gi (K := 3) (q := 24) dX6_scanNumber_21 rfl cl_6 (by decide) tw_334 rfl rfl ?_
    refine q_bald (q := 25) dX6_scanNumber_24 rfl rfl (by rw [e3]; exact vp_in_nI (by omega) (by decide)) ?_
    refine q_callS (As := [.int (Y 1 (Y 55 3).toNatClampNeg)]) (rest := []) (q := 28) dX6_scanNumber_25 rfl okX6_isDigit tw_654 (by rw [eb]; exact c_isD (bI (T i)) Y r J) rfl rfl (Nat.le_of_ble_eq_true rfl) ⟨by decide, by decide⟩ ⟨rfl, rfl⟩ (fun rv_ I_ r_ J_ hv_ => ?_)
    obtain ⟨a1_, a2_, a3_, a4_⟩ := hv_
    rw [a1_, a2_, a3_, a4_]
    show Wq MX6_scanNumber 28 [some (.ref 55), x1] [.int (dI (bI (T i)))] Y r J _
    refine x_if_eq (t := 68) (q := 31) dX6_scanNumber_28 (by decide) rfl (fun c28 => ?_) (fun c28 => ?_)
    · rw [dI_b _ hT8] at c28
      have hl : ¬ dgi (T i) = true := fun z => by rw [z] at c28; exact absurd c28 (by decide)
      have ew : dge T n q = i := by rw [← hw]; exact rlp_0 (by omega) hl
      exact l_scnE hT h4 J hqn (by rw [ew]; exact hL) h5 h8 (by rw [h6]; unfold vlQ; rw [ew]) _
    · refine x_aload_n (q := 32) dX6_scanNumber_31 rfl rfl ?_
      refine x_aload_n (q := 33) dX6_scanNumber_32 rfl rfl ?_
      refine q_gi (K := 6) (q := 36) dX6_scanNumber_33 rfl cl_6 (by decide) tw_339 rfl rfl ?_
      refine x_bipush (10) (q := 38) dX6_scanNumber_36 rfl (by decide) ?_
      refine x_imul (q := 39) dX6_scanNumber_38 rfl ?_
      refine x_aload_n (q := 40) dX6_scanNumber_39 rfl rfl ?_
      refine q_gr (K := 1) (b := 1) (q := 43) dX6_scanNumber_40 rfl cl_6 (by decide) tw_332 rfl rfl (congrArg some h4) ?_
      refine x_aload_n (q := 44) dX6_scanNumber_43 rfl rfl ?_
      refine q_gi (K := 3) (q := 47) dX6_scanNumber_44 rfl cl_6 (by decide) tw_334 rfl rfl ?_
      refine q_bald (q := 48) dX6_scanNumber_47 rfl rfl (by rw [e3]; exact vp_in_nI (by omega) (by decide)) ?_
      refine x_iadd (q := 49) dX6_scanNumber_48 rfl ?_
      refine x_bipush (48) (q := 51) dX6_scanNumber_49 rfl (by decide) ?_
      refine x_isub (q := 52) dX6_scanNumber_51 rfl ?_
      refine q_pi (K := 6) (q := 55) dX6_scanNumber_52 rfl cl_6 (by decide) tw_339 rfl rfl rfl rfl (fun I1 eI1 => ?_)
      refine x_aload_n (q := 56) dX6_scanNumber_55 rfl rfl ?_
      refine x_dup (q := 57) dX6_scanNumber_56 rfl rfl ?_
      refine q_gi (K := 3) (q := 60) dX6_scanNumber_57 rfl cl_6 (by decide) tw_334 rfl rfl ?_
      refine x_iconst (1) (q := 61) dX6_scanNumber_60 rfl (by decide) ?_
      refine x_iadd (q := 62) dX6_scanNumber_61 rfl ?_
      refine q_pi (K := 3) (q := 65) dX6_scanNumber_62 rfl cl_6 (by decide) tw_334 rfl rfl rfl rfl (fun I2 eI2 => ?_)
      refine x_goto (t := 5) dX6_scanNumber_65 (by decide) ?_
      rw [dI_b _ hT8] at c28
      have hl : dgi (T i) = true := by
        cases z : dgi (T i)
        · rw [z] at c28; exact absurd rfl c28
        · rfl
      have hii : q + (i - q) = i := by omega
      have hv := v10_s (T := T) (q := q) (k := i - q) (by rw [hii]; exact hl)
      rw [hii] at hv
      rw [eb, h6, hv] at eI1
      have e3b : I1 55 3 = nI i := by rw [eI1, ups (by decide)]; exact e3
      rw [e3b, nI_p1] at eI2
      have hL1 : Lq n i X I1 := by rw [eI1]; exact hL.o (by decide) (by decide)
      rw [eI2]
      refine ih (i + 1) _ _ (by omega) (by omega) hL1.up (by rw [ups (by decide), eI1, ups (by decide)]; exact h5) (by rw [ups (by decide), eI1, ups (by decide)]; exact h8) ?_ (by rw [← hw]; exact (rlp_1 (by omega) hl).symm)
      rw [ups (by decide), eI1, upq, show i + 1 - q = i - q + 1 by omega]
set_option maxRecDepth 100000 in
theorem c_scN {T : Nat → Nat} {n : Nat} {X : MI} (hT : TX T n X) {r : MR} (h4 : r 4 = 1) (J : MJ) {q : Nat} (hqn : q ≤ n) {Y : MI} (hL : Lq n q X Y) (h5 : Y 55 5 = nI q) (h8 : Y 55 8 = -1) : Cq yX6_scanNumber MX6_scanNumber [.ref 55] Y r J (Rq none (fun Y K => scN T n q X Y ∧ K = J) r) := by
  refine cq_of [some (.ref 55), none] 1 (by decide +kernel) rfl rfl (Nat.le_of_ble_eq_true rfl) rfl ?_
  refine x_aload_n (q := 1) dX6_scanNumber_0 rfl rfl ?_
  refine x_iconst (0) (q := 2) dX6_scanNumber_1 rfl (by decide) ?_
  refine q_pi (K := 6) (q := 5) dX6_scanNumber_2 rfl cl_6 (by decide) tw_339 rfl rfl rfl rfl (fun I1 eI1 => ?_)
  refine l_scn hT h4 J hqn (n - q) q _ _ (by omega) (Nat.le_refl _) (by rw [eI1]; exact hL.o (by decide) (by decide)) (by rw [eI1, ups (by decide)]; exact h5) (by rw [eI1, ups (by decide)]; exact h8) ?_ rfl
  rw [eI1, upq, Nat.sub_self]; rfl
