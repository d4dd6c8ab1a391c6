def LxP (T : Nat → Nat) (n q : Nat) (X : MI) (J : MJ) (Z : MI) (K : MJ) : Prop := (∀ c, c ≠ 55 → Z c = X c) ∧ JL J K ∧ LxQ T n q Z K
theorem LxQ_e {T : Nat → Nat} {n q : Nat} {Z : MI} {K : MJ} (hq : n ≤ q) (h2 : Z 55 2 = nI n) (h3 : Z 55 3 = nI q) (h4 : Z 55 4 = 0) (h5 : Z 55 5 = nI q) (h8 : Z 55 8 = -1) : LxQ T n q Z K := by
  have e1 : kdQ T n q = 0 := if_pos hq
  have e2 : enQ T n q = q := if_pos hq
  have e3 : kwQ T n q = 20 := by unfold kwQ; rw [e1]; rfl
  refine ⟨h2, by rw [e2]; exact h3, by rw [e1]; exact h4, h5, fun z => ?_, fun z => ?_, by rw [e3]; exact h8⟩
  · rw [e1] at z; exact absurd z (by decide)
  · rw [e1] at z; exact absurd z (by decide)
theorem LxQ_w {T : Nat → Nat} {n q : Nat} {X Z : MI} {J K : MJ} (hq : q < n) (hl : ltr (T q) = true) (h : scW T n q X J Z K) : LxQ T n q Z K := by
  obtain ⟨-, -, h2, h3, h4, h5, h7, h8⟩ := h
  have e1 : kdQ T n q = if 8 < wde T n q - q then 1 else 2 := by unfold kdQ; rw [if_neg (by omega), if_pos hl]
  have e2 : enQ T n q = wde T n q := by unfold enQ; rw [if_neg (by omega), if_pos hl]
  have e3 : kwQ T n q = if 8 < wde T n q - q then 20 else kg (w5Q T n q) 20 0 := by
    unfold kwQ
    rw [e1]
    by_cases z : 8 < wde T n q - q
    · rw [if_pos z, if_pos z]; rfl
    · rw [if_neg z, if_neg z]; rfl
  refine ⟨h2, by rw [e2]; exact h3, by rw [e1]; exact h4, h5, fun z => ?_, fun z => h7 ?_, by rw [e3]; exact h8⟩
  · rw [e1] at z
    by_cases y : 8 < wde T n q - q
    · rw [if_pos y] at z; exact absurd z (by decide)
    · rw [if_neg y] at z; exact absurd z (by decide)
  · rw [e1] at z
    by_cases y : 8 < wde T n q - q
    · rw [if_pos y] at z; exact absurd z (by decide)
    · omega
theorem dgi_nl {c : Nat} (h : dgi c = true) : ¬ ltr c = true := fun z => by
  have h1 := dgi_lo h
  have h2 := ltr_lo z
  omega
theorem kdQ_n {T : Nat → Nat} {n q : Nat} (hq : q < n) (hl : dgi (T q) = true) : (nbd T n q → kdQ T n q = 1) ∧ (¬ nbd T n q → kdQ T n q = 3) := by
  unfold kdQ
  rw [if_neg (by omega), if_neg (dgi_nl hl), if_pos hl]
  exact ⟨fun z => if_pos z, fun z => if_neg z⟩
theorem LxQ_n {T : Nat → Nat} {n q : Nat} {X Z : MI} {K : MJ} (hq : q < n) (hl : dgi (T q) = true) (h : scN T n q X Z) : LxQ T n q Z K := by
  obtain ⟨-, h2, h3, h4, h4b, h5, h6, h8⟩ := h
  have e1 := kdQ_n hq hl
  have e2 : enQ T n q = dge T n q := by unfold enQ; rw [if_neg (by omega), if_neg (dgi_nl hl), if_pos hl]
  have e0 : kdQ T n q ≠ 2 := by
    rcases Classical.em (nbd T n q) with z | z
    · rw [e1.1 z]; decide
    · rw [e1.2 z]; decide
  have e3 : kwQ T n q = 20 := by unfold kwQ; rw [if_neg e0]
  refine ⟨h2, by rw [e2]; exact h3, ?_, h5, fun _ => h6, fun z => absurd z e0, by rw [e3]; exact h8⟩
  rcases Classical.em (nbd T n q) with z | z
  · rw [e1.1 z]; exact h4 z
  · rw [e1.2 z]; exact h4b z
theorem LxQ_o {T : Nat → Nat} {n q : Nat} {Z : MI} {K : MJ} (hq : q < n) (hl : ¬ ltr (T q) = true) (hd : ¬ dgi (T q) = true) (h2 : Z 55 2 = nI n) (h3 : Z 55 3 = nI (q + 1)) (h4 : Z 55 4 = nI (if T q = 59 then 4 else if T q = 45 then 5 else 1)) (h5 : Z 55 5 = nI q) (h8 : Z 55 8 = -1) : LxQ T n q Z K := by
  have e1 : kdQ T n q = if T q = 59 then 4 else if T q = 45 then 5 else 1 := by unfold kdQ; rw [if_neg (by omega), if_neg hl, if_neg hd]
  have e2 : enQ T n q = q + 1 := by unfold enQ; rw [if_neg (by omega), if_neg hl, if_neg hd]
  have e0 : kdQ T n q ≠ 2 ∧ kdQ T n q ≠ 3 := by
    rw [e1]
    by_cases z : T q = 59
    · rw [if_pos z]; decide
    · rw [if_neg z]
      by_cases y : T q = 45
      · rw [if_pos y]; decide
      · rw [if_neg y]; decide
  have e3 : kwQ T n q = 20 := by unfold kwQ; rw [if_neg e0.1]
  exact ⟨h2, by rw [e2]; exact h3, by rw [e1]; exact h4, h5, fun z => absurd z e0.2, fun z => absurd z e0.1, by rw [e3]; exact h8⟩
set_option maxRecDepth 100000 in
theorem l_advE {T : Nat → Nat} {n : Nat} {X : MI} (hT : TX T n X) {r : MR} (h4 : r 4 = 1) {J : MJ} (hJ : RelJ J) {q : Nat} (hqn : q ≤ n) {Y : MI} (hL : Lq n q X Y) : Wq MX6_advance 52 [some (.ref 55)] [] Y r J (Rq none (LxP T n q X J) r) := by
  have hn := hT.1
  refine x_aload_n (q := 53) dX6_advance_52 rfl rfl ?_
  refine x_aload_n (q := 54) dX6_advance_53 rfl rfl ?_
  refine q_gi (K := 3) (q := 57) dX6_advance_54 rfl cl_6 (by decide) tw_334 rfl rfl ?_
  refine q_pi (K := 5) (q := 60) dX6_advance_57 rfl cl_6 (by decide) tw_337 rfl rfl rfl rfl (fun I1 eI1 => ?_)
  refine x_aload_n (q := 61) dX6_advance_60 rfl rfl ?_
  refine x_iconst (-1) (q := 62) dX6_advance_61 rfl (by decide) ?_
  refine q_pi (K := 8) (q := 65) dX6_advance_62 rfl cl_6 (by decide) tw_343 rfl rfl rfl rfl (fun I2 eI2 => ?_)
  have hL1 : Lq n q X I1 := by rw [eI1]; exact hL.o (by decide) (by decide)
  have hL2 : Lq n q X I2 := by rw [eI2]; exact hL1.o (by decide) (by decide)
  have h5 : I2 55 5 = nI q := by rw [eI2, ups (by decide), eI1, upq]; exact hL.2.2
  have h8 : I2 55 8 = -1 := by rw [eI2, upq]
  refine x_aload_n (q := 66) dX6_advance_65 rfl rfl ?_
  refine q_gi (K := 3) (q := 69) dX6_advance_66 rfl cl_6 (by decide) tw_334 rfl rfl ?_
  refine x_aload_n (q := 70) dX6_advance_69 rfl rfl ?_
  refine q_gi (K := 2) (q := 73) dX6_advance_70 rfl cl_6 (by decide) tw_333 rfl rfl ?_
  refine x_icmp_lt (t := 84) (q := 76) dX6_advance_73 (by decide) rfl (fun c73 => ?_) (fun c73 => ?_)
  · have glt : q < n := by
      rw [hL2.2.2, hL2.2.1, nI_ltI (by omega) (by omega)] at c73
      exact c73
    have e3 := hL2.2.2
    have eb : I2 1 (I2 55 3).toNatClampNeg = bI (T q) := by rw [e3, nI_clamp (by omega)]; exact tx_b hT (hL2.1 1 (by decide)) glt
    have hT8 := (hT.2 _ glt).1
    refine x_aload_n (q := 85) dX6_advance_84 rfl rfl ?_
    refine q_gr (K := 1) (b := 1) (q := 88) dX6_advance_85 rfl cl_6 (by decide) tw_332 rfl rfl (congrArg some h4) ?_
    refine x_aload_n (q := 89) dX6_advance_88 rfl rfl ?_
    refine q_gi (K := 3) (q := 92) dX6_advance_89 rfl cl_6 (by decide) tw_334 rfl rfl ?_
    refine q_bald (q := 93) dX6_advance_92 rfl rfl (by rw [e3]; exact vp_in_nI (by omega) (by decide)) ?_
    refine q_callS (As := [.int (I2 1 (I2 55 3).toNatClampNeg)]) (rest := []) (q := 96) dX6_advance_93 rfl okX6_isLetter tw_643 (by rw [eb]; exact c_isL (bI (T q)) I2 r J) rfl rfl (Nat.le_of_ble_eq_true rfl) ⟨by decide, by decide⟩ ⟨rfl, rfl⟩ (fun rv_ I_ r_ J_ hv_ => ?_)
    obtain ⟨a1_, a2_, a3_, a4_⟩ := hv_
    rw [a1_, a2_, a3_, a4_]
    show Wq MX6_advance 96 [some (.ref 55)] [.int (lI (bI (T q)))] I2 r J _
    refine x_if_eq (t := 106) (q := 99) dX6_advance_96 (by decide) rfl (fun c96 => ?_) (fun c96 => ?_)
    · have hl : ¬ ltr (T q) = true := fun z => by
        rw [lI_b _ hT8, z] at c96; exact absurd c96 (by decide)
      refine x_aload_n (q := 107) dX6_advance_106 rfl rfl ?_
      refine q_gr (K := 1) (b := 1) (q := 110) dX6_advance_107 rfl cl_6 (by decide) tw_332 rfl rfl (congrArg some h4) ?_
      refine x_aload_n (q := 111) dX6_advance_110 rfl rfl ?_
      refine q_gi (K := 3) (q := 114) dX6_advance_111 rfl cl_6 (by decide) tw_334 rfl rfl ?_
      refine q_bald (q := 115) dX6_advance_114 rfl rfl (by rw [e3]; exact vp_in_nI (by omega) (by decide)) ?_
      refine q_callS (As := [.int (I2 1 (I2 55 3).toNatClampNeg)]) (rest := []) (q := 118) dX6_advance_115 rfl okX6_isDigit tw_654 (by rw [eb]; exact c_isD (bI (T q)) I2 r J) rfl rfl (Nat.le_of_ble_eq_true rfl) ⟨by decide, by decide⟩ ⟨rfl, rfl⟩ (fun rv_ I_ r_ J_ hv_ => ?_)
      obtain ⟨a1_, a2_, a3_, a4_⟩ := hv_
      rw [a1_, a2_, a3_, a4_]
      show Wq MX6_advance 118 [some (.ref 55)] [.int (dI (bI (T q)))] I2 r J _
      refine x_if_eq (t := 128) (q := 121) dX6_advance_118 (by decide) rfl (fun c118 => ?_) (fun c118 => ?_)
      · have hd : ¬ dgi (T q) = true := fun z => by
          rw [dI_b _ hT8, z] at c118; exact absurd c118 (by decide)
        refine x_aload_n (q := 129) dX6_advance_128 rfl rfl ?_
        refine x_aload_n (q := 130) dX6_advance_129 rfl rfl ?_
        refine q_gr (K := 1) (b := 1) (q := 133) dX6_advance_130 rfl cl_6 (by decide) tw_332 rfl rfl (congrArg some h4) ?_
        refine x_aload_n (q := 134) dX6_advance_133 rfl rfl ?_
        refine q_gi (K := 3) (q := 137) dX6_advance_134 rfl cl_6 (by decide) tw_334 rfl rfl ?_
        refine q_bald (q := 138) dX6_advance_137 rfl rfl (by rw [e3]; exact vp_in_nI (by omega) (by decide)) ?_
        refine x_bipush (59) (q := 140) dX6_advance_138 rfl (by decide) ?_
        refine x_icmp_ne (t := 147) (q := 143) dX6_advance_140 (by decide) rfl (fun c140 => ?_) (fun c140 => ?_)
        · refine x_aload_n (q := 148) dX6_advance_147 rfl rfl ?_
          refine q_gr (K := 1) (b := 1) (q := 151) dX6_advance_148 rfl cl_6 (by decide) tw_332 rfl rfl (congrArg some h4) ?_
          refine x_aload_n (q := 152) dX6_advance_151 rfl rfl ?_
          refine q_gi (K := 3) (q := 155) dX6_advance_152 rfl cl_6 (by decide) tw_334 rfl rfl ?_
          refine q_bald (q := 156) dX6_advance_155 rfl rfl (by rw [e3]; exact vp_in_nI (by omega) (by decide)) ?_
          refine x_bipush (45) (q := 158) dX6_advance_156 rfl (by decide) ?_
          refine x_icmp_ne (t := 165) (q := 161) dX6_advance_158 (by decide) rfl (fun c158 => ?_) (fun c158 => ?_)
          · refine x_iconst (1) (q := 166) dX6_advance_165 rfl (by decide) ?_
            have ek : (1 : Int32) = nI (if T q = 59 then 4 else if T q = 45 then 5 else 1) := by
              rw [eb, bI_59 _ hT8] at c140
              rw [eb, bI_45 _ hT8] at c158
              rw [if_neg c140, if_neg c158]; rfl
            refine q_pi (K := 4) (q := 169) dX6_advance_166 rfl cl_6 (by decide) tw_335 rfl rfl rfl rfl (fun I91 eI91 => ?_)
            refine x_aload_n (q := 170) dX6_advance_169 rfl rfl ?_
            refine x_dup (q := 171) dX6_advance_170 rfl rfl ?_
            refine q_gi (K := 3) (q := 174) dX6_advance_171 rfl cl_6 (by decide) tw_334 rfl rfl ?_
            refine x_iconst (1) (q := 175) dX6_advance_174 rfl (by decide) ?_
            refine x_iadd (q := 176) dX6_advance_175 rfl ?_
            refine q_pi (K := 3) (q := 179) dX6_advance_176 rfl cl_6 (by decide) tw_334 rfl rfl rfl rfl (fun I92 eI92 => ?_)
            refine q_vret dX6_advance_179 rfl ?_
            have e3b : I91 55 3 = nI q := by rw [eI91, ups (by decide)]; exact hL2.2.2
            rw [e3b, nI_p1] at eI92
            refine ⟨rfl, ⟨fun c e => by rw [eI92, upc e, eI91, upc e]; exact hL2.1 c e, fun _ _ _ => rfl, LxQ_o glt hl hd (by rw [eI92, ups (by decide), eI91, ups (by decide)]; exact hL2.2.1) (by rw [eI92, upq]) (by rw [eI92, ups (by decide), eI91, upq]; exact ek) (by rw [eI92, ups (by decide), eI91, ups (by decide)]; exact h5) (by rw [eI92, ups (by decide), eI91, ups (by decide)]; exact h8)⟩, rfl⟩
          · refine x_iconst (5) (q := 162) dX6_advance_161 rfl (by decide) ?_
            refine x_goto (t := 166) dX6_advance_162 (by decide) ?_
            have ek : (5 : Int32) = nI (if T q = 59 then 4 else if T q = 45 then 5 else 1) := by
              rw [eb, bI_59 _ hT8] at c140
              rw [eb, bI_45 _ hT8] at c158
              rw [if_neg c140, if_pos c158]; rfl
            refine q_pi (K := 4) (q := 169) dX6_advance_166 rfl cl_6 (by decide) tw_335 rfl rfl rfl rfl (fun I91 eI91 => ?_)
            refine x_aload_n (q := 170) dX6_advance_169 rfl rfl ?_
            refine x_dup (q := 171) dX6_advance_170 rfl rfl ?_
            refine q_gi (K := 3) (q := 174) dX6_advance_171 rfl cl_6 (by decide) tw_334 rfl rfl ?_
            refine x_iconst (1) (q := 175) dX6_advance_174 rfl (by decide) ?_
            refine x_iadd (q := 176) dX6_advance_175 rfl ?_
            refine q_pi (K := 3) (q := 179) dX6_advance_176 rfl cl_6 (by decide) tw_334 rfl rfl rfl rfl (fun I92 eI92 => ?_)
            refine q_vret dX6_advance_179 rfl ?_
            have e3b : I91 55 3 = nI q := by rw [eI91, ups (by decide)]; exact hL2.2.2
            rw [e3b, nI_p1] at eI92
            refine ⟨rfl, ⟨fun c e => by rw [eI92, upc e, eI91, upc e]; exact hL2.1 c e, fun _ _ _ => rfl, LxQ_o glt hl hd (by rw [eI92, ups (by decide), eI91, ups (by decide)]; exact hL2.2.1) (by rw [eI92, upq]) (by rw [eI92, ups (by decide), eI91, upq]; exact ek) (by rw [eI92, ups (by decide), eI91, ups (by decide)]; exact h5) (by rw [eI92, ups (by decide), eI91, ups (by decide)]; exact h8)⟩, rfl⟩
        · refine x_iconst (4) (q := 144) dX6_advance_143 rfl (by decide) ?_
          refine x_goto (t := 166) dX6_advance_144 (by decide) ?_
          have ek : (4 : Int32) = nI (if T q = 59 then 4 else if T q = 45 then 5 else 1) := by
            rw [eb, bI_59 _ hT8] at c140
            rw [if_pos c140]; rfl
          refine q_pi (K := 4) (q := 169) dX6_advance_166 rfl cl_6 (by decide) tw_335 rfl rfl rfl rfl (fun I91 eI91 => ?_)
          refine x_aload_n (q := 170) dX6_advance_169 rfl rfl ?_
          refine x_dup (q := 171) dX6_advance_170 rfl rfl ?_
          refine q_gi (K := 3) (q := 174) dX6_advance_171 rfl cl_6 (by decide) tw_334 rfl rfl ?_
          refine x_iconst (1) (q := 175) dX6_advance_174 rfl (by decide) ?_
          refine x_iadd (q := 176) dX6_advance_175 rfl ?_
          refine q_pi (K := 3) (q := 179) dX6_advance_176 rfl cl_6 (by decide) tw_334 rfl rfl rfl rfl (fun I92 eI92 => ?_)
          refine q_vret dX6_advance_179 rfl ?_
          have e3b : I91 55 3 = nI q := by rw [eI91, ups (by decide)]; exact hL2.2.2
          rw [e3b, nI_p1] at eI92
          refine ⟨rfl, ⟨fun c e => by rw [eI92, upc e, eI91, upc e]; exact hL2.1 c e, fun _ _ _ => rfl, LxQ_o glt hl hd (by rw [eI92, ups (by decide), eI91, ups (by decide)]; exact hL2.2.1) (by rw [eI92, upq]) (by rw [eI92, ups (by decide), eI91, upq]; exact ek) (by rw [eI92, ups (by decide), eI91, ups (by decide)]; exact h5) (by rw [eI92, ups (by decide), eI91, ups (by decide)]; exact h8)⟩, rfl⟩
      · have hd : dgi (T q) = true := by
          rw [dI_b _ hT8] at c118
          cases z : dgi (T q)
          · rw [z] at c118; exact absurd rfl c118
          · rfl
        refine x_aload_n (q := 122) dX6_advance_121 rfl rfl ?_
        refine q_callV (ci := 6) (N := 9) (T := TX6) (As := []) (rest := []) (q := 125) dX6_advance_122 rfl okX6_scanNumber tw_657 rfl rfl (c_scN hT h4 J (by omega) hL2 h5 h8) rfl rfl (Nat.le_of_ble_eq_true rfl) ⟨by decide, by decide⟩ ⟨rfl, rfl⟩ (fun rv_ V r_ J_ hv_ => ?_)
        obtain ⟨a1_, hV, a3_⟩ := hv_
        rw [a1_, hV.2, a3_]
        show Wq MX6_advance 125 [some (.ref 55)] [] V r J _
        refine x_goto (t := 179) dX6_advance_125 (by decide) ?_
        refine q_vret dX6_advance_179 rfl ?_
        exact ⟨rfl, ⟨hV.1.1, fun _ _ _ => rfl, LxQ_n glt hd hV.1⟩, rfl⟩
    · have hl : ltr (T q) = true := by
        rw [lI_b _ hT8] at c96
        cases z : ltr (T q)
        · rw [z] at c96; exact absurd rfl c96
        · rfl
      refine x_aload_n (q := 100) dX6_advance_99 rfl rfl ?_
      refine q_callV (ci := 6) (N := 9) (T := TX6) (As := []) (rest := []) (q := 103) dX6_advance_100 rfl okX6_scanWord tw_646 rfl rfl (c_scW hT h4 hJ (by omega) (J := J) (fun _ _ _ => rfl) hL2 h5 h8) rfl rfl (Nat.le_of_ble_eq_true rfl) ⟨by decide, by decide⟩ ⟨rfl, rfl⟩ (fun rv_ V r_ J_ hv_ => ?_)
      obtain ⟨a1_, hV, a3_⟩ := hv_
      rw [a1_, a3_]
      show Wq MX6_advance 103 [some (.ref 55)] [] V r J_ _
      refine x_goto (t := 179) dX6_advance_103 (by decide) ?_
      refine q_vret dX6_advance_179 rfl ?_
      exact ⟨rfl, ⟨hV.1, hV.2.1, LxQ_w glt hl hV⟩, rfl⟩
  · refine x_aload_n (q := 77) dX6_advance_76 rfl rfl ?_
    refine x_iconst (0) (q := 78) dX6_advance_77 rfl (by decide) ?_
    refine q_pi (K := 4) (q := 81) dX6_advance_78 rfl cl_6 (by decide) tw_335 rfl rfl rfl rfl (fun I31 eI31 => ?_)
    refine x_goto (t := 179) dX6_advance_81 (by decide) ?_
    refine q_vret dX6_advance_179 rfl ?_
    refine ⟨rfl, ⟨fun c e => by rw [eI31, upc e]; exact hL2.1 c e, fun _ _ _ => rfl, LxQ_e ?_ (by rw [eI31, ups (by decide)]; exact hL2.2.1) (by rw [eI31, ups (by decide)]; exact hL2.2.2) (by rw [eI31, upq]) (by rw [eI31, ups (by decide)]; exact h5) (by rw [eI31, ups (by decide)]; exact h8)⟩, rfl⟩
    by_cases z : n ≤ q
    · exact z
    · exact absurd (by rw [hL2.2.2, hL2.2.1]; exact nI_lt (by omega) (by omega)) c73
set_option maxRecDepth 100000 in
theorem l_adv {T : Nat → Nat} {n : Nat} {X : MI} (hT : TX T n X) {r : MR} (h4 : r 4 = 1) {J : MJ} (hJ : RelJ J) {p : Nat} (hpn : p ≤ n) : ∀ (f : Nat) (i : Nat) (Y : MI) (_ : i + f = n) (_ : Lq n i X Y) (_ : rlp spc T n i = sk T n p), Wq MX6_advance 0 [some (.ref 55)] [] Y r J (Rq none (LxP T n (sk T n p) X J) r) := by
  intro f
  induction f with
  | zero =>
    intro i Y hik hL hw
    have hn := hT.1
    have e3 := hL.2.2
    have e2 := hL.2.1
    refine x_aload_n (q := 1) dX6_advance_0 rfl rfl ?_
    refine q_gi (K := 3) (q := 4) dX6_advance_1 rfl cl_6 (by decide) tw_334 rfl rfl ?_
    refine x_aload_n (q := 5) dX6_advance_4 rfl rfl ?_
    refine q_gi (K := 2) (q := 8) dX6_advance_5 rfl cl_6 (by decide) tw_333 rfl rfl ?_
    refine x_icmp_ge (t := 52) (q := 11) dX6_advance_8 (by decide) rfl (fun c8 => ?_) (fun c8 => absurd c8 (fun z => z (by rw [e3, e2]; exact nI_le (by omega) (by omega))))
    have ew : sk T n p = i := by rw [← hw]; exact rlp_e (by omega)
    have hb := rlp_b (g := spc) (T := T) (n := n) (p := p) hpn
    exact l_advE hT h4 hJ (q := sk T n p) (by unfold sk; omega) (by rw [ew]; exact hL)
  | succ f ih =>
    intro i Y hik hL hw
    have hn := hT.1
    have e3 := hL.2.2
    have e2 := hL.2.1
    have eb : Y 1 (Y 55 3).toNatClampNeg = bI (T i) := by rw [e3, nI_clamp (by omega)]; exact tx_b hT (hL.1 1 (by decide)) (by omega)
    have hT8 := (hT.2 i (by omega)).1
    refine x_aload_n (q := 1) dX6_advance_0 rfl rfl ?_
    refine q_gi (K := 3) (q := 4) dX6_advance_1 rfl cl_6 (by decide) tw_334 rfl rfl ?_
    refine x_aload_n (q := 5) dX6_advance_4 rfl rfl ?_
    refine q_gi (K := 2) (q := 8) dX6_advance_5 rfl cl_6 (by decide) tw_333 rfl rfl ?_
    refine x_icmp_ge (t := 52) (q := 11) dX6_advance_8 (by decide) rfl (fun c8 => absurd c8 (by rw [e3, e2]; exact nI_ge (by omega) (by omega))) (fun c8 => ?_)
    refine x_aload_n (q := 12) dX6_advance_11 rfl rfl ?_
    refine q_gr (K := 1) (b := 1) (q := 15) dX6_advance_12 rfl cl_6 (by decide) tw_332 rfl rfl (congrArg some h4) ?_
    refine x_aload_n (q := 16) dX6_advance_15 rfl rfl ?_
    refine q_gi (K := 3) (q := 19) dX6_advance_16 rfl cl_6 (by decide) tw_334 rfl rfl ?_
    refine q_bald (q := 20) dX6_advance_19 rfl rfl (by rw [e3]; exact vp_in_nI (by omega) (by decide)) ?_
    refine x_bipush (32) (q := 22) dX6_advance_20 rfl (by decide) ?_
    refine x_icmp_eq (t := 39) (q := 25) dX6_advance_22 (by decide) rfl (fun cs => ?_) (fun c22 => ?_)
    · have hs : spc (T i) = true := (spc_e _).mpr (by
        first
        | (rw [eb, bI_32 _ hT8] at cs; exact Or.inl cs)
        | (rw [eb, bI_10 _ hT8] at cs; exact Or.inr cs))
      refine x_aload_n (q := 40) dX6_advance_39 rfl rfl ?_
      refine x_dup (q := 41) dX6_advance_40 rfl rfl ?_
      refine q_gi (K := 3) (q := 44) dX6_advance_41 rfl cl_6 (by decide) tw_334 rfl rfl ?_
      refine x_iconst (1) (q := 45) dX6_advance_44 rfl (by decide) ?_
      refine x_iadd (q := 46) dX6_advance_45 rfl ?_
      refine q_pi (K := 3) (q := 49) dX6_advance_46 rfl cl_6 (by decide) tw_334 rfl rfl rfl rfl (fun I31 eI31 => ?_)
      refine x_goto (t := 0) dX6_advance_49 (by decide) ?_
      rw [e3, nI_p1] at eI31
      rw [eI31]
      exact ih (i + 1) _ (by omega) hL.up (by rw [← hw]; exact (rlp_1 (by omega) hs).symm)
    · refine x_aload_n (q := 26) dX6_advance_25 rfl rfl ?_
      refine q_gr (K := 1) (b := 1) (q := 29) dX6_advance_26 rfl cl_6 (by decide) tw_332 rfl rfl (congrArg some h4) ?_
      refine x_aload_n (q := 30) dX6_advance_29 rfl rfl ?_
      refine q_gi (K := 3) (q := 33) dX6_advance_30 rfl cl_6 (by decide) tw_334 rfl rfl ?_
      refine q_bald (q := 34) dX6_advance_33 rfl rfl (by rw [e3]; exact vp_in_nI (by omega) (by decide)) ?_
      refine x_bipush (10) (q := 36) dX6_advance_34 rfl (by decide) ?_
      refine x_icmp_ne (t := 52) (q := 39) dX6_advance_36 (by decide) rfl (fun cs => ?_) (fun cs => ?_)
      · have hs : ¬ spc (T i) = true := fun z => by
          rw [eb, bI_10 _ hT8] at cs
          rw [eb, bI_32 _ hT8] at c22
          rcases (spc_e _).mp z with y | y
          · exact c22 y
          · exact cs y
        have ew : sk T n p = i := by rw [← hw]; exact rlp_0 (by omega) hs
        have hb := rlp_b (g := spc) (T := T) (n := n) (p := p) hpn
        exact l_advE hT h4 hJ (q := sk T n p) (by unfold sk; omega) (by rw [ew]; exact hL)
      · have hs : spc (T i) = true := (spc_e _).mpr (by
          first
          | (rw [eb, bI_32 _ hT8] at cs; exact Or.inl cs)
          | (rw [eb, bI_10 _ hT8] at cs; exact Or.inr cs))
        refine x_aload_n (q := 40) dX6_advance_39 rfl rfl ?_
        refine x_dup (q := 41) dX6_advance_40 rfl rfl ?_
        refine q_gi (K := 3) (q := 44) dX6_advance_41 rfl cl_6 (by decide) tw_334 rfl rfl ?_
        refine x_iconst (1) (q := 45) dX6_advance_44 rfl (by decide) ?_
        refine x_iadd (q := 46) dX6_advance_45 rfl ?_
        refine q_pi (K := 3) (q := 49) dX6_advance_46 rfl cl_6 (by decide) tw_334 rfl rfl rfl rfl (fun I31 eI31 => ?_)
        refine x_goto (t := 0) dX6_advance_49 (by decide) ?_
        rw [e3, nI_p1] at eI31
        rw [eI31]
        exact ih (i + 1) _ (by omega) hL.up (by rw [← hw]; exact (rlp_1 (by omega) hs).symm)
theorem c_adv {T : Nat → Nat} {n : Nat} {X : MI} (hT : TX T n X) {r : MR} (h4 : r 4 = 1) {J : MJ} (hJ : RelJ J) {p : Nat} (hpn : p ≤ n) {Y : MI} (hL : Lq n p X Y) : Cq yX6_advance MX6_advance [.ref 55] Y r J (Rq none (LxP T n (sk T n p) X J) r) := by
  refine cq_of [some (.ref 55)] 0 (by decide +kernel) rfl rfl (Nat.le_of_ble_eq_true rfl) rfl ?_
  exact l_adv hT h4 hJ hpn (n - p) p Y (by omega) hL rfl
