/-- the model's yard in hand -/
def mPut (I : MI) (G : GT) : MI := fun b j => if b = 125 ∧ j < 5 then G j else if b = 100 ∧ 49 ≤ j ∧ j < 53 then G (j - 44) else I b j
def mGet (I : MI) : GT := fun j => if j < 5 then I 125 j else I 100 (j + 44)
theorem mPut_get (I : MI) : mPut I (mGet I) = I := by
  funext b j
  unfold mPut mGet
  by_cases h1 : b = 125 ∧ j < 5
  · rw [if_pos h1, if_pos h1.2, h1.1]
  · rw [if_neg h1]
    by_cases h2 : b = 100 ∧ 49 ≤ j ∧ j < 53
    · rw [if_pos h2, if_neg (by omega), h2.1]
      congr 1
      omega
    · rw [if_neg h2]
theorem mPut_f (I : MI) (G : GT) (K : Nat) (h : 49 ≤ K ∧ K < 53) : mPut I G 100 K = G (K - 44) := by
  simp [mPut, h.1, h.2]
theorem mPut_49 (I : MI) (G : GT) : mPut I G 100 49 = G 5 := rfl
theorem mPut_50 (I : MI) (G : GT) : mPut I G 100 50 = G 6 := rfl
theorem mPut_51 (I : MI) (G : GT) : mPut I G 100 51 = G 7 := rfl
theorem mPut_52 (I : MI) (G : GT) : mPut I G 100 52 = G 8 := rfl
theorem mPut_w (I : MI) (G : GT) (j : Nat) (h : j < 5) : mPut I G 125 j = G j := by
  simp [mPut, h]
theorem mPut_o (I : MI) (G : GT) (b j : Nat) (h1 : b ≠ 125) (h2 : b ≠ 100) : mPut I G b j = I b j := by
  simp [mPut, h1, h2]
theorem mPut_g (I : MI) (G : GT) (j : Nat) (h : j < 49) : mPut I G 100 j = I 100 j := by
  have h1 : ¬ (49 ≤ j ∧ j < 53) := by omega
  simp [mPut, h1]
theorem mPut_h (I : MI) (G : GT) (j : Nat) (h : 53 ≤ j) : mPut I G 100 j = I 100 j := by
  have h1 : ¬ (49 ≤ j ∧ j < 53) := by omega
  simp [mPut, h1]
theorem mPut_uf (I : MI) (G : GT) (K : Nat) (x : Int32) (h : 49 ≤ K ∧ K < 53) : upI (mPut I G) 100 K x = mPut I (upd G (K - 44) x) := by
  funext b j
  unfold upI mPut upd
  by_cases h1 : b = 100 ∧ j = K
  · have h3 : ¬ (b = 125 ∧ j < 5) := by omega
    have h4 : b = 100 ∧ 49 ≤ j ∧ j < 53 := by omega
    have h5 : j - 44 = K - 44 := by omega
    rw [if_pos h1, if_neg h3, if_pos h4, if_pos h5]
  · rw [if_neg h1]
    by_cases h3 : b = 125 ∧ j < 5
    · have h5 : ¬ j = K - 44 := by omega
      rw [if_pos h3, if_pos h3, if_neg h5]
    · rw [if_neg h3, if_neg h3]
      by_cases h4 : b = 100 ∧ 49 ≤ j ∧ j < 53
      · have h5 : ¬ j - 44 = K - 44 := by omega
        rw [if_pos h4, if_pos h4, if_neg h5]
      · rw [if_neg h4, if_neg h4]
theorem mPut_u49 (I : MI) (G : GT) (x : Int32) : upI (mPut I G) 100 49 x = mPut I (upd G 5 x) := mPut_uf I G 49 x (by decide)
theorem mPut_u50 (I : MI) (G : GT) (x : Int32) : upI (mPut I G) 100 50 x = mPut I (upd G 6 x) := mPut_uf I G 50 x (by decide)
theorem mPut_u51 (I : MI) (G : GT) (x : Int32) : upI (mPut I G) 100 51 x = mPut I (upd G 7 x) := mPut_uf I G 51 x (by decide)
theorem mPut_u52 (I : MI) (G : GT) (x : Int32) : upI (mPut I G) 100 52 x = mPut I (upd G 8 x) := mPut_uf I G 52 x (by decide)
theorem mPut_uw (I : MI) (G : GT) (k : Nat) (x : Int32) (h : k < 5) : upI (mPut I G) 125 k x = mPut I (upd G k x) := by
  funext b j
  unfold upI mPut upd
  by_cases h1 : b = 125 ∧ j = k
  · have h3 : b = 125 ∧ j < 5 := by omega
    rw [if_pos h1, if_pos h3, if_pos h1.2]
  · rw [if_neg h1]
    by_cases h3 : b = 125 ∧ j < 5
    · have h5 : ¬ j = k := by omega
      rw [if_pos h3, if_pos h3, if_neg h5]
    · rw [if_neg h3, if_neg h3]
      by_cases h4 : b = 100 ∧ 49 ≤ j ∧ j < 53
      · have h5 : ¬ j - 44 = k := by omega
        rw [if_pos h4, if_pos h4, if_neg h5]
      · rw [if_neg h4, if_neg h4]
theorem mPut_w0 (I : MI) (G : GT) : mPut I G 125 0 = G 0 := rfl
theorem mPut_u0 (I : MI) (G : GT) (x : Int32) : upI (mPut I G) 125 0 x = mPut I (upd G 0 x) := mPut_uw I G 0 x (by decide)
theorem mPut_put (I : MI) (G G' : GT) : mPut (mPut I G) G' = mPut I G' := by
  funext b j
  unfold mPut
  by_cases h1 : b = 125 ∧ j < 5
  · rw [if_pos h1, if_pos h1]
  · rw [if_neg h1, if_neg h1, if_neg h1]
    by_cases h2 : b = 100 ∧ 49 ≤ j ∧ j < 53
    · rw [if_pos h2, if_pos h2]
    · rw [if_neg h2, if_neg h2, if_neg h2]
def lesF (a b : Int32) : Int32 := if a < b then a else b
theorem lesF_min (a b : Int32) : lesF a b = minJ b a := rfl
set_option maxRecDepth 100000 in
theorem c_lesser (a b : Int32) (I : MI) (r : MR) (J : MJ) : Cq yX12_lesser MX12_lesser [.int a, .int b] I r J (Rt (some (.int (lesF a b))) I r J) := by
  refine cq_of [some (.int a), some (.int b)] 0 (by decide +kernel) rfl rfl (Nat.le_of_ble_eq_true rfl) rfl ?_
  refine x_iload_n (q := 1) dX12_lesser_0 rfl rfl ?_
  refine x_iload_n (q := 2) dX12_lesser_1 rfl rfl ?_
  refine x_icmp_ge (t := 9) (q := 5) dX12_lesser_2 (by decide) rfl (fun c2 => ?_) (fun c2 => ?_)
  · refine x_iload_n (q := 10) dX12_lesser_9 rfl rfl ?_
    refine q_iret dX12_lesser_10 rfl ?_
    refine ⟨?_, rfl, rfl, rfl⟩
    rw [lesF, if_neg (Int32.not_lt.mpr c2)]
  · refine x_iload_n (q := 6) dX12_lesser_5 rfl rfl ?_
    refine x_goto (t := 10) dX12_lesser_6 (by decide) ?_
    refine q_iret dX12_lesser_10 rfl ?_
    refine ⟨?_, rfl, rfl, rfl⟩
    rw [lesF, if_pos (Int32.not_le.mp c2)]
set_option maxRecDepth 100000 in
theorem c_mrunOff (x : Int32) (I : MI) (G : GT) (r : MR) (J : MJ) (hro : x < G 5 ↔ ¬ G 5 - x ≤ 0) (h0 : ¬ G 5 - x ≤ 0 → ¬ G 5 = 0) : Cq yX12_runOff MX12_runOff [.ref 100, .int x] (mPut I G) r J (Rt none (mPut I (runOffG x G)) r J) := by
  refine cq_of [some (.ref 100), some (.int x)] 0 (by decide +kernel) rfl rfl (Nat.le_of_ble_eq_true rfl) rfl ?_
  refine x_aload_n (q := 1) dX12_runOff_0 rfl rfl ?_
  refine q_gi (K := 49) (q := 4) dX12_runOff_1 rfl cl_12 (by decide) tw_1131 rfl rfl ?_
  refine x_iload_n (q := 5) dX12_runOff_4 rfl rfl ?_
  refine x_icmp_gt (t := 9) (q := 8) dX12_runOff_5 (by decide) rfl (fun c5 => ?_) (fun c5 => ?_)
  · refine x_aload_n (q := 10) dX12_runOff_9 rfl rfl ?_
    refine x_dup (q := 11) dX12_runOff_10 rfl rfl ?_
    refine q_gi (K := 52) (q := 14) dX12_runOff_11 rfl cl_12 (by decide) tw_1134 rfl rfl ?_
    refine x_aload_n (q := 15) dX12_runOff_14 rfl rfl ?_
    refine q_gi (K := 52) (q := 18) dX12_runOff_15 rfl cl_12 (by decide) tw_1134 rfl rfl ?_
    refine x_aload_n (q := 19) dX12_runOff_18 rfl rfl ?_
    refine q_gi (K := 49) (q := 22) dX12_runOff_19 rfl cl_12 (by decide) tw_1131 rfl rfl ?_
    refine x_iload_n (q := 23) dX12_runOff_22 rfl rfl ?_
    refine x_isub (q := 24) dX12_runOff_23 rfl ?_
    refine x_imul (q := 25) dX12_runOff_24 rfl ?_
    refine x_aload_n (q := 26) dX12_runOff_25 rfl rfl ?_
    refine q_gi (K := 49) (q := 29) dX12_runOff_26 rfl cl_12 (by decide) tw_1131 rfl rfl ?_
    refine x_idiv (q := 30) dX12_runOff_29 rfl (by rw [mPut_49]; exact h0 (hro.mp c5)) ?_
    refine x_isub (q := 31) dX12_runOff_30 rfl ?_
    refine q_pi (K := 52) (q := 34) dX12_runOff_31 rfl cl_12 (by decide) tw_1134 rfl rfl rfl rfl (fun I1 eI1 => ?_)
    refine x_aload_n (q := 35) dX12_runOff_34 rfl rfl ?_
    refine x_iload_n (q := 36) dX12_runOff_35 rfl rfl ?_
    refine q_pi (K := 49) (q := 39) dX12_runOff_36 rfl cl_12 (by decide) tw_1131 rfl rfl rfl rfl (fun I2 eI2 => ?_)
    refine q_vret dX12_runOff_39 rfl ?_
    refine ⟨rfl, ?_, rfl, rfl⟩
    subst_vars
    simp only [mPut_49, mPut_50, mPut_51, mPut_52, mPut_u49, mPut_u50, mPut_u51, mPut_u52, mPut_w0, mPut_u0, cl_lit0]
    exact congrArg (mPut I) (Eq.symm (if_neg (hro.mp c5)))
  · refine q_vret dX12_runOff_8 rfl ?_
    refine ⟨rfl, ?_, rfl, rfl⟩
    refine congrArg (mPut I) (Eq.symm (if_pos ?_))
    exact Classical.not_not.mp (fun q => c5 (hro.mpr q))
theorem point_m (G : GT) (p q : Int32) (hp : p = -(10 * G 8 / (G 5 + G 6 + G 7 + 10))) (hq : (p < -80 ∧ q = -80) ∨ (¬ p < -80 ∧ q = p)) : q = pointF G := by
  unfold pointF maxJ
  rw [← hp]
  rcases hq with ⟨h1, h2⟩ | ⟨h1, h2⟩
  · have : ¬ (-80 < p) := Int32.not_lt.mpr (Int32.le_of_lt h1)
    rw [if_neg this, h2]
  · by_cases h3 : -80 < p
    · rw [if_pos h3, h2]
    · rw [if_neg h3, h2]
      exact Int32.le_antisymm (Int32.not_lt.mp h3) (Int32.not_lt.mp h1)
set_option maxRecDepth 100000 in
theorem t_turn40 (I : MI) (G : GT) (r : MR) (J : MJ) (h5 : 0 ≤ G 5) (x2 : Option Value) : Wq MX12_turn 40 [some (.ref 100), some (.int (pointF G)), x2] [] (mPut I G) r J (Rt none (mPut I (meltG G)) r J) := by
  refine x_aload_n (q := 41) dX12_turn_40 rfl rfl ?_
  refine q_gr (K := 48) (b := 125) (q := 44) dX12_turn_41 rfl cl_12 (by decide) tw_1130 rfl rfl rfl ?_
  refine x_iconst (0) (q := 45) dX12_turn_44 rfl (by decide) ?_
  refine q_iald (q := 46) dX12_turn_45 rfl rfl (vin (by decide)) ?_
  refine x_iload_n (q := 47) dX12_turn_46 rfl rfl ?_
  refine x_icmp_le (t := 153) (q := 50) dX12_turn_47 (by decide) rfl (fun c47 => ?_) (fun c47 => ?_)
  · refine x_aload_n (q := 154) dX12_turn_153 rfl rfl ?_
    refine q_gr (K := 48) (b := 125) (q := 157) dX12_turn_154 rfl cl_12 (by decide) tw_1130 rfl rfl rfl ?_
    refine x_iconst (0) (q := 158) dX12_turn_157 rfl (by decide) ?_
    refine q_iald (q := 159) dX12_turn_158 rfl rfl (vin (by decide)) ?_
    refine x_iload_n (q := 160) dX12_turn_159 rfl rfl ?_
    refine x_icmp_ge (t := 213) (q := 163) dX12_turn_160 (by decide) rfl (fun c160 => ?_) (fun c160 => ?_)
    · refine q_vret dX12_turn_213 rfl ?_
      refine ⟨rfl, ?_, rfl, rfl⟩
      simp only [mPut_w0, cl_lit0] at c47 c160
      have hx : G 0 = pointF G := Int32.le_antisymm c47 c160
      refine congrArg (mPut I) (Eq.symm ?_)
      unfold meltG
      rw [if_pos c47]
      have hm : minJ (G 5) ((pointF G - G 0) / 2) = 0 := by
        rw [hx, Int32.sub_self]
        show minJ (G 5) 0 = 0
        unfold minJ
        by_cases h9 : (0 : Int32) < G 5
        · rw [if_pos h9]
        · rw [if_neg h9]
          exact Int32.le_antisymm (Int32.not_lt.mp h9) h5
      rw [hm]
      funext j
      simp only [upd]
      by_cases j0 : j = 0
      · subst j0; simp
      · by_cases j7 : j = 7
        · subst j7; simp
        · by_cases j5 : j = 5
          · subst j5; simp
          · simp [j0, j7, j5]
    · refine x_iload_n (q := 164) dX12_turn_163 rfl rfl ?_
      refine x_aload_n (q := 165) dX12_turn_164 rfl rfl ?_
      refine q_gr (K := 48) (b := 125) (q := 168) dX12_turn_165 rfl cl_12 (by decide) tw_1130 rfl rfl rfl ?_
      refine x_iconst (0) (q := 169) dX12_turn_168 rfl (by decide) ?_
      refine q_iald (q := 170) dX12_turn_169 rfl rfl (vin (by decide)) ?_
      refine x_isub (q := 171) dX12_turn_170 rfl ?_
      refine x_iconst (2) (q := 172) dX12_turn_171 rfl (by decide) ?_
      refine x_idiv (q := 173) dX12_turn_172 rfl (by decide) ?_
      refine x_aload_n (q := 174) dX12_turn_173 rfl rfl ?_
      refine q_gi (K := 49) (q := 177) dX12_turn_174 rfl cl_12 (by decide) tw_1131 rfl rfl ?_
      refine q_callS (As := [.int (((pointF G) - ((mPut I G) 125 (0 : Int32).toNatClampNeg)) / 2), .int ((mPut I G) 100 49)]) (rest := []) (q := 180) dX12_turn_177 rfl okX12_lesser tw_1461 (c_lesser _ _ _ _ _) rfl rfl (Nat.le_of_ble_eq_true rfl) ⟨by decide, by decide⟩ ⟨rfl, rfl⟩ (fun rv_ I_ r_ J_ hv_ => ?_)
      obtain ⟨a1_, a2_, a3_, a4_⟩ := hv_
      rw [a1_, a2_, a3_, a4_]
      show Wq MX12_turn 180 [some (.ref 100), some (.int (pointF G)), x2] [.int (lesF (((pointF G) - ((mPut I G) 125 (0 : Int32).toNatClampNeg)) / 2) ((mPut I G) 100 49))] (mPut I G) r J _
      refine x_nmi (fun v1 ev1 => ?_)
      refine x_istore_n (L2 := [some (.ref 100), some (.int (pointF G)), some (.int v1)]) (q := 181) dX12_turn_180 rfl (by decide) rfl rfl ?_
      refine x_aload_n (q := 182) dX12_turn_181 rfl rfl ?_
      refine x_dup (q := 183) dX12_turn_182 rfl rfl ?_
      refine q_gi (K := 49) (q := 186) dX12_turn_183 rfl cl_12 (by decide) tw_1131 rfl rfl ?_
      refine x_iload_n (q := 187) dX12_turn_186 rfl rfl ?_
      refine x_isub (q := 188) dX12_turn_187 rfl ?_
      refine q_pi (K := 49) (q := 191) dX12_turn_188 rfl cl_12 (by decide) tw_1131 rfl rfl rfl rfl (fun I2 eI2 => ?_)
      refine x_aload_n (q := 192) dX12_turn_191 rfl rfl ?_
      refine x_dup (q := 193) dX12_turn_192 rfl rfl ?_
      refine q_gi (K := 51) (q := 196) dX12_turn_193 rfl cl_12 (by decide) tw_1133 rfl rfl ?_
      refine x_iload_n (q := 197) dX12_turn_196 rfl rfl ?_
      refine x_iadd (q := 198) dX12_turn_197 rfl ?_
      refine q_pi (K := 51) (q := 201) dX12_turn_198 rfl cl_12 (by decide) tw_1133 rfl rfl rfl rfl (fun I3 eI3 => ?_)
      refine x_aload_n (q := 202) dX12_turn_201 rfl rfl ?_
      refine q_gr (K := 48) (b := 125) (q := 205) dX12_turn_202 rfl cl_12 (by decide) tw_1130 rfl rfl rfl ?_
      refine x_iconst (0) (q := 206) dX12_turn_205 rfl (by decide) ?_
      refine x_dup2 (q := 207) dX12_turn_206 rfl rfl rfl ?_
      refine q_iald (q := 208) dX12_turn_207 rfl rfl (vin (by decide)) ?_
      refine x_iconst (2) (q := 209) dX12_turn_208 rfl (by decide) ?_
      refine x_iload_n (q := 210) dX12_turn_209 rfl rfl ?_
      refine x_imul (q := 211) dX12_turn_210 rfl ?_
      refine x_iadd (q := 212) dX12_turn_211 rfl ?_
      refine q_iast (q := 213) dX12_turn_212 rfl rfl (vin (by decide)) (fun I4 eI4 => ?_)
      refine q_vret dX12_turn_213 rfl ?_
      refine ⟨rfl, ?_, rfl, rfl⟩
      subst_vars
      simp only [mPut_49, mPut_50, mPut_51, mPut_52, mPut_u49, mPut_u50, mPut_u51, mPut_u52, mPut_w0, mPut_u0, cl_lit0, lesF_min] at *
      refine congrArg (mPut I) (Eq.trans ?_ (if_pos c47).symm)
      rfl
  · refine x_aload_n (q := 51) dX12_turn_50 rfl rfl ?_
    refine q_gr (K := 48) (b := 125) (q := 54) dX12_turn_51 rfl cl_12 (by decide) tw_1130 rfl rfl rfl ?_
    refine x_iconst (0) (q := 55) dX12_turn_54 rfl (by decide) ?_
    refine q_iald (q := 56) dX12_turn_55 rfl rfl (vin (by decide)) ?_
    refine x_iload_n (q := 57) dX12_turn_56 rfl rfl ?_
    refine x_isub (q := 58) dX12_turn_57 rfl ?_
    refine x_iconst (2) (q := 59) dX12_turn_58 rfl (by decide) ?_
    refine x_idiv (q := 60) dX12_turn_59 rfl (by decide) ?_
    refine x_aload_n (q := 61) dX12_turn_60 rfl rfl ?_
    refine q_gi (K := 50) (q := 64) dX12_turn_61 rfl cl_12 (by decide) tw_1132 rfl rfl ?_
    refine q_callS (As := [.int ((((mPut I G) 125 (0 : Int32).toNatClampNeg) - (pointF G)) / 2), .int ((mPut I G) 100 50)]) (rest := []) (q := 67) dX12_turn_64 rfl okX12_lesser tw_1461 (c_lesser _ _ _ _ _) rfl rfl (Nat.le_of_ble_eq_true rfl) ⟨by decide, by decide⟩ ⟨rfl, rfl⟩ (fun rv_ I_ r_ J_ hv_ => ?_)
    obtain ⟨a1_, a2_, a3_, a4_⟩ := hv_
    rw [a1_, a2_, a3_, a4_]
    show Wq MX12_turn 67 [some (.ref 100), some (.int (pointF G)), x2] [.int (lesF ((((mPut I G) 125 (0 : Int32).toNatClampNeg) - (pointF G)) / 2) ((mPut I G) 100 50))] (mPut I G) r J _
    refine x_nmi (fun v5 ev5 => ?_)
    refine x_istore_n (L2 := [some (.ref 100), some (.int (pointF G)), some (.int v5)]) (q := 68) dX12_turn_67 rfl (by decide) rfl rfl ?_
    refine x_aload_n (q := 69) dX12_turn_68 rfl rfl ?_
    refine x_dup (q := 70) dX12_turn_69 rfl rfl ?_
    refine q_gi (K := 50) (q := 73) dX12_turn_70 rfl cl_12 (by decide) tw_1132 rfl rfl ?_
    refine x_iload_n (q := 74) dX12_turn_73 rfl rfl ?_
    refine x_isub (q := 75) dX12_turn_74 rfl ?_
    refine q_pi (K := 50) (q := 78) dX12_turn_75 rfl cl_12 (by decide) tw_1132 rfl rfl rfl rfl (fun I6 eI6 => ?_)
    refine x_aload_n (q := 79) dX12_turn_78 rfl rfl ?_
    refine x_dup (q := 80) dX12_turn_79 rfl rfl ?_
    refine q_gi (K := 49) (q := 83) dX12_turn_80 rfl cl_12 (by decide) tw_1131 rfl rfl ?_
    refine x_iload_n (q := 84) dX12_turn_83 rfl rfl ?_
    refine x_iadd (q := 85) dX12_turn_84 rfl ?_
    refine q_pi (K := 49) (q := 88) dX12_turn_85 rfl cl_12 (by decide) tw_1131 rfl rfl rfl rfl (fun I7 eI7 => ?_)
    refine x_aload_n (q := 89) dX12_turn_88 rfl rfl ?_
    refine q_gr (K := 48) (b := 125) (q := 92) dX12_turn_89 rfl cl_12 (by decide) tw_1130 rfl rfl rfl ?_
    refine x_iconst (0) (q := 93) dX12_turn_92 rfl (by decide) ?_
    refine x_dup2 (q := 94) dX12_turn_93 rfl rfl rfl ?_
    refine q_iald (q := 95) dX12_turn_94 rfl rfl (vin (by decide)) ?_
    refine x_iconst (2) (q := 96) dX12_turn_95 rfl (by decide) ?_
    refine x_iload_n (q := 97) dX12_turn_96 rfl rfl ?_
    refine x_imul (q := 98) dX12_turn_97 rfl ?_
    refine x_isub (q := 99) dX12_turn_98 rfl ?_
    refine q_iast (q := 100) dX12_turn_99 rfl rfl (vin (by decide)) (fun I8 eI8 => ?_)
    refine x_aload_n (q := 101) dX12_turn_100 rfl rfl ?_
    refine q_gr (K := 48) (b := 125) (q := 104) dX12_turn_101 rfl cl_12 (by decide) tw_1130 rfl rfl rfl ?_
    refine x_iconst (0) (q := 105) dX12_turn_104 rfl (by decide) ?_
    refine q_iald (q := 106) dX12_turn_105 rfl rfl (vin (by decide)) ?_
    refine x_iload_n (q := 107) dX12_turn_106 rfl rfl ?_
    refine x_isub (q := 108) dX12_turn_107 rfl ?_
    refine x_iconst (2) (q := 109) dX12_turn_108 rfl (by decide) ?_
    refine x_idiv (q := 110) dX12_turn_109 rfl (by decide) ?_
    refine x_aload_n (q := 111) dX12_turn_110 rfl rfl ?_
    refine q_gi (K := 51) (q := 114) dX12_turn_111 rfl cl_12 (by decide) tw_1133 rfl rfl ?_
    refine q_callS (As := [.int (((I8 125 (0 : Int32).toNatClampNeg) - (pointF G)) / 2), .int (I8 100 51)]) (rest := []) (q := 117) dX12_turn_114 rfl okX12_lesser tw_1461 (c_lesser _ _ _ _ _) rfl rfl (Nat.le_of_ble_eq_true rfl) ⟨by decide, by decide⟩ ⟨rfl, rfl⟩ (fun rv_ I_ r_ J_ hv_ => ?_)
    obtain ⟨a1_, a2_, a3_, a4_⟩ := hv_
    rw [a1_, a2_, a3_, a4_]
    show Wq MX12_turn 117 [some (.ref 100), some (.int (pointF G)), some (.int v5)] [.int (lesF (((I8 125 (0 : Int32).toNatClampNeg) - (pointF G)) / 2) (I8 100 51))] I8 r J _
    refine x_nmi (fun v9 ev9 => ?_)
    refine x_istore_n (L2 := [some (.ref 100), some (.int (pointF G)), some (.int v9)]) (q := 118) dX12_turn_117 rfl (by decide) rfl rfl ?_
    refine x_aload_n (q := 119) dX12_turn_118 rfl rfl ?_
    refine x_dup (q := 120) dX12_turn_119 rfl rfl ?_
    refine q_gi (K := 51) (q := 123) dX12_turn_120 rfl cl_12 (by decide) tw_1133 rfl rfl ?_
    refine x_iload_n (q := 124) dX12_turn_123 rfl rfl ?_
    refine x_isub (q := 125) dX12_turn_124 rfl ?_
    refine q_pi (K := 51) (q := 128) dX12_turn_125 rfl cl_12 (by decide) tw_1133 rfl rfl rfl rfl (fun I10 eI10 => ?_)
    refine x_aload_n (q := 129) dX12_turn_128 rfl rfl ?_
    refine x_dup (q := 130) dX12_turn_129 rfl rfl ?_
    refine q_gi (K := 49) (q := 133) dX12_turn_130 rfl cl_12 (by decide) tw_1131 rfl rfl ?_
    refine x_iload_n (q := 134) dX12_turn_133 rfl rfl ?_
    refine x_iadd (q := 135) dX12_turn_134 rfl ?_
    refine q_pi (K := 49) (q := 138) dX12_turn_135 rfl cl_12 (by decide) tw_1131 rfl rfl rfl rfl (fun I11 eI11 => ?_)
    refine x_aload_n (q := 139) dX12_turn_138 rfl rfl ?_
    refine q_gr (K := 48) (b := 125) (q := 142) dX12_turn_139 rfl cl_12 (by decide) tw_1130 rfl rfl rfl ?_
    refine x_iconst (0) (q := 143) dX12_turn_142 rfl (by decide) ?_
    refine x_dup2 (q := 144) dX12_turn_143 rfl rfl rfl ?_
    refine q_iald (q := 145) dX12_turn_144 rfl rfl (vin (by decide)) ?_
    refine x_iconst (2) (q := 146) dX12_turn_145 rfl (by decide) ?_
    refine x_iload_n (q := 147) dX12_turn_146 rfl rfl ?_
    refine x_imul (q := 148) dX12_turn_147 rfl ?_
    refine x_isub (q := 149) dX12_turn_148 rfl ?_
    refine q_iast (q := 150) dX12_turn_149 rfl rfl (vin (by decide)) (fun I12 eI12 => ?_)
    refine x_goto (t := 213) dX12_turn_150 (by decide) ?_
    refine q_vret dX12_turn_213 rfl ?_
    refine ⟨rfl, ?_, rfl, rfl⟩
    subst_vars
    simp only [mPut_49, mPut_50, mPut_51, mPut_52, mPut_u49, mPut_u50, mPut_u51, mPut_u52, mPut_w0, mPut_u0, cl_lit0, lesF_min] at *
    refine congrArg (mPut I) (Eq.trans ?_ (if_neg c47).symm)
    funext j
    simp only [upd]
    by_cases j0 : j = 0
    · subst j0; rfl
    · by_cases j7 : j = 7
      · subst j7; rfl
      · by_cases j5 : j = 5
        · subst j5; simp [Int32.add_assoc]
        · by_cases j6 : j = 6
          · subst j6; rfl
          · simp [j0, j7, j5, j6]
set_option maxRecDepth 100000 in
theorem c_turn (I : MI) (G : GT) (r : MR) (J : MJ) (h5 : 0 ≤ G 5) (h0 : ¬ G 5 + G 6 + G 7 + 10 = 0) : Cq yX12_turn MX12_turn [.ref 100] (mPut I G) r J (Rt none (mPut I (meltG G)) r J) := by
  refine cq_of [some (.ref 100), none, none] 2 (by decide +kernel) rfl rfl (Nat.le_of_ble_eq_true rfl) rfl ?_
  refine x_bipush (10) (q := 2) dX12_turn_0 rfl (by decide) ?_
  refine x_aload_n (q := 3) dX12_turn_2 rfl rfl ?_
  refine q_gi (K := 52) (q := 6) dX12_turn_3 rfl cl_12 (by decide) tw_1134 rfl rfl ?_
  refine x_imul (q := 7) dX12_turn_6 rfl ?_
  refine x_aload_n (q := 8) dX12_turn_7 rfl rfl ?_
  refine q_gi (K := 49) (q := 11) dX12_turn_8 rfl cl_12 (by decide) tw_1131 rfl rfl ?_
  refine x_aload_n (q := 12) dX12_turn_11 rfl rfl ?_
  refine q_gi (K := 50) (q := 15) dX12_turn_12 rfl cl_12 (by decide) tw_1132 rfl rfl ?_
  refine x_iadd (q := 16) dX12_turn_15 rfl ?_
  refine x_aload_n (q := 17) dX12_turn_16 rfl rfl ?_
  refine q_gi (K := 51) (q := 20) dX12_turn_17 rfl cl_12 (by decide) tw_1133 rfl rfl ?_
  refine x_iadd (q := 21) dX12_turn_20 rfl ?_
  refine x_bipush (10) (q := 23) dX12_turn_21 rfl (by decide) ?_
  refine x_iadd (q := 24) dX12_turn_23 rfl ?_
  refine x_idiv (q := 25) dX12_turn_24 rfl (by simp only [mPut_49, mPut_50, mPut_51, mPut_52, mPut_u49, mPut_u50, mPut_u51, mPut_u52, mPut_w0, mPut_u0, cl_lit0]; exact h0) ?_
  refine x_ineg (q := 26) dX12_turn_25 rfl ?_
  refine x_nmi (fun v1 ev1 => ?_)
  refine x_istore_n (L2 := [some (.ref 100), some (.int v1), none]) (q := 27) dX12_turn_26 rfl (by decide) rfl rfl ?_
  refine x_iload_n (q := 28) dX12_turn_27 rfl rfl ?_
  refine x_bipush (-80) (q := 30) dX12_turn_28 rfl (by decide) ?_
  refine x_icmp_ge (t := 38) (q := 33) dX12_turn_30 (by decide) rfl (fun c30 => ?_) (fun c30 => ?_)
  · refine x_iload_n (q := 39) dX12_turn_38 rfl rfl ?_
    rw [show v1 = pointF G from point_m G v1 _ (by rw [ev1]; rfl) (Or.inr ⟨Int32.not_lt.mpr c30, rfl⟩)]
    refine x_istore_n (L2 := [some (.ref 100), some (.int (pointF G)), none]) (q := 40) dX12_turn_39 rfl (by decide) rfl rfl ?_
    exact t_turn40 I G r J h5 _
  · refine x_bipush (-80) (q := 35) dX12_turn_33 rfl (by decide) ?_
    refine x_goto (t := 39) dX12_turn_35 (by decide) ?_
    rw [show (-80) = pointF G from point_m G v1 _ (by rw [ev1]; rfl) (Or.inl ⟨Int32.not_le.mp c30, rfl⟩)]
    refine x_istore_n (L2 := [some (.ref 100), some (.int (pointF G)), none]) (q := 40) dX12_turn_39 rfl (by decide) rfl rfl ?_
    exact t_turn40 I G r J h5 _
