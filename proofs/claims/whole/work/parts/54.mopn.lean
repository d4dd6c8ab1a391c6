theorem i_nt (x y : Int32) : x &&& (y ^^^ (-1)) = x ^^^ (x &&& y) := by
  apply Int32.toBitVec_inj.mp
  rw [Int32.toBitVec_and, Int32.toBitVec_xor, Int32.toBitVec_xor, Int32.toBitVec_and, show (-1 : Int32).toBitVec = BitVec.allOnes 32 by decide]
  apply BitVec.eq_of_getLsbD_eq
  intro i hi
  rw [BitVec.getLsbD_and, BitVec.getLsbD_xor, BitVec.getLsbD_xor, BitVec.getLsbD_and, BitVec.getLsbD_allOnes]
  rw [decide_eq_true hi]
  cases x.toBitVec.getLsbD i <;> cases y.toBitVec.getLsbD i <;> rfl
theorem gt720 {n : Nat} (h : n < 2 ^ 31) : (720 : Int32) < nI n ↔ 720 < n := nI_ltI (a := 720) (by decide) h
theorem nI_xor (a b : Nat) : nI a ^^^ nI b = nI (a ^^^ b) := Int32.toBitVec_inj.mp (BitVec.ofNat_xor (w := 32)).symm
theorem nI_nt (a b : Nat) : nI a &&& (nI b ^^^ (-1)) = nI (a ^^^ (a &&& b)) := by
  rw [i_nt, nI_and, nI_xor]
theorem mn_v {sp m : Nat} (h1 : sp ≤ 71) (h2 : m ≤ 780) : lesF (nI sp + nI m / 10) 72 = nI (min 72 (sp + m / 10)) := bh_v h1 h2
def MV (I : MI) (B : Nat → Nat) (Q : Nat → Nat → Prop) (lo : Nat) (X : MI) : Prop := Kp I X ∧ (∀ s, s < 73 → X 133 s = nI (B s)) ∧ th 132 lo Q X
def Fr (I : MI) (B : Nat → Nat) (sp fr m : Nat) : Nat → Nat → Prop := fun m' y => Sr I B sp fr m m' y ∧ (m' = m → ¬ blk B sp m y)
def Vr (I : MI) (B : Nat → Nat) (sp fr m a : Nat) : Nat → Nat → Prop := fun m' y => Fr I B sp fr m m' y ∨ ∃ a0 k, a0 < a ∧ ed I a0 y k ∧ m' = m + k ∧ Rr I B sp fr m a0
def Wr (I : MI) (B : Nat → Nat) (sp fr m a c : Nat) : Nat → Nat → Prop := fun m' y => Vr I B sp fr m a m' y ∨ ∃ k, y < c ∧ ed I a y k ∧ m' = m + k
theorem th_f {I : MI} {B : Nat → Nat} {sp fr m : Nat} {X : MI} (hB : ∀ s, B s < 256) (hm : m ≤ 720) (h : th 132 m (Sr I B sp fr m) X) : th 132 m (Fr I B sp fr m) (upI X 132 m (X 132 m &&& (nI (B (min 72 (sp + m / 10))) ^^^ (-1)))) := by
  intro m' h1 h2
  obtain ⟨N, q1, q2, q3⟩ := h m' h1 h2
  by_cases e : m' = m
  · subst e
    refine ⟨N ^^^ (N &&& B (min 72 (sp + m' / 10))), Nat.xor_lt_two_pow (n := 8) q1 (Nat.lt_of_le_of_lt Nat.and_le_left q1), by rw [upq, q2, nI_nt], fun y hy => ?_⟩
    rw [Nat.testBit_xor, Nat.testBit_and]
    unfold Fr blk
    rw [← q3 y hy]
    cases N.testBit y <;> cases (B (min 72 (sp + m' / 10))).testBit y <;> simp
  · refine ⟨N, q1, by rw [ups e]; exact q2, fun y hy => ?_⟩
    rw [q3 y hy]
    exact ⟨fun z => ⟨z, fun w => absurd w e⟩, fun z => z.1⟩
theorem Fr_m {I : MI} {B : Nat → Nat} {sp fr m y : Nat} : Fr I B sp fr m m y ↔ Rr I B sp fr m y := ⟨fun z => ⟨z.1, z.2 rfl⟩, fun z => ⟨z.1, fun _ => z.2⟩⟩
theorem Vr_m {I : MI} {B : Nat → Nat} {sp fr m a y : Nat} : Vr I B sp fr m a m y ↔ Rr I B sp fr m y := by
  unfold Vr
  rw [Fr_m]
  exact ⟨fun z => z.elim id (fun ⟨a0, k, _, q2, q3, _⟩ => absurd q2.2.2.1 (by omega)), Or.inl⟩
theorem ed_or {I : MI} {b yn wn sn a c : Nat} (h2 : LOk2 I b yn wn sn) (h8 : yn ≤ 8) (he : RLe I b yn wn sn) (ha : a < 8) (hc : c < 8) : I 119 (8 * a + c) = 0 ∨ ∃ k, ed I a c k := by
  by_cases q : I 119 (8 * a + c) = 0
  · exact Or.inl q
  · obtain ⟨i, hi, hw⟩ := he.2.2.2.2.2.2.2 a c ha hc q
    have e := he.2.2.2.2.2.2.1 i hi a c ha hc hw
    obtain ⟨f, t, k, hwy⟩ := h2.2.2.2.2.2.1 i hi
    exact Or.inr ⟨k, ha, hc, hwy.2.2.2.2.2.2.1, hwy.2.2.2.2.2.2.2, by rw [e]; exact hwy.2.2.1⟩
theorem ed_u {I : MI} {a c k k' : Nat} (h : ed I a c k) (h' : ed I a c k') : k = k' := by
  obtain ⟨-, -, -, h4, h5⟩ := h
  obtain ⟨-, -, -, g4, g5⟩ := h'
  rw [h5, nI_eq (by omega) (by omega)] at g5
  exact g5
set_option maxRecDepth 100000 in
theorem l_mo2 {I : MI} {b yn wn hn sn st : Nat} (r : MR) (J : MJ) (h : RelL I b yn wn hn sn st) {B : Nat → Nat} (hB : ∀ s, B s < 256) {sp fr to : Nat} (hsp : sp ≤ 71) {m a : Nat} (hm : m ≤ 720) (ha : a < yn) (hra : Rr I B sp fr m a) (post : Option Value → MI → MR → MJ → Prop) (kx : ∀ (X : MI) (x6 x7 : Option Value), MV I B (Wr I B sp fr m a yn) m X → Wq MX12_open 220 [some (.ref 100), some (.int (nI fr)), some (.int (nI to)), some (.int (nI sp)), some (.int (nI m)), some (.int (nI a)), x6, x7] [] X r J post) : ∀ (f : Nat) (c : Nat) (X : MI) (x7 : Option Value) (_ : c + f = yn) (_ : MV I B (Wr I B sp fr m a c) m X), Wq MX12_open 157 [some (.ref 100), some (.int (nI fr)), some (.int (nI to)), some (.int (nI sp)), some (.int (nI m)), some (.int (nI a)), some (.int (nI c)), x7] [] X r J (post) := by
  have h8 : yn ≤ 8 := h.1.2.2.1
  intro f
  induction f with
  | zero =>
    intro c X x7 hck hX
    have em : X 100 41 = nI yn := by rw [hX.1 100 41 (by unfold scr; omega)]; exact h.2.2.1.1
    have hcm : (nI m).toNatClampNeg = m := nI_clamp (by omega)
    refine x_iload (q := 159) dX12_open_157 rfl rfl ?_
    refine x_aload_n (q := 160) dX12_open_159 rfl rfl ?_
    refine q_gi (K := 41) (q := 163) dX12_open_160 rfl cl_12 (by decide) tw_1123 rfl rfl ?_
    refine x_icmp_ge (t := 220) (q := 166) dX12_open_163 (by decide) rfl (fun c163 => ?_) (fun c163 => absurd c163 (fun q => q (by rw [em]; exact nI_le (by omega) (by omega))))
    rw [show c = yn by omega] at hX
    exact kx X _ _ hX
  | succ f ih =>
    intro c X x7 hck hX
    have em : X 100 41 = nI yn := by rw [hX.1 100 41 (by unfold scr; omega)]; exact h.2.2.1.1
    have hcm : (nI m).toNatClampNeg = m := nI_clamp (by omega)
    have ead : (8 : Int32) * nI a + nI c = nI (8 * a + c) := by
      rw [show (8 : Int32) = nI 8 from rfl, pk_mul, nI_add]
    have e119 : X 119 (8 * a + c) = I 119 (8 * a + c) := hX.1 119 _ (by unfold scr; omega)
    refine x_iload (q := 159) dX12_open_157 rfl rfl ?_
    refine x_aload_n (q := 160) dX12_open_159 rfl rfl ?_
    refine q_gi (K := 41) (q := 163) dX12_open_160 rfl cl_12 (by decide) tw_1123 rfl rfl ?_
    refine x_icmp_ge (t := 220) (q := 166) dX12_open_163 (by decide) rfl (fun c163 => absurd c163 (by rw [em]; exact nI_ge (by omega) (by omega))) (fun c163 => ?_)
    refine x_aload_n (q := 167) dX12_open_166 rfl rfl ?_
    refine q_gr (K := 27) (b := 119) (q := 170) dX12_open_167 rfl cl_12 (by decide) tw_1109 rfl rfl rfl ?_
    refine x_bipush (8) (q := 172) dX12_open_170 rfl (by decide) ?_
    refine x_iload (q := 174) dX12_open_172 rfl rfl ?_
    refine x_imul (q := 175) dX12_open_174 rfl ?_
    refine x_iload (q := 177) dX12_open_175 rfl rfl ?_
    refine x_iadd (q := 178) dX12_open_177 rfl ?_
    refine q_iald (q := 179) dX12_open_178 rfl rfl (by rw [ead]; exact vp_in_nI (by omega) (by decide)) ?_
    refine x_nmi (fun v1 ev1 => ?_)
    refine x_istore (L2 := [some (.ref 100), some (.int (nI fr)), some (.int (nI to)), some (.int (nI sp)), some (.int (nI m)), some (.int (nI a)), some (.int (nI c)), some (.int v1)]) (q := 181) dX12_open_179 rfl (by decide) rfl rfl ?_
    rw [ead, nI_clamp (by omega), e119] at ev1
    rcases ed_or (a := a) (c := c) h.2.1 h8 h.2.2.2.1 (by omega) (by omega) with q0 | ⟨k, hk⟩
    · rw [q0] at ev1
      subst ev1
      refine x_iload (q := 183) dX12_open_181 rfl rfl ?_
      refine x_if_le (t := 214) (q := 186) dX12_open_183 (by decide) rfl (fun c183 => ?_) (fun c183 => absurd c183 (fun q => q (by decide)))
      obtain ⟨v21, ev21⟩ : ∃ y_ : Int32, y_ = (nI c) + 1 := ⟨_, rfl⟩
      refine x_iinc (v := v21) (L2 := [some (.ref 100), some (.int (nI fr)), some (.int (nI to)), some (.int (nI sp)), some (.int (nI m)), some (.int (nI a)), some (.int v21), some (.int (0 : Int32))]) (q := 217) dX12_open_214 rfl (by decide) rfl rfl (by rw [ev21]; rfl) rfl ?_
      refine x_goto (t := 157) dX12_open_217 (by decide) ?_
      rw [show v21 = nI (c + 1) by rw [ev21, nI_p1]]
      refine ih (c + 1) X _ (by omega) ⟨hX.1, hX.2.1, th_q hX.2.2 (Nat.le_refl _) (fun m1 y1 _ _ g2 => ?_)⟩
      refine ⟨fun z => z.imp id (fun ⟨k, q1, q2, q3⟩ => ⟨k, ?_, q2, q3⟩), fun z => z.imp id (fun ⟨k, q1, q2, q3⟩ => ⟨k, by omega, q2, q3⟩)⟩
      by_cases e : y1 = c
      · rw [e] at q2
        have := q2.2.2.2.2
        rw [q0] at this
        exact absurd this.symm (nI_ne0 (by have := q2.2.2.1; omega) (by have := q2.2.2.2.1; omega))
      · omega
    · have hk1 := hk.2.2.1
      have hk2 := hk.2.2.2.1
      rw [hk.2.2.2.2] at ev1
      subst ev1
      refine x_iload (q := 183) dX12_open_181 rfl rfl ?_
      refine x_if_le (t := 214) (q := 186) dX12_open_183 (by decide) rfl (fun c183 => absurd c183 (nI_nle (by omega) (by omega))) (fun c183 => ?_)
      refine x_iload (q := 188) dX12_open_186 rfl rfl ?_
      refine x_iload (q := 190) dX12_open_188 rfl rfl ?_
      refine x_iadd (q := 191) dX12_open_190 rfl ?_
      refine x_sipush (720) (q := 194) dX12_open_191 rfl (by decide) ?_
      refine x_icmp_gt (t := 214) (q := 197) dX12_open_194 (by decide) rfl (fun c194 => ?_) (fun c194 => ?_)
      · obtain ⟨v41, ev41⟩ : ∃ y_ : Int32, y_ = (nI c) + 1 := ⟨_, rfl⟩
        refine x_iinc (v := v41) (L2 := [some (.ref 100), some (.int (nI fr)), some (.int (nI to)), some (.int (nI sp)), some (.int (nI m)), some (.int (nI a)), some (.int v41), some (.int (nI k))]) (q := 217) dX12_open_214 rfl (by decide) rfl rfl (by rw [ev41]; rfl) rfl ?_
        refine x_goto (t := 157) dX12_open_217 (by decide) ?_
        rw [nI_add, gt720 (n := m + k) (by omega)] at c194
        rw [show v41 = nI (c + 1) by rw [ev41, nI_p1]]
        refine ih (c + 1) X _ (by omega) ⟨hX.1, hX.2.1, th_q hX.2.2 (Nat.le_refl _) (fun m1 y1 _ _ g2 => ?_)⟩
        refine ⟨fun z => z.imp id (fun ⟨k1, q1, q2, q3⟩ => ⟨k1, ?_, q2, q3⟩), fun z => z.imp id (fun ⟨k1, q1, q2, q3⟩ => ⟨k1, by omega, q2, q3⟩)⟩
        by_cases e : y1 = c
        · rw [e] at q2
          have := ed_u hk q2
          omega
        · omega
      · refine x_aload_n (q := 198) dX12_open_197 rfl rfl ?_
        refine q_gr (K := 63) (b := 132) (q := 201) dX12_open_198 rfl cl_12 (by decide) tw_1145 rfl rfl rfl ?_
        refine x_iload (q := 203) dX12_open_201 rfl rfl ?_
        refine x_iload (q := 205) dX12_open_203 rfl rfl ?_
        refine x_iadd (q := 206) dX12_open_205 rfl ?_
        refine x_dup2 (q := 207) dX12_open_206 rfl rfl rfl ?_
        refine q_iald (q := 208) dX12_open_207 rfl rfl (by rw [nI_add]; rw [nI_add, gt720 (n := m + k) (by omega)] at c194; exact vp_in_nI (by omega) (by decide)) ?_
        refine x_iconst (1) (q := 209) dX12_open_208 rfl (by decide) ?_
        refine x_iload (q := 211) dX12_open_209 rfl rfl ?_
        refine x_ishl (q := 212) dX12_open_211 rfl ?_
        refine x_ior (q := 213) dX12_open_212 rfl ?_
        refine q_iast (q := 214) dX12_open_213 rfl rfl (by rw [nI_add]; rw [nI_add, gt720 (n := m + k) (by omega)] at c194; exact vp_in_nI (by omega) (by decide)) (fun I42 eI42 => ?_)
        obtain ⟨v43, ev43⟩ : ∃ y_ : Int32, y_ = (nI c) + 1 := ⟨_, rfl⟩
        refine x_iinc (v := v43) (L2 := [some (.ref 100), some (.int (nI fr)), some (.int (nI to)), some (.int (nI sp)), some (.int (nI m)), some (.int (nI a)), some (.int v43), some (.int (nI k))]) (q := 217) dX12_open_214 rfl (by decide) rfl rfl (by rw [ev43]; rfl) rfl ?_
        refine x_goto (t := 157) dX12_open_217 (by decide) ?_
        rw [nI_add, gt720 (n := m + k) (by omega)] at c194
        rw [show v43 = nI (c + 1) by rw [ev43, nI_p1]]
        rw [nI_add, nI_clamp (by omega)] at eI42
        refine ih (c + 1) _ _ (by omega) ⟨?_, fun s hs => ?_, ?_⟩
        · rw [eI42]; exact hX.1.tr (Kp_up (by unfold scr; omega))
        · rw [eI42, upc (by decide)]; exact hX.2.1 s hs
        · rw [eI42]
          refine th_add hX.2.2 (by omega) (by omega) (by omega) (fun m1 y1 _ _ g2 => ?_)
          constructor
          · rintro (z | ⟨k1, q1, q2, q3⟩)
            · exact Or.inl (Or.inl z)
            · by_cases e : y1 = c
              · refine Or.inr ⟨?_, e⟩
                rw [e] at q2
                rw [ed_u hk q2]; exact q3
              · exact Or.inl (Or.inr ⟨k1, by omega, q2, q3⟩)
          · rintro ((z | ⟨k1, q1, q2, q3⟩) | ⟨q1, q2⟩)
            · exact Or.inl z
            · exact Or.inr ⟨k1, by omega, q2, q3⟩
            · exact Or.inr ⟨k, by omega, by rw [q2]; exact hk, q1⟩
set_option maxRecDepth 100000 in
theorem l_mo1 {I : MI} {b yn wn hn sn st : Nat} (r : MR) (J : MJ) (h : RelL I b yn wn hn sn st) {B : Nat → Nat} (hB : ∀ s, B s < 256) {sp fr to : Nat} (hsp : sp ≤ 71) {m : Nat} (hm : m ≤ 720) (post : Option Value → MI → MR → MJ → Prop) (kx : ∀ (X : MI) (x5 x6 x7 : Option Value), MV I B (Sr I B sp fr (m + 1)) (m + 1) X → Wq MX12_open 226 [some (.ref 100), some (.int (nI fr)), some (.int (nI to)), some (.int (nI sp)), some (.int (nI m)), x5, x6, x7] [] X r J post) : ∀ (f : Nat) (a : Nat) (X : MI) (x6 x7 : Option Value) (_ : a + f = yn) (_ : MV I B (Vr I B sp fr m a) m X), Wq MX12_open 127 [some (.ref 100), some (.int (nI fr)), some (.int (nI to)), some (.int (nI sp)), some (.int (nI m)), some (.int (nI a)), x6, x7] [] X r J (post) := by
  have h8 : yn ≤ 8 := h.1.2.2.1
  intro f
  induction f with
  | zero =>
    intro a X x6 x7 hak hX
    have em : X 100 41 = nI yn := by rw [hX.1 100 41 (by unfold scr; omega)]; exact h.2.2.1.1
    have hcm : (nI m).toNatClampNeg = m := nI_clamp (by omega)
    refine x_iload (q := 129) dX12_open_127 rfl rfl ?_
    refine x_aload_n (q := 130) dX12_open_129 rfl rfl ?_
    refine q_gi (K := 41) (q := 133) dX12_open_130 rfl cl_12 (by decide) tw_1123 rfl rfl ?_
    refine x_icmp_ge (t := 226) (q := 136) dX12_open_133 (by decide) rfl (fun c133 => ?_) (fun c133 => absurd c133 (fun q => q (by rw [em]; exact nI_le (by omega) (by omega))))
    rw [show a = yn by omega] at hX
    refine kx X _ _ _ ⟨hX.1, hX.2.1, th_q hX.2.2 (by omega) (fun m1 y1 g0 _ _ => ?_)⟩
    show (Sr I B sp fr m m1 y1 ∨ ∃ a k, ed I a y1 k ∧ m1 = m + k ∧ Sr I B sp fr m m a ∧ ¬ blk B sp m a) ↔ _
    constructor
    · rintro (z | ⟨a0, k, q1, q2, q3⟩)
      · exact Or.inl ⟨z, fun w => absurd w (by omega)⟩
      · obtain ⟨-, -, -, -, w, -⟩ := ed_wy h.2.1 h8 h.2.2.2.1 q1
        exact Or.inr ⟨a0, k, w, q1, q2, q3⟩
    · rintro (z | ⟨a0, k, q0, q1, q2, q3⟩)
      · exact Or.inl z.1
      · exact Or.inr ⟨a0, k, q1, q2, q3⟩
  | succ f ih =>
    intro a X x6 x7 hak hX
    have em : X 100 41 = nI yn := by rw [hX.1 100 41 (by unfold scr; omega)]; exact h.2.2.1.1
    have hcm : (nI m).toNatClampNeg = m := nI_clamp (by omega)
    refine x_iload (q := 129) dX12_open_127 rfl rfl ?_
    refine x_aload_n (q := 130) dX12_open_129 rfl rfl ?_
    refine q_gi (K := 41) (q := 133) dX12_open_130 rfl cl_12 (by decide) tw_1123 rfl rfl ?_
    refine x_icmp_ge (t := 226) (q := 136) dX12_open_133 (by decide) rfl (fun c133 => absurd c133 (by rw [em]; exact nI_ge (by omega) (by omega))) (fun c133 => ?_)
    refine x_aload_n (q := 137) dX12_open_136 rfl rfl ?_
    refine q_gr (K := 63) (b := 132) (q := 140) dX12_open_137 rfl cl_12 (by decide) tw_1145 rfl rfl rfl ?_
    refine x_iload (q := 142) dX12_open_140 rfl rfl ?_
    refine q_iald (q := 143) dX12_open_142 rfl rfl (vp_in_nI (by omega) (by decide)) ?_
    refine x_iload (q := 145) dX12_open_143 rfl rfl ?_
    refine x_ishr (q := 146) dX12_open_145 rfl ?_
    refine x_iconst (1) (q := 147) dX12_open_146 rfl (by decide) ?_
    refine x_iand (q := 148) dX12_open_147 rfl ?_
    refine x_if_ne (t := 154) (q := 151) dX12_open_148 (by decide) rfl (fun c148 => ?_) (fun c148 => ?_)
    · refine x_iconst (0) (q := 155) dX12_open_154 rfl (by decide) ?_
      refine x_istore (L2 := [some (.ref 100), some (.int (nI fr)), some (.int (nI to)), some (.int (nI sp)), some (.int (nI m)), some (.int (nI a)), some (.int 0), x7]) (q := 157) dX12_open_155 rfl (by decide) rfl rfl ?_
      have hra : Rr I B sp fr m a := by
        rw [hcm, bt_0 hX.2.2 (Nat.le_refl _) hm (by omega), Classical.not_not] at c148
        exact Vr_m.mp c148
      refine l_mo2 r J h hB hsp hm (by omega) hra _ (fun Y y6 y7 hY => ?_) yn 0 X _ (by omega) ⟨hX.1, hX.2.1, th_q hX.2.2 (Nat.le_refl _) (fun m1 y1 _ _ g2 => ⟨fun z => z.elim id (fun ⟨k, q0, _⟩ => absurd q0 (by omega)), Or.inl⟩)⟩
      obtain ⟨v31, ev31⟩ : ∃ y_ : Int32, y_ = (nI a) + 1 := ⟨_, rfl⟩
      refine x_iinc (v := v31) (L2 := [some (.ref 100), some (.int (nI fr)), some (.int (nI to)), some (.int (nI sp)), some (.int (nI m)), some (.int v31), y6, y7]) (q := 223) dX12_open_220 rfl (by decide) rfl rfl (by rw [ev31]; rfl) rfl ?_
      refine x_goto (t := 127) dX12_open_223 (by decide) ?_
      rw [show v31 = nI (a + 1) by rw [ev31, nI_p1]]
      refine ih (a + 1) Y y6 y7 (by omega) ⟨hY.1, hY.2.1, th_q hY.2.2 (Nat.le_refl _) (fun m1 y1 _ _ g2 => ?_)⟩
      constructor
      · rintro (z | ⟨a0, k, q0, q1, q2, q3⟩)
        · exact Or.inl (Or.inl z)
        · by_cases e : a0 = a
          · rw [e] at q1
            obtain ⟨-, -, -, -, -, w⟩ := ed_wy h.2.1 h8 h.2.2.2.1 q1
            exact Or.inr ⟨k, w, q1, q2⟩
          · exact Or.inl (Or.inr ⟨a0, k, by omega, q1, q2, q3⟩)
      · rintro ((z | ⟨a0, k, q0, q1, q2, q3⟩) | ⟨k, q0, q1, q2⟩)
        · exact Or.inl z
        · exact Or.inr ⟨a0, k, by omega, q1, q2, q3⟩
        · exact Or.inr ⟨a, k, by omega, q1, q2, hra⟩
    · refine x_goto (t := 220) dX12_open_151 (by decide) ?_
      obtain ⟨v1, ev1⟩ : ∃ y_ : Int32, y_ = (nI a) + 1 := ⟨_, rfl⟩
      refine x_iinc (v := v1) (L2 := [some (.ref 100), some (.int (nI fr)), some (.int (nI to)), some (.int (nI sp)), some (.int (nI m)), some (.int v1), x6, x7]) (q := 223) dX12_open_220 rfl (by decide) rfl rfl (by rw [ev1]; rfl) rfl ?_
      refine x_goto (t := 127) dX12_open_223 (by decide) ?_
      rw [show v1 = nI (a + 1) by rw [ev1, nI_p1]]
      rw [hcm, bt_0 hX.2.2 (Nat.le_refl _) hm (by omega)] at c148
      refine ih (a + 1) X _ _ (by omega) ⟨hX.1, hX.2.1, th_q hX.2.2 (Nat.le_refl _) (fun m1 y1 _ _ g2 => ?_)⟩
      constructor
      · rintro (z | ⟨a0, k, q0, q1, q2, q3⟩)
        · exact Or.inl z
        · by_cases e : a0 = a
          · rw [e] at q3
            exact absurd (Vr_m.mpr q3) c148
          · exact Or.inr ⟨a0, k, by omega, q1, q2, q3⟩
      · rintro (z | ⟨a0, k, q0, q1, q2, q3⟩)
        · exact Or.inl z
        · exact Or.inr ⟨a0, k, by omega, q1, q2, q3⟩
theorem a_lt {m f : Nat} (h : m + (f + 1) = 721) : m < 2 ^ 31 := by omega
set_option maxRecDepth 100000 in
theorem l_mo {I : MI} {b yn wn hn sn st : Nat} (r : MR) (J : MJ) (h : RelL I b yn wn hn sn st) {B : Nat → Nat} (hB : ∀ s, B s < 256) {sp fr to : Nat} (hsp : sp ≤ 71) (hto : to < 8) {v : Int32} (hv : spec I B sp fr to v) : ∀ (f : Nat) (m : Nat) (X : MI) (x5 x6 x7 : Option Value) (_ : m + f = 721) (_ : ∀ m1, m1 < m → ¬ Rr I B sp fr m1 to) (_ : MV I B (Sr I B sp fr m) m X), Wq MX12_open 69 [some (.ref 100), some (.int (nI fr)), some (.int (nI to)), some (.int (nI sp)), some (.int (nI m)), x5, x6, x7] [] X r J (Rk v I r J) := by
  have h8 : yn ≤ 8 := h.1.2.2.1
  intro f
  induction f with
  | zero =>
    intro m X x5 x6 x7 hmk hno hX
    refine x_iload (q := 71) dX12_open_69 rfl rfl ?_
    refine x_sipush (720) (q := 74) dX12_open_71 rfl (by decide) ?_
    refine x_icmp_gt (t := 232) (q := 77) dX12_open_74 (by decide) rfl (fun c74 => ?_) (fun c74 => absurd c74 (fun q => q ((nI_ltI (a := 720) (by omega) (by omega)).mpr (by omega))))
    refine x_iconst (-1) (q := 233) dX12_open_232 rfl (by decide) ?_
    refine q_iret dX12_open_233 rfl ?_
    rw [hv.2 (fun m1 g1 => hno m1 (by omega))]
    exact ⟨rfl, hX.1, rfl, rfl⟩
  | succ f ih =>
    intro m X x5 x6 x7 hmk hno hX
    refine x_iload (q := 71) dX12_open_69 rfl rfl ?_
    refine x_sipush (720) (q := 74) dX12_open_71 rfl (by decide) ?_
    refine x_icmp_gt (t := 232) (q := 77) dX12_open_74 (by decide) rfl (fun c74 => absurd c74 (fun q => absurd ((nI_ltI (a := 720) (by omega) (by omega)).mp q) (by omega))) (fun c74 => ?_)
    refine x_aload_n (q := 78) dX12_open_77 rfl rfl ?_
    refine q_gr (K := 63) (b := 132) (q := 81) dX12_open_78 rfl cl_12 (by decide) tw_1145 rfl rfl rfl ?_
    refine x_iload (q := 83) dX12_open_81 rfl rfl ?_
    refine x_dup2 (q := 84) dX12_open_83 rfl rfl rfl ?_
    refine q_iald (q := 85) dX12_open_84 rfl rfl (vp_in_nI (by omega) (by decide)) ?_
    refine x_aload_n (q := 86) dX12_open_85 rfl rfl ?_
    refine q_gr (K := 64) (b := 133) (q := 89) dX12_open_86 rfl cl_12 (by decide) tw_1146 rfl rfl rfl ?_
    refine x_iload_n (q := 90) dX12_open_89 rfl rfl ?_
    refine x_iload (q := 92) dX12_open_90 rfl rfl ?_
    refine x_bipush (10) (q := 94) dX12_open_92 rfl (by decide) ?_
    refine x_idiv (q := 95) dX12_open_94 rfl (by decide) ?_
    refine x_iadd (q := 96) dX12_open_95 rfl ?_
    refine x_bipush (72) (q := 98) dX12_open_96 rfl (by decide) ?_
    refine q_callS (As := [.int ((nI sp) + ((nI m) / 10)), .int 72]) (rest := [.ref 133, .int (X 132 (nI m).toNatClampNeg), .int (nI m), .ref 132]) (q := 101) dX12_open_98 rfl okX12_lesser tw_1461 (c_lesser _ _ X r J) rfl rfl (Nat.le_of_ble_eq_true rfl) ⟨by decide, by decide⟩ ⟨rfl, rfl⟩ (fun rv_ I_ r_ J_ hv_ => ?_)
    obtain ⟨a1_, a2_, a3_, a4_⟩ := hv_
    rw [a1_, a2_, a3_, a4_]
    show Wq MX12_open 101 [some (.ref 100), some (.int (nI fr)), some (.int (nI to)), some (.int (nI sp)), some (.int (nI m)), x5, x6, x7] [.int (lesF ((nI sp) + ((nI m) / 10)) 72), .ref 133, .int (X 132 (nI m).toNatClampNeg), .int (nI m), .ref 132] X r J _
    refine q_iald (q := 102) dX12_open_101 rfl rfl (by rw [mn_v hsp (by omega)]; exact vp_in_nI (by omega) (by decide)) ?_
    refine x_iconst (-1) (q := 103) dX12_open_102 rfl (by decide) ?_
    refine x_ixor (q := 104) dX12_open_103 rfl ?_
    refine x_iand (q := 105) dX12_open_104 rfl ?_
    refine q_iast (q := 106) dX12_open_105 rfl rfl (vp_in_nI (by omega) (by decide)) (fun I1 eI1 => ?_)
    rw [nI_clamp (a_lt hmk), mn_v hsp (by omega), nI_clamp (by omega), hX.2.1 _ (by omega)] at eI1
    have hZ : MV I B (Fr I B sp fr m) m I1 := by
      refine ⟨?_, fun s hs => ?_, ?_⟩
      · rw [eI1]; exact hX.1.tr (Kp_up (by unfold scr; omega))
      · rw [eI1, upc (by decide)]; exact hX.2.1 s hs
      · rw [eI1]; exact th_f hB (by omega) hX.2.2
    have hcm : (nI m).toNatClampNeg = m := nI_clamp (by omega)
    refine x_aload_n (q := 107) dX12_open_106 rfl rfl ?_
    refine q_gr (K := 63) (b := 132) (q := 110) dX12_open_107 rfl cl_12 (by decide) tw_1145 rfl rfl rfl ?_
    refine x_iload (q := 112) dX12_open_110 rfl rfl ?_
    refine q_iald (q := 113) dX12_open_112 rfl rfl (vp_in_nI (by omega) (by decide)) ?_
    refine x_iload_n (q := 114) dX12_open_113 rfl rfl ?_
    refine x_ishr (q := 115) dX12_open_114 rfl ?_
    refine x_iconst (1) (q := 116) dX12_open_115 rfl (by decide) ?_
    refine x_iand (q := 117) dX12_open_116 rfl ?_
    refine x_iconst (1) (q := 118) dX12_open_117 rfl (by decide) ?_
    refine x_icmp_ne (t := 124) (q := 121) dX12_open_118 (by decide) rfl (fun c118 => ?_) (fun c118 => ?_)
    · refine x_iconst (0) (q := 125) dX12_open_124 rfl (by decide) ?_
      refine x_istore (L2 := [some (.ref 100), some (.int (nI fr)), some (.int (nI to)), some (.int (nI sp)), some (.int (nI m)), some (.int 0), x6, x7]) (q := 127) dX12_open_125 rfl (by decide) rfl rfl ?_
      have nr : ¬ Rr I B sp fr m to := fun q => by
        rw [hcm, bt_1 hZ.2.2 (Nat.le_refl _) (by omega) hto] at c118
        exact c118 (Fr_m.mpr q)
      refine l_mo1 r J h hB hsp (m := m) (by omega) _ (fun Y y5 y6 y7 hY => ?_) yn 0 _ _ _ (by omega) ⟨hZ.1, hZ.2.1, th_q hZ.2.2 (Nat.le_refl _) (fun m1 y1 _ _ g2 => ⟨fun z => z.elim id (fun ⟨a0, k, q0, _⟩ => absurd q0 (by omega)), Or.inl⟩)⟩
      obtain ⟨v51, ev51⟩ : ∃ y_ : Int32, y_ = (nI m) + 1 := ⟨_, rfl⟩
      refine x_iinc (v := v51) (L2 := [some (.ref 100), some (.int (nI fr)), some (.int (nI to)), some (.int (nI sp)), some (.int v51), y5, y6, y7]) (q := 229) dX12_open_226 rfl (by decide) rfl rfl (by rw [ev51]; rfl) rfl ?_
      refine x_goto (t := 69) dX12_open_229 (by decide) ?_
      rw [show v51 = nI (m + 1) by rw [ev51, nI_p1]]
      exact ih (m + 1) Y y5 y6 y7 (by omega) (fun m1 g1 => if e : m1 = m then by rw [e]; exact nr else hno m1 (by omega)) hY
    · refine x_iload (q := 123) dX12_open_121 rfl rfl ?_
      refine q_iret dX12_open_123 rfl ?_
      rw [hcm, bt_1 hZ.2.2 (Nat.le_refl _) (by omega) hto] at c118
      rw [hv.1 m (by omega) (Fr_m.mp c118) hno]
      exact ⟨rfl, hZ.1, rfl, rfl⟩
theorem MV_0 {I X : MI} {B : Nat → Nat} {sp fr : Nat} (hfr : fr < 8) (hk : Kp I X) (hb : ∀ s, s < 73 → X 133 s = nI (B s)) : MV I B (Sr I B sp fr 0) 0 (upI (flI X 132 721 0) 132 0 ((1 : Int32) <<< (nI fr &&& 31))) := by
  refine ⟨fun c j sc => ?_, fun s hs => ?_, fun m _ hm => ?_⟩
  · have e : ¬ c = 132 := fun e => sc (by unfold scr; omega)
    rw [upc e, flI_o e]; exact hk c j sc
  · rw [upc (by decide), flI_o (by decide)]; exact hb s hs
  · have hp : 2 ^ fr < 2 ^ 8 := Nat.pow_lt_pow_right (by decide) hfr
    by_cases e : m = 0
    · subst e
      refine ⟨2 ^ fr, hp, by rw [upq, sh1 (by omega)], fun y hy => ?_⟩
      rw [Nat.testBit_two_pow, decide_eq_true_eq]
      exact ⟨fun z => ⟨rfl, z.symm⟩, fun z => z.2.symm⟩
    · refine ⟨0, by decide, by rw [ups e, flI_i (by omega)]; rfl, fun y hy => ?_⟩
      rw [Nat.zero_testBit]
      exact ⟨fun z => absurd z (by decide), fun z => absurd z.1 e⟩
set_option maxRecDepth 100000 in
theorem l_mo0 {I : MI} {b yn wn hn sn st : Nat} (r : MR) (J : MJ) (h : RelL I b yn wn hn sn st) {B : Nat → Nat} (hB : ∀ s, B s < 256) {sp fr to : Nat} (hsp : sp ≤ 71) (hto : to < 8) {v : Int32} (hv : spec I B sp fr to v) (hfr : fr < 8) {X : MI} (hk : Kp I X) (hb : ∀ s, s < 73 → X 133 s = nI (B s)) : ∀ (f : Nat) (i : Nat) (x5 x6 x7 : Option Value) (_ : i + f = 721), Wq MX12_open 35 [some (.ref 100), some (.int (nI fr)), some (.int (nI to)), some (.int (nI sp)), some (.int (nI i)), x5, x6, x7] [] (flI X 132 i 0) r J (Rk v I r J) := by
  have h8 : yn ≤ 8 := h.1.2.2.1
  intro f
  induction f with
  | zero =>
    intro i x5 x6 x7 hik
    refine x_iload (q := 37) dX12_open_35 rfl rfl ?_
    refine x_sipush (720) (q := 40) dX12_open_37 rfl (by decide) ?_
    refine x_icmp_gt (t := 57) (q := 43) dX12_open_40 (by decide) rfl (fun c40 => ?_) (fun c40 => absurd c40 (fun q => q ((nI_ltI (a := 720) (by omega) (by omega)).mpr (by omega))))
    refine x_aload_n (q := 58) dX12_open_57 rfl rfl ?_
    refine q_gr (K := 63) (b := 132) (q := 61) dX12_open_58 rfl cl_12 (by decide) tw_1145 rfl rfl rfl ?_
    refine x_iconst (0) (q := 62) dX12_open_61 rfl (by decide) ?_
    refine x_iconst (1) (q := 63) dX12_open_62 rfl (by decide) ?_
    refine x_iload_n (q := 64) dX12_open_63 rfl rfl ?_
    refine x_ishl (q := 65) dX12_open_64 rfl ?_
    refine q_iast (q := 66) dX12_open_65 rfl rfl (vin (by decide)) (fun I1 eI1 => ?_)
    refine x_iconst (0) (q := 67) dX12_open_66 rfl (by decide) ?_
    refine x_istore (L2 := [some (.ref 100), some (.int (nI fr)), some (.int (nI to)), some (.int (nI sp)), some (.int 0), x5, x6, x7]) (q := 69) dX12_open_67 rfl (by decide) rfl rfl ?_
    rw [show (0 : Int32).toNatClampNeg = 0 from rfl, show i = 721 by omega] at eI1
    have q := MV_0 (B := B) (sp := sp) hfr hk hb
    rw [← eI1] at q
    exact l_mo r J h hB hsp hto hv 721 0 _ _ _ _ rfl (fun m1 g1 => absurd g1 (by omega)) q
  | succ f ih =>
    intro i x5 x6 x7 hik
    refine x_iload (q := 37) dX12_open_35 rfl rfl ?_
    refine x_sipush (720) (q := 40) dX12_open_37 rfl (by decide) ?_
    refine x_icmp_gt (t := 57) (q := 43) dX12_open_40 (by decide) rfl (fun c40 => absurd c40 (fun q => absurd ((nI_ltI (a := 720) (by omega) (by omega)).mp q) (by omega))) (fun c40 => ?_)
    refine x_aload_n (q := 44) dX12_open_43 rfl rfl ?_
    refine q_gr (K := 63) (b := 132) (q := 47) dX12_open_44 rfl cl_12 (by decide) tw_1145 rfl rfl rfl ?_
    refine x_iload (q := 49) dX12_open_47 rfl rfl ?_
    refine x_iconst (0) (q := 50) dX12_open_49 rfl (by decide) ?_
    refine q_iast (q := 51) dX12_open_50 rfl rfl (vp_in_nI (by omega) (by decide)) (fun I1 eI1 => ?_)
    obtain ⟨v2, ev2⟩ : ∃ y_ : Int32, y_ = (nI i) + 1 := ⟨_, rfl⟩
    refine x_iinc (v := v2) (L2 := [some (.ref 100), some (.int (nI fr)), some (.int (nI to)), some (.int (nI sp)), some (.int v2), x5, x6, x7]) (q := 54) dX12_open_51 rfl (by decide) rfl rfl (by rw [ev2]; rfl) rfl ?_
    refine x_goto (t := 35) dX12_open_54 (by decide) ?_
    rw [nI_clamp (by omega), flI_s] at eI1
    rw [eI1, show v2 = nI (i + 1) by rw [ev2, nI_p1]]
    exact ih (i + 1) _ _ _ (by omega)
theorem bkN_lt {I : MI} {b hn st n : Nat} (hn8 : n ≤ 8) (s : Nat) : bkN I b hn st n s < 256 := by
  have := bitsN_lt (fun y => blB I b hn st y s) n
  have h2 : 2 ^ n ≤ 2 ^ 8 := Nat.pow_le_pow_right (by decide) hn8
  unfold bkN
  omega
set_option maxRecDepth 100000 in
theorem c_Mopn_g {I : MI} {b yn wn hn sn st : Nat} (hb : b ≤ 28) (r : MR) (J : MJ) (h : RelL I b yn wn hn sn st) {fr to sp : Nat} (hfr : fr < yn) (hto : to < yn) (hsp : sp ≤ 71) {v : Int32} (hv : spec I (bkN I b hn st yn) sp fr to v) : Cq yX12_open MX12_open [.ref 100, .int (nI fr), .int (nI to), .int (nI sp)] I r J (Rk v I r J) := by
  have h8 : yn ≤ 8 := h.1.2.2.1
  have em : I 100 41 = nI yn := h.2.2.1.1
  refine cq_of [some (.ref 100), some (.int (nI fr)), some (.int (nI to)), some (.int (nI sp)), none, none, none, none] 4 (by decide +kernel) rfl rfl (Nat.le_of_ble_eq_true rfl) rfl ?_
  refine x_aload_n (q := 1) dX12_open_0 rfl rfl ?_
  refine x_iload_n (q := 2) dX12_open_1 rfl rfl ?_
  refine q_callV (ci := 12) (N := 79) (T := TX12) (As := [.int (nI fr)]) (rest := []) (q := 5) dX12_open_2 rfl okX12_isYard tw_1485 rfl rfl (c_mYard_g I r J em h8 hfr) rfl rfl (Nat.le_of_ble_eq_true rfl) ⟨by decide, by decide⟩ ⟨rfl, rfl⟩ (fun rv_ I_ r_ J_ hv_ => ?_)
  obtain ⟨a1_, a2_, a3_, a4_⟩ := hv_
  rw [a1_, a2_, a3_, a4_]
  show Wq MX12_open 5 [some (.ref 100), some (.int (nI fr)), some (.int (nI to)), some (.int (nI sp)), none, none, none, none] [.int 1] I r J _
  refine x_if_eq (t := 26) (q := 8) dX12_open_5 (by decide) rfl (fun c5 => absurd c5 ((by decide))) (fun c5 => ?_)
  refine x_aload_n (q := 9) dX12_open_8 rfl rfl ?_
  refine x_iload_n (q := 10) dX12_open_9 rfl rfl ?_
  refine q_callV (ci := 12) (N := 79) (T := TX12) (As := [.int (nI to)]) (rest := []) (q := 13) dX12_open_10 rfl okX12_isYard tw_1485 rfl rfl (c_mYard_g I r J em h8 hto) rfl rfl (Nat.le_of_ble_eq_true rfl) ⟨by decide, by decide⟩ ⟨rfl, rfl⟩ (fun rv_ I_ r_ J_ hv_ => ?_)
  obtain ⟨a1_, a2_, a3_, a4_⟩ := hv_
  rw [a1_, a2_, a3_, a4_]
  show Wq MX12_open 13 [some (.ref 100), some (.int (nI fr)), some (.int (nI to)), some (.int (nI sp)), none, none, none, none] [.int 1] I r J _
  refine x_if_eq (t := 26) (q := 16) dX12_open_13 (by decide) rfl (fun c13 => absurd c13 ((by decide))) (fun c13 => ?_)
  refine x_iload_n (q := 17) dX12_open_16 rfl rfl ?_
  refine x_iconst (0) (q := 18) dX12_open_17 rfl (by decide) ?_
  refine x_bipush (71) (q := 20) dX12_open_18 rfl (by decide) ?_
  refine q_callS (As := [.int (nI sp), .int 0, .int 71]) (rest := []) (q := 23) dX12_open_20 rfl okX12_isIn tw_1450 (c_isIn_g I r J (nI_pos' (by omega)) (nI_le (b := 71) (by omega) (by decide))) rfl rfl (Nat.le_of_ble_eq_true rfl) ⟨by decide, by decide⟩ ⟨rfl, rfl⟩ (fun rv_ I_ r_ J_ hv_ => ?_)
  obtain ⟨a1_, a2_, a3_, a4_⟩ := hv_
  rw [a1_, a2_, a3_, a4_]
  show Wq MX12_open 23 [some (.ref 100), some (.int (nI fr)), some (.int (nI to)), some (.int (nI sp)), none, none, none, none] [.int 1] I r J _
  refine x_if_ne (t := 28) (q := 26) dX12_open_23 (by decide) rfl (fun c23 => ?_) (fun c23 => absurd c23 ((by decide)))
  refine x_aload_n (q := 29) dX12_open_28 rfl rfl ?_
  refine q_callV (ci := 12) (N := 79) (T := TX12) (As := []) (rest := []) (q := 32) dX12_open_29 rfl okX12_layBlocked tw_1608 rfl rfl (c_lyb hb r J h) rfl rfl (Nat.le_of_ble_eq_true rfl) ⟨by decide, by decide⟩ ⟨rfl, rfl⟩ (fun rv_ X r_ J_ hv_ => ?_)
  obtain ⟨a1_, hX, a3_, a4_⟩ := hv_
  rw [a1_, a3_, a4_]
  show Wq MX12_open 32 [some (.ref 100), some (.int (nI fr)), some (.int (nI to)), some (.int (nI sp)), none, none, none, none] [] X r J _
  refine x_iconst (0) (q := 33) dX12_open_32 rfl (by decide) ?_
  refine x_istore (L2 := [some (.ref 100), some (.int (nI fr)), some (.int (nI to)), some (.int (nI sp)), some (.int 0), none, none, none]) (q := 35) dX12_open_33 rfl (by decide) rfl rfl ?_
  have q := l_mo0 r J h (bkN_lt h8) hsp (by omega) hv (by omega) hX.1 hX.2 721 0 none none none rfl
  rw [flI_0] at q
  exact q
