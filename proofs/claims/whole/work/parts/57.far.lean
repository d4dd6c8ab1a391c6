def dz (I : MI) (j : Nat) : Nat := if j / 8 = j % 8 then 0 else if I 119 j = 0 then 1000000 else (I 119 j).toNatClampNeg
def upN (D : Nat → Nat) (j v : Nat) : Nat → Nat := fun k => if k = j then v else D k
def fl1 (D : Nat → Nat) (c a : Nat) : Nat → (Nat → Nat)
  | 0 => D
  | t + 1 => upN (fl1 D c a t) (8 * a + t) (min (fl1 D c a t (8 * a + t)) (fl1 D c a t (8 * a + c) + fl1 D c a t (8 * c + t)))
def fl2 (yn : Nat) (D : Nat → Nat) (c : Nat) : Nat → (Nat → Nat)
  | 0 => D
  | a + 1 => fl1 (fl2 yn D c a) c a yn
def fl3 (yn : Nat) (D : Nat → Nat) : Nat → (Nat → Nat)
  | 0 => D
  | c + 1 => fl2 yn (fl3 yn D c) c yn
def dl (D : Nat → Nat) : Prop := ∀ j, j < 64 → D j ≤ 1000000
def dc (q : Nat) (D : Nat → Nat) (X : MI) : Prop := ∀ j, j < 64 → X q j = nI (D j)
theorem fl1_l {D : Nat → Nat} {c a : Nat} (h : dl D) : ∀ t, dl (fl1 D c a t) := by
  intro t
  induction t with
  | zero => exact h
  | succ t ih =>
    intro j hj
    show upN _ _ _ j ≤ _
    unfold upN
    by_cases e : j = 8 * a + t
    · rw [if_pos e, ← e]
      have := ih j hj
      omega
    · rw [if_neg e]; exact ih j hj
theorem fl1_th {D : Nat → Nat} {c a : Nat} : ∀ t, fl1 D c a t (8 * a + c) = D (8 * a + c) := by
  intro t
  induction t with
  | zero => rfl
  | succ t ih =>
    show upN _ _ _ _ = _
    unfold upN
    by_cases e : 8 * a + c = 8 * a + t
    · rw [if_pos e, ← e, ih]
      omega
    · rw [if_neg e, ih]
theorem fl1_far {D : Nat → Nat} {c a : Nat} (h : dl D) (ha : a < 8) (hf : 1000000 ≤ D (8 * a + c)) : ∀ t, t ≤ 8 → fl1 D c a t = D := by
  intro t
  induction t with
  | zero => intro _; rfl
  | succ t ih =>
    intro ht
    show upN _ _ _ = _
    funext j
    unfold upN
    rw [ih (by omega)]
    by_cases e : j = 8 * a + t
    · rw [if_pos e, e]
      have := h (8 * a + t) (by omega)
      omega
    · rw [if_neg e]
theorem fl2_l {yn : Nat} {D : Nat → Nat} {c : Nat} (h : dl D) : ∀ a, dl (fl2 yn D c a) := by
  intro a
  induction a with
  | zero => exact h
  | succ a ih => exact fl1_l ih yn
theorem fl3_l {yn : Nat} {D : Nat → Nat} (h : dl D) : ∀ c, dl (fl3 yn D c) := by
  intro c
  induction c with
  | zero => exact h
  | succ c ih => exact fl2_l ih yn
theorem mn_c (x y : Nat) (hx : x < 2 ^ 31) (hy : y < 2 ^ 31) : (if nI y < nI x then nI y else nI x) = nI (min x y) := by
  by_cases q : y < x
  · rw [if_pos (nI_lt q hx), show min x y = y by omega]
  · rw [if_neg (fun z => q ((nI_ltI hy hx).mp z)), show min x y = x by omega]
theorem mn_l (x y : Nat) (hx : x < 2 ^ 31) (hy : y < 2 ^ 31) : lesF (nI x) (nI y) = nI (min x y) := by
  unfold lesF
  by_cases q : x < y
  · rw [if_pos (nI_lt q hy), show min x y = x by omega]
  · rw [if_neg (fun z => q ((nI_ltI hx hy).mp z)), show min x y = y by omega]
theorem ix1 (a c : Nat) : nI a * 8 + nI c = nI (8 * a + c) := by
  rw [show (8 : Int32) = nI 8 from rfl, pk_mul, nI_add, Nat.mul_comm]
theorem ix2 (a c : Nat) : (8 : Int32) * nI a + nI c = nI (8 * a + c) := by
  rw [show (8 : Int32) = nI 8 from rfl, pk_mul, nI_add]
theorem dz_e {I : MI} {b yn wn sn a c : Nat} (h2 : LOk2 I b yn wn sn) (h8 : yn ≤ 8) (he : RLe I b yn wn sn) (ha : a < 8) (hc : c < 8) : nI (dz I (8 * a + c)) = (if a = c then 0 else if I 119 (8 * a + c) = 0 then 1000000 else I 119 (8 * a + c)) ∧ dz I (8 * a + c) ≤ 1000000 := by
  unfold dz
  rw [show (8 * a + c) / 8 = a by omega, show (8 * a + c) % 8 = c by omega]
  by_cases e : a = c
  · rw [if_pos e, if_pos e]; exact ⟨rfl, by decide⟩
  · rw [if_neg e, if_neg e]
    rcases ed_or h2 h8 he ha hc with q | ⟨k, q⟩
    · rw [if_pos q, if_pos q]; exact ⟨rfl, by decide⟩
    · have q5 := q.2.2.2.2
      have q4 := q.2.2.2.1
      have q3 := q.2.2.1
      have n0 : ¬ I 119 (8 * a + c) = 0 := by rw [q5]; exact nI_ne0 (by omega) (by omega)
      rw [if_neg n0, if_neg n0, q5, nI_clamp (by omega)]
      exact ⟨rfl, by omega⟩
theorem dz_l {I : MI} {b yn wn sn : Nat} (h2 : LOk2 I b yn wn sn) (h8 : yn ≤ 8) (he : RLe I b yn wn sn) : dl (dz I) := by
  intro j hj
  have := (dz_e h2 h8 he (a := j / 8) (c := j % 8) (by omega) (by omega)).2
  rw [show 8 * (j / 8) + j % 8 = j by omega] at this
  exact this
def F1 (q : Nat) (I X : MI) : Prop := ∀ c', c' ≠ q → X c' = I c'
theorem F1.up {q K : Nat} {I X : MI} {x : Int32} (h : F1 q I X) : F1 q I (upI X q K x) := fun c' e => by rw [upc e]; exact h c' e
theorem dc_up {q j v : Nat} {D : Nat → Nat} {X : MI} (h : dc q D X) : dc q (upN D j v) (upI X q j (nI v)) := by
  intro k hk
  unfold upN
  by_cases e : k = j
  · rw [if_pos e, e, upq]
  · rw [if_neg e, ups e]; exact h k hk
set_option maxRecDepth 100000 in
theorem l_ms3 {I : MI} {b yn wn hn sn st : Nat} (r : MR) (J : MJ) (h : RelL I b yn wn hn sn st) (hb28 : b ≤ 28) {D : Nat → Nat} (hD : dl D) {c a : Nat} (hc : c < yn) (ha : a < yn) (post : Option Value → MI → MR → MJ → Prop) (kx : ∀ (X : MI) (w4 : Int32) (x5 x6 : Option Value), F1 81 I X ∧ dc 81 (fl1 D c a yn) X → Wq MX3_measure 204 [some (.ref 80), some (.ref b), some (.int (nI c)), some (.int (nI a)), some (.int w4), x5, x6] [] X r J post) : ∀ (f : Nat) (t : Nat) (X : MI) (x6 : Option Value) (_ : t + f = yn) (_ : F1 81 I X ∧ dc 81 (fl1 D c a t) X), Wq MX3_measure 141 [some (.ref 80), some (.ref b), some (.int (nI c)), some (.int (nI a)), some (.int (nI (D (8 * a + c)))), some (.int (nI t)), x6] [] X r J (post) := by
  have h8 : yn ≤ 8 := h.1.2.2.1
  have hw16 : wn ≤ 16 := h.2.1.2.1
  intro f
  induction f with
  | zero =>
    intro t X x6 htk hX
    have ey : X b 1 = nI yn := by rw [hX.1 b (by omega)]; exact h.1.2.1
    have hda := hD (8 * a + c) (by omega)
    refine x_iload (q := 143) dX3_measure_141 rfl rfl ?_
    refine x_aload_n (q := 144) dX3_measure_143 rfl rfl ?_
    refine q_gi (K := 1) (q := 147) dX3_measure_144 rfl cl_5 (by decide) tw_170 h.1.1 rfl ?_
    refine x_icmp_ge (t := 204) (q := 150) dX3_measure_147 (by decide) rfl (fun c147 => ?_) (fun c147 => absurd c147 (fun q => q (by rw [ey]; exact nI_le (by omega) (by omega))))
    rw [show t = yn by omega] at hX
    exact kx X _ _ _ hX
  | succ f ih =>
    intro t X x6 htk hX
    have ey : X b 1 = nI yn := by rw [hX.1 b (by omega)]; exact h.1.2.1
    have hda := hD (8 * a + c) (by omega)
    refine x_iload (q := 143) dX3_measure_141 rfl rfl ?_
    refine x_aload_n (q := 144) dX3_measure_143 rfl rfl ?_
    refine q_gi (K := 1) (q := 147) dX3_measure_144 rfl cl_5 (by decide) tw_170 h.1.1 rfl ?_
    refine x_icmp_ge (t := 204) (q := 150) dX3_measure_147 (by decide) rfl (fun c147 => absurd c147 (by rw [ey]; exact nI_ge (by omega) (by omega))) (fun c147 => ?_)
    refine x_iload (q := 152) dX3_measure_150 rfl rfl ?_
    refine x_ldc (v := 1000000) (q := 154) dX3_measure_152 rfl tw_934 ?_
    refine x_icmp_ge (t := 204) (q := 157) dX3_measure_154 (by decide) rfl (fun c154 => ?_) (fun c154 => ?_)
    · have hf : 1000000 ≤ D (8 * a + c) := (nI_leI (a := 1000000) (by decide) (by omega)).mp c154
      refine kx X _ _ _ ⟨hX.1, ?_⟩
      have q := hX.2
      rw [fl1_far hD (by omega) hf t (by omega)] at q
      rw [fl1_far hD (by omega) hf yn (by omega)]
      exact q
    · refine x_iload_n (q := 158) dX3_measure_157 rfl rfl ?_
      refine x_bipush (8) (q := 160) dX3_measure_158 rfl (by decide) ?_
      refine x_imul (q := 161) dX3_measure_160 rfl ?_
      refine x_iload (q := 163) dX3_measure_161 rfl rfl ?_
      refine x_iadd (q := 164) dX3_measure_163 rfl ?_
      refine x_nmi (fun v1 ev1 => ?_)
      refine x_istore (L2 := [some (.ref 80), some (.ref b), some (.int (nI c)), some (.int (nI a)), some (.int (nI (D (8 * a + c)))), some (.int (nI t)), some (.int v1)]) (q := 166) dX3_measure_164 rfl (by decide) rfl rfl ?_
      refine x_aload_n (q := 167) dX3_measure_166 rfl rfl ?_
      refine q_gr (K := 0) (b := 81) (q := 170) dX3_measure_167 rfl cl_3 (by decide) tw_486 rfl rfl rfl ?_
      refine x_iload (q := 172) dX3_measure_170 rfl rfl ?_
      refine x_aload_n (q := 173) dX3_measure_172 rfl rfl ?_
      refine q_gr (K := 0) (b := 81) (q := 176) dX3_measure_173 rfl cl_3 (by decide) tw_486 rfl rfl rfl ?_
      refine x_iload (q := 178) dX3_measure_176 rfl rfl ?_
      refine q_iald (q := 179) dX3_measure_178 rfl rfl (by rw [ev1, ix1]; exact vp_in_nI (by omega) (by decide)) ?_
      refine x_iload (q := 181) dX3_measure_179 rfl rfl ?_
      refine x_aload_n (q := 182) dX3_measure_181 rfl rfl ?_
      refine q_gr (K := 0) (b := 81) (q := 185) dX3_measure_182 rfl cl_3 (by decide) tw_486 rfl rfl rfl ?_
      refine x_iload_n (q := 186) dX3_measure_185 rfl rfl ?_
      refine x_bipush (8) (q := 188) dX3_measure_186 rfl (by decide) ?_
      refine x_imul (q := 189) dX3_measure_188 rfl ?_
      refine x_iload (q := 191) dX3_measure_189 rfl rfl ?_
      refine x_iadd (q := 192) dX3_measure_191 rfl ?_
      refine q_iald (q := 193) dX3_measure_192 rfl rfl (by rw [ix1]; exact vp_in_nI (by omega) (by decide)) ?_
      refine x_iadd (q := 194) dX3_measure_193 rfl ?_
      refine x_min (q := 197) dX3_measure_194 rfl tw_938 mm_min_s mm_i mm_min_c (by decide) (Nat.le_of_ble_eq_true rfl) (by decide) (by decide) ?_
      refine q_iast (q := 198) dX3_measure_197 rfl rfl (by rw [ev1, ix1]; exact vp_in_nI (by omega) (by decide)) (fun I2 eI2 => ?_)
      obtain ⟨v3, ev3⟩ : ∃ y_ : Int32, y_ = (nI t) + 1 := ⟨_, rfl⟩
      refine x_iinc (v := v3) (L2 := [some (.ref 80), some (.ref b), some (.int (nI c)), some (.int (nI a)), some (.int (nI (D (8 * a + c)))), some (.int v3), some (.int v1)]) (q := 201) dX3_measure_198 rfl (by decide) rfl rfl (by rw [ev3]; rfl) rfl ?_
      refine x_goto (t := 141) dX3_measure_201 (by decide) ?_
      have hl := fl1_l hD (c := c) (a := a) t
      have hq1 := hl (8 * a + t) (by omega)
      have hq2 := hl (8 * c + t) (by omega)
      rw [ev1, ix1, ix1, nI_clamp (show 8 * a + t < 2 ^ 31 by omega), nI_clamp (show 8 * c + t < 2 ^ 31 by omega), hX.2 (8 * a + t) (by omega), hX.2 (8 * c + t) (by omega), nI_add, mn_c _ _ (by omega) (by omega), ← fl1_th (D := D) (c := c) (a := a) t] at eI2
      rw [eI2, show v3 = nI (t + 1) by rw [ev3, nI_p1]]
      exact ih (t + 1) _ _ (by omega) ⟨hX.1.up, dc_up hX.2⟩
set_option maxRecDepth 100000 in
theorem l_ms2 {I : MI} {b yn wn hn sn st : Nat} (r : MR) (J : MJ) (h : RelL I b yn wn hn sn st) (hb28 : b ≤ 28) {D : Nat → Nat} (hD : dl D) {c : Nat} (hc : c < yn) (post : Option Value → MI → MR → MJ → Prop) (kx : ∀ (X : MI) (x3 x4 x5 x6 : Option Value), F1 81 I X ∧ dc 81 (fl2 yn D c yn) X → Wq MX3_measure 210 [some (.ref 80), some (.ref b), some (.int (nI c)), x3, x4, x5, x6] [] X r J post) : ∀ (f : Nat) (a : Nat) (X : MI) (x4 x5 x6 : Option Value) (_ : a + f = yn) (_ : F1 81 I X ∧ dc 81 (fl2 yn D c a) X), Wq MX3_measure 117 [some (.ref 80), some (.ref b), some (.int (nI c)), some (.int (nI a)), x4, x5, x6] [] X r J (post) := by
  have h8 : yn ≤ 8 := h.1.2.2.1
  have hw16 : wn ≤ 16 := h.2.1.2.1
  intro f
  induction f with
  | zero =>
    intro a X x4 x5 x6 hak hX
    have ey : X b 1 = nI yn := by rw [hX.1 b (by omega)]; exact h.1.2.1
    refine x_iload_n (q := 118) dX3_measure_117 rfl rfl ?_
    refine x_aload_n (q := 119) dX3_measure_118 rfl rfl ?_
    refine q_gi (K := 1) (q := 122) dX3_measure_119 rfl cl_5 (by decide) tw_170 h.1.1 rfl ?_
    refine x_icmp_ge (t := 210) (q := 125) dX3_measure_122 (by decide) rfl (fun c122 => ?_) (fun c122 => absurd c122 (fun q => q (by rw [ey]; exact nI_le (by omega) (by omega))))
    rw [show a = yn by omega] at hX
    exact kx X _ _ _ _ hX
  | succ f ih =>
    intro a X x4 x5 x6 hak hX
    have ey : X b 1 = nI yn := by rw [hX.1 b (by omega)]; exact h.1.2.1
    refine x_iload_n (q := 118) dX3_measure_117 rfl rfl ?_
    refine x_aload_n (q := 119) dX3_measure_118 rfl rfl ?_
    refine q_gi (K := 1) (q := 122) dX3_measure_119 rfl cl_5 (by decide) tw_170 h.1.1 rfl ?_
    refine x_icmp_ge (t := 210) (q := 125) dX3_measure_122 (by decide) rfl (fun c122 => absurd c122 (by rw [ey]; exact nI_ge (by omega) (by omega))) (fun c122 => ?_)
    refine x_aload_n (q := 126) dX3_measure_125 rfl rfl ?_
    refine q_gr (K := 0) (b := 81) (q := 129) dX3_measure_126 rfl cl_3 (by decide) tw_486 rfl rfl rfl ?_
    refine x_iload_n (q := 130) dX3_measure_129 rfl rfl ?_
    refine x_bipush (8) (q := 132) dX3_measure_130 rfl (by decide) ?_
    refine x_imul (q := 133) dX3_measure_132 rfl ?_
    refine x_iload_n (q := 134) dX3_measure_133 rfl rfl ?_
    refine x_iadd (q := 135) dX3_measure_134 rfl ?_
    refine q_iald (q := 136) dX3_measure_135 rfl rfl (by rw [ix1]; exact vp_in_nI (by omega) (by decide)) ?_
    refine x_nmi (fun v1 ev1 => ?_)
    refine x_istore (L2 := [some (.ref 80), some (.ref b), some (.int (nI c)), some (.int (nI a)), some (.int v1), x5, x6]) (q := 138) dX3_measure_136 rfl (by decide) rfl rfl ?_
    refine x_iconst (0) (q := 139) dX3_measure_138 rfl (by decide) ?_
    refine x_istore (L2 := [some (.ref 80), some (.ref b), some (.int (nI c)), some (.int (nI a)), some (.int v1), some (.int 0), x6]) (q := 141) dX3_measure_139 rfl (by decide) rfl rfl ?_
    rw [ix1, nI_clamp (by omega), hX.2 _ (by omega)] at ev1
    rw [ev1]
    refine l_ms3 r J h hb28 (fl2_l hD a) hc (by omega) _ (fun Y w4 y5 y6 hY => ?_) yn 0 X _ (by omega) hX
    obtain ⟨v31, ev31⟩ : ∃ y_ : Int32, y_ = (nI a) + 1 := ⟨_, rfl⟩
    refine x_iinc (v := v31) (L2 := [some (.ref 80), some (.ref b), some (.int (nI c)), some (.int v31), some (.int w4), y5, y6]) (q := 207) dX3_measure_204 rfl (by decide) rfl rfl (by rw [ev31]; rfl) rfl ?_
    refine x_goto (t := 117) dX3_measure_207 (by decide) ?_
    rw [show v31 = nI (a + 1) by rw [ev31, nI_p1]]
    exact ih (a + 1) Y _ y5 y6 (by omega) hY
set_option maxRecDepth 100000 in
theorem l_ms1 {I : MI} {b yn wn hn sn st : Nat} (r : MR) (J : MJ) (h : RelL I b yn wn hn sn st) (hb28 : b ≤ 28) {D : Nat → Nat} (hD : dl D) : ∀ (f : Nat) (c : Nat) (X : MI) (x3 x4 x5 x6 : Option Value) (_ : c + f = yn) (_ : F1 81 I X ∧ dc 81 (fl3 yn D c) X), Wq MX3_measure 107 [some (.ref 80), some (.ref b), some (.int (nI c)), x3, x4, x5, x6] [] X r J (Rp none (fun Y => F1 81 I Y ∧ dc 81 (fl3 yn D yn) Y) r J) := by
  have h8 : yn ≤ 8 := h.1.2.2.1
  have hw16 : wn ≤ 16 := h.2.1.2.1
  intro f
  induction f with
  | zero =>
    intro c X x3 x4 x5 x6 hck hX
    have ey : X b 1 = nI yn := by rw [hX.1 b (by omega)]; exact h.1.2.1
    refine x_iload_n (q := 108) dX3_measure_107 rfl rfl ?_
    refine x_aload_n (q := 109) dX3_measure_108 rfl rfl ?_
    refine q_gi (K := 1) (q := 112) dX3_measure_109 rfl cl_5 (by decide) tw_170 h.1.1 rfl ?_
    refine x_icmp_ge (t := 216) (q := 115) dX3_measure_112 (by decide) rfl (fun c112 => ?_) (fun c112 => absurd c112 (fun q => q (by rw [ey]; exact nI_le (by omega) (by omega))))
    refine q_vret dX3_measure_216 rfl ?_
    rw [show c = yn by omega] at hX
    exact ⟨rfl, hX, rfl, rfl⟩
  | succ f ih =>
    intro c X x3 x4 x5 x6 hck hX
    have ey : X b 1 = nI yn := by rw [hX.1 b (by omega)]; exact h.1.2.1
    refine x_iload_n (q := 108) dX3_measure_107 rfl rfl ?_
    refine x_aload_n (q := 109) dX3_measure_108 rfl rfl ?_
    refine q_gi (K := 1) (q := 112) dX3_measure_109 rfl cl_5 (by decide) tw_170 h.1.1 rfl ?_
    refine x_icmp_ge (t := 216) (q := 115) dX3_measure_112 (by decide) rfl (fun c112 => absurd c112 (by rw [ey]; exact nI_ge (by omega) (by omega))) (fun c112 => ?_)
    refine x_iconst (0) (q := 116) dX3_measure_115 rfl (by decide) ?_
    refine x_istore_n (L2 := [some (.ref 80), some (.ref b), some (.int (nI c)), some (.int 0), x4, x5, x6]) (q := 117) dX3_measure_116 rfl (by decide) rfl rfl ?_
    refine l_ms2 r J h hb28 (fl3_l hD c) (by omega) _ (fun Y y3 y4 y5 y6 hY => ?_) yn 0 X _ _ _ (by omega) hX
    obtain ⟨v31, ev31⟩ : ∃ y_ : Int32, y_ = (nI c) + 1 := ⟨_, rfl⟩
    refine x_iinc (v := v31) (L2 := [some (.ref 80), some (.ref b), some (.int v31), y3, y4, y5, y6]) (q := 213) dX3_measure_210 rfl (by decide) rfl rfl (by rw [ev31]; rfl) rfl ?_
    refine x_goto (t := 107) dX3_measure_213 (by decide) ?_
    rw [show v31 = nI (c + 1) by rw [ev31, nI_p1]]
    exact ih (c + 1) Y _ _ _ _ (by omega) hY
def dwy (I : MI) (b i : Nat) (X : MI) : Prop := F1 81 I X ∧ ∀ a c, a < 8 → c < 8 → (a = c → X 81 (8 * a + c) = 0) ∧ (¬ a = c → ((∃ j, j < i ∧ wayIs I b j a c) → X 81 (8 * a + c) = I 119 (8 * a + c)) ∧ ((¬ ∃ j, j < i ∧ wayIs I b j a c) → X 81 (8 * a + c) = 1000000))
theorem dwy_end {I X : MI} {b yn wn sn : Nat} (h2 : LOk2 I b yn wn sn) (h8 : yn ≤ 8) (he : RLe I b yn wn sn) (h : dwy I b wn X) : dc 81 (dz I) X := by
  intro j hj
  have e : 8 * (j / 8) + j % 8 = j := by omega
  have q := h.2 (j / 8) (j % 8) (by omega) (by omega)
  have z := (dz_e h2 h8 he (a := j / 8) (c := j % 8) (by omega) (by omega)).1
  rw [e] at q z
  rw [z]
  by_cases g : j / 8 = j % 8
  · rw [if_pos g]; exact q.1 g
  · rw [if_neg g]
    by_cases w : ∃ i, i < wn ∧ wayIs I b i (j / 8) (j % 8)
    · have n0 : ¬ I 119 j = 0 := by
        obtain ⟨i, hi, hw⟩ := w
        have v := he.2.2.2.2.2.2.1 i hi (j / 8) (j % 8) (by omega) (by omega) hw
        rw [e] at v
        obtain ⟨f, t, k, hwy⟩ := h2.2.2.2.2.2.1 i hi
        rw [v, hwy.2.2.1]
        exact nI_ne0 (by have := hwy.2.2.2.2.2.2.1; omega) (by have := hwy.2.2.2.2.2.2.2; omega)
      rw [if_neg n0]
      exact (q.2 g).1 w
    · have n0 : I 119 j = 0 := by
        by_cases z0 : I 119 j = 0
        · exact z0
        · exact absurd (he.2.2.2.2.2.2.2 (j / 8) (j % 8) (by omega) (by omega) (by rw [e]; exact z0)) w
      rw [if_pos n0]
      exact (q.2 g).2 w
theorem dwy_s {I X : MI} {b yn wn sn i f t k : Nat} (h2 : LOk2 I b yn wn sn) (h8 : yn ≤ 8) (he : RLe I b yn wn sn) (hi : i < wn) (hwy : wy I b yn i f t k) (h : dwy I b i X) : dwy I b (i + 1) (upI (upI X 81 (8 * f + t) (nI k)) 81 (8 * t + f) (nI k)) := by
  have hd := wy_ed h8 he hi hwy
  have hf : f < yn := hwy.2.2.2.1
  have ht : t < yn := hwy.2.2.2.2.1
  have hne : ¬ f = t := hwy.2.2.2.2.2.1
  refine ⟨h.1.up.up, fun a c ha hc => ?_⟩
  have q := h.2 a c ha hc
  have iw := wy_is h8 hwy ha hc
  by_cases e : wayIs I b i a c
  · have hv : upI (upI X 81 (8 * f + t) (nI k)) 81 (8 * t + f) (nI k) 81 (8 * a + c) = nI k := by
      rcases iw.mp e with ⟨rfl, rfl⟩ | ⟨rfl, rfl⟩
      · rw [ups (by omega), upq]
      · rw [upq]
    have h119 : I 119 (8 * a + c) = nI k := by
      rcases iw.mp e with ⟨rfl, rfl⟩ | ⟨rfl, rfl⟩
      · exact hd.1.2.2.2.2
      · exact hd.2.2.2.2.2
    rw [hv, h119]
    refine ⟨fun z => ?_, fun _ => ⟨fun _ => rfl, fun z => absurd ⟨i, by omega, e⟩ z⟩⟩
    rcases iw.mp e with ⟨rfl, rfl⟩ | ⟨rfl, rfl⟩
    · exact absurd z hne
    · exact absurd z.symm hne
  · have hv : upI (upI X 81 (8 * f + t) (nI k)) 81 (8 * t + f) (nI k) 81 (8 * a + c) = X 81 (8 * a + c) := by
      rw [ups, ups]
      · intro z
        exact e (iw.mpr (Or.inl ⟨by omega, by omega⟩))
      · intro z
        exact e (iw.mpr (Or.inr ⟨by omega, by omega⟩))
    rw [hv]
    refine ⟨q.1, fun g => ⟨fun ⟨j, hj, w⟩ => ?_, fun z => (q.2 g).2 (fun ⟨j, hj, w⟩ => z ⟨j, by omega, w⟩)⟩⟩
    by_cases ej : j = i
    · rw [ej] at w; exact absurd w e
    · exact (q.2 g).1 ⟨j, by omega, w⟩
set_option maxRecDepth 100000 in
theorem l_ms0 {I : MI} {b yn wn hn sn st : Nat} (r : MR) (J : MJ) (h : RelL I b yn wn hn sn st) (hb28 : b ≤ 28) : ∀ (f : Nat) (i : Nat) (X : MI) (x3 x4 x5 x6 : Option Value) (_ : i + f = wn) (_ : dwy I b i X), Wq MX3_measure 37 [some (.ref 80), some (.ref b), some (.int (nI i)), x3, x4, x5, x6] [] X r J (Rp none (fun Y => F1 81 I Y ∧ dc 81 (fl3 yn (dz I) yn) Y) r J) := by
  have h8 : yn ≤ 8 := h.1.2.2.1
  have hw16 : wn ≤ 16 := h.2.1.2.1
  intro f
  induction f with
  | zero =>
    intro i X x3 x4 x5 x6 hik hX
    have ewn : X b 5 = nI wn := by rw [hX.1 b (by omega)]; exact h.2.1.1
    refine x_iload_n (q := 38) dX3_measure_37 rfl rfl ?_
    refine x_aload_n (q := 39) dX3_measure_38 rfl rfl ?_
    refine q_gi (K := 5) (q := 42) dX3_measure_39 rfl cl_5 (by decide) tw_186 h.1.1 rfl ?_
    refine x_icmp_ge (t := 105) (q := 45) dX3_measure_42 (by decide) rfl (fun c42 => ?_) (fun c42 => absurd c42 (fun q => q (by rw [ewn]; exact nI_le (by omega) (by omega))))
    refine x_iconst (0) (q := 106) dX3_measure_105 rfl (by decide) ?_
    refine x_istore_n (L2 := [some (.ref 80), some (.ref b), some (.int 0), x3, x4, x5, x6]) (q := 107) dX3_measure_106 rfl (by decide) rfl rfl ?_
    rw [show i = wn by omega] at hX
    exact l_ms1 r J h hb28 (dz_l h.2.1 h8 h.2.2.2.1) yn 0 X _ _ _ _ (by omega) ⟨hX.1, dwy_end h.2.1 h8 h.2.2.2.1 hX⟩
  | succ f ih =>
    intro i X x3 x4 x5 x6 hik hX
    have ewn : X b 5 = nI wn := by rw [hX.1 b (by omega)]; exact h.2.1.1
    refine x_iload_n (q := 38) dX3_measure_37 rfl rfl ?_
    refine x_aload_n (q := 39) dX3_measure_38 rfl rfl ?_
    refine q_gi (K := 5) (q := 42) dX3_measure_39 rfl cl_5 (by decide) tw_186 h.1.1 rfl ?_
    refine x_icmp_ge (t := 105) (q := 45) dX3_measure_42 (by decide) rfl (fun c42 => absurd c42 (by rw [ewn]; exact nI_ge (by omega) (by omega))) (fun c42 => ?_)
    obtain ⟨f0, t, k, hwy⟩ : ∃ f t k, wy I b yn i f t k := h.2.1.2.2.2.2.2.1 i (by omega)
    have hci : (nI i).toNatClampNeg = i := nI_clamp (by omega)
    have hw2 := hwy.2.2.2.1; have hw3 := hwy.2.2.2.2.1
    have x2 : X (b + 2) i = nI f0 := by rw [hX.1 (b + 2) (by omega)]; exact hwy.1
    have x3_ : X (b + 3) i = nI t := by rw [hX.1 (b + 3) (by omega)]; exact hwy.2.1
    have x4_ : X (b + 4) i = nI k := by rw [hX.1 (b + 4) (by omega)]; exact hwy.2.2.1
    refine x_aload_n (q := 46) dX3_measure_45 rfl rfl ?_
    refine q_gr (K := 0) (b := 81) (q := 49) dX3_measure_46 rfl cl_3 (by decide) tw_486 rfl rfl rfl ?_
    refine x_aload_n (q := 50) dX3_measure_49 rfl rfl ?_
    refine q_gr (K := 2) (b := (b + 2)) (q := 53) dX3_measure_50 rfl cl_5 (by decide) tw_174 h.1.1 rfl (lr_w h.1.1 _).2.1 ?_
    refine x_iload_n (q := 54) dX3_measure_53 rfl rfl ?_
    refine q_iald (q := 55) dX3_measure_54 rfl (ls_w h.1.1).2.1 (vp_in_nI (by omega) (by decide)) ?_
    refine x_bipush (8) (q := 57) dX3_measure_55 rfl (by decide) ?_
    refine x_imul (q := 58) dX3_measure_57 rfl ?_
    refine x_aload_n (q := 59) dX3_measure_58 rfl rfl ?_
    refine q_gr (K := 3) (b := (b + 3)) (q := 62) dX3_measure_59 rfl cl_5 (by decide) tw_178 h.1.1 rfl (lr_w h.1.1 _).2.2.1 ?_
    refine x_iload_n (q := 63) dX3_measure_62 rfl rfl ?_
    refine q_iald (q := 64) dX3_measure_63 rfl (ls_w h.1.1).2.2.1 (vp_in_nI (by omega) (by decide)) ?_
    refine x_iadd (q := 65) dX3_measure_64 rfl ?_
    refine x_aload_n (q := 66) dX3_measure_65 rfl rfl ?_
    refine q_gr (K := 4) (b := (b + 4)) (q := 69) dX3_measure_66 rfl cl_5 (by decide) tw_182 h.1.1 rfl (lr_w h.1.1 _).2.2.2.1 ?_
    refine x_iload_n (q := 70) dX3_measure_69 rfl rfl ?_
    refine q_iald (q := 71) dX3_measure_70 rfl (ls_w h.1.1).2.2.2.1 (vp_in_nI (by omega) (by decide)) ?_
    refine q_iast (q := 72) dX3_measure_71 rfl rfl (by rw [hci, x2, x3_, ix1]; exact vp_in_nI (by omega) (by decide)) (fun I21 eI21 => ?_)
    refine x_aload_n (q := 73) dX3_measure_72 rfl rfl ?_
    refine q_gr (K := 0) (b := 81) (q := 76) dX3_measure_73 rfl cl_3 (by decide) tw_486 rfl rfl rfl ?_
    refine x_aload_n (q := 77) dX3_measure_76 rfl rfl ?_
    refine q_gr (K := 3) (b := (b + 3)) (q := 80) dX3_measure_77 rfl cl_5 (by decide) tw_178 h.1.1 rfl (lr_w h.1.1 _).2.2.1 ?_
    refine x_iload_n (q := 81) dX3_measure_80 rfl rfl ?_
    refine q_iald (q := 82) dX3_measure_81 rfl (ls_w h.1.1).2.2.1 (vp_in_nI (by omega) (by decide)) ?_
    refine x_bipush (8) (q := 84) dX3_measure_82 rfl (by decide) ?_
    refine x_imul (q := 85) dX3_measure_84 rfl ?_
    refine x_aload_n (q := 86) dX3_measure_85 rfl rfl ?_
    refine q_gr (K := 2) (b := (b + 2)) (q := 89) dX3_measure_86 rfl cl_5 (by decide) tw_174 h.1.1 rfl (lr_w h.1.1 _).2.1 ?_
    refine x_iload_n (q := 90) dX3_measure_89 rfl rfl ?_
    refine q_iald (q := 91) dX3_measure_90 rfl (ls_w h.1.1).2.1 (vp_in_nI (by omega) (by decide)) ?_
    refine x_iadd (q := 92) dX3_measure_91 rfl ?_
    refine x_aload_n (q := 93) dX3_measure_92 rfl rfl ?_
    refine q_gr (K := 4) (b := (b + 4)) (q := 96) dX3_measure_93 rfl cl_5 (by decide) tw_182 h.1.1 rfl (lr_w h.1.1 _).2.2.2.1 ?_
    refine x_iload_n (q := 97) dX3_measure_96 rfl rfl ?_
    refine q_iald (q := 98) dX3_measure_97 rfl (ls_w h.1.1).2.2.2.1 (vp_in_nI (by omega) (by decide)) ?_
    refine q_iast (q := 99) dX3_measure_98 rfl rfl (by rw [eI21, upc (by omega), upc (by omega), hci, x2, x3_, ix1]; exact vp_in_nI (by omega) (by decide)) (fun I22 eI22 => ?_)
    obtain ⟨v23, ev23⟩ : ∃ y_ : Int32, y_ = (nI i) + 1 := ⟨_, rfl⟩
    refine x_iinc (v := v23) (L2 := [some (.ref 80), some (.ref b), some (.int v23), x3, x4, x5, x6]) (q := 102) dX3_measure_99 rfl (by decide) rfl rfl (by rw [ev23]; rfl) rfl ?_
    refine x_goto (t := 37) dX3_measure_102 (by decide) ?_
    rw [hci, x2, x3_, x4_, ix1, nI_clamp (by omega)] at eI21
    rw [eI21, upc (by omega), upc (by omega), upc (by omega), hci, x2, x3_, x4_, ix1, nI_clamp (by omega)] at eI22
    rw [eI22, show v23 = nI (i + 1) by rw [ev23, nI_p1]]
    exact ih (i + 1) _ _ _ _ _ (by omega) (dwy_s h.2.1 h8 h.2.2.2.1 (by omega) hwy hX)
def dgl (I : MI) (i : Nat) (X : MI) : Prop := F1 81 I X ∧ ∀ a c, a < 8 → c < 8 → X 81 (8 * a + c) = if a = c ∧ a < i then 0 else 1000000
theorem dgl_8 {I X : MI} {b : Nat} (h : dgl I 8 X) : dwy I b 0 X := by
  refine ⟨h.1, fun a c ha hc => ⟨fun e => ?_, fun e => ⟨fun ⟨j, hj, _⟩ => absurd hj (by omega), fun _ => ?_⟩⟩⟩
  · rw [h.2 a c ha hc, if_pos ⟨e, by omega⟩]
  · rw [h.2 a c ha hc, if_neg (fun z => e z.1)]
theorem dgl_s {I X : MI} {i : Nat} (h : dgl I i X) : dgl I (i + 1) (upI X 81 (8 * i + i) 0) := by
  refine ⟨h.1.up, fun a c ha hc => ?_⟩
  by_cases e : 8 * a + c = 8 * i + i
  · rw [e, upq]
    by_cases g : i < 8
    · rw [if_pos ⟨by omega, by omega⟩]
    · omega
  · rw [ups e, h.2 a c ha hc]
    by_cases g : a = c ∧ a < i
    · rw [if_pos g, if_pos ⟨g.1, by omega⟩]
    · rw [if_neg g, if_neg (fun z => g ⟨z.1, by omega⟩)]
set_option maxRecDepth 100000 in
theorem l_msd {I : MI} {b yn wn hn sn st : Nat} (r : MR) (J : MJ) (h : RelL I b yn wn hn sn st) (hb28 : b ≤ 28) : ∀ (f : Nat) (i : Nat) (X : MI) (x3 x4 x5 x6 : Option Value) (_ : i + f = 8) (_ : dgl I i X), Wq MX3_measure 11 [some (.ref 80), some (.ref b), some (.int (nI i)), x3, x4, x5, x6] [] X r J (Rp none (fun Y => F1 81 I Y ∧ dc 81 (fl3 yn (dz I) yn) Y) r J) := by
  have h8 : yn ≤ 8 := h.1.2.2.1
  have hw16 : wn ≤ 16 := h.2.1.2.1
  intro f
  induction f with
  | zero =>
    intro i X x3 x4 x5 x6 hik hX
    refine x_iload_n (q := 12) dX3_measure_11 rfl rfl ?_
    refine x_bipush (8) (q := 14) dX3_measure_12 rfl (by decide) ?_
    refine x_icmp_ge (t := 35) (q := 17) dX3_measure_14 (by decide) rfl (fun c14 => ?_) (fun c14 => absurd c14 (fun q => q (nI_le (a := 8) (by omega) (by omega))))
    refine x_iconst (0) (q := 36) dX3_measure_35 rfl (by decide) ?_
    refine x_istore_n (L2 := [some (.ref 80), some (.ref b), some (.int 0), x3, x4, x5, x6]) (q := 37) dX3_measure_36 rfl (by decide) rfl rfl ?_
    rw [show i = 8 by omega] at hX
    exact l_ms0 r J h hb28 wn 0 X _ _ _ _ (by omega) (dgl_8 hX)
  | succ f ih =>
    intro i X x3 x4 x5 x6 hik hX
    refine x_iload_n (q := 12) dX3_measure_11 rfl rfl ?_
    refine x_bipush (8) (q := 14) dX3_measure_12 rfl (by decide) ?_
    refine x_icmp_ge (t := 35) (q := 17) dX3_measure_14 (by decide) rfl (fun c14 => absurd c14 (nI_ge (b := 8) (by omega) (by decide))) (fun c14 => ?_)
    refine x_aload_n (q := 18) dX3_measure_17 rfl rfl ?_
    refine q_gr (K := 0) (b := 81) (q := 21) dX3_measure_18 rfl cl_3 (by decide) tw_486 rfl rfl rfl ?_
    refine x_iload_n (q := 22) dX3_measure_21 rfl rfl ?_
    refine x_bipush (8) (q := 24) dX3_measure_22 rfl (by decide) ?_
    refine x_imul (q := 25) dX3_measure_24 rfl ?_
    refine x_iload_n (q := 26) dX3_measure_25 rfl rfl ?_
    refine x_iadd (q := 27) dX3_measure_26 rfl ?_
    refine x_iconst (0) (q := 28) dX3_measure_27 rfl (by decide) ?_
    refine q_iast (q := 29) dX3_measure_28 rfl rfl (by rw [ix1]; exact vp_in_nI (by omega) (by decide)) (fun I1 eI1 => ?_)
    obtain ⟨v2, ev2⟩ : ∃ y_ : Int32, y_ = (nI i) + 1 := ⟨_, rfl⟩
    refine x_iinc (v := v2) (L2 := [some (.ref 80), some (.ref b), some (.int v2), x3, x4, x5, x6]) (q := 32) dX3_measure_29 rfl (by decide) rfl rfl (by rw [ev2]; rfl) rfl ?_
    refine x_goto (t := 11) dX3_measure_32 (by decide) ?_
    rw [ix1, nI_clamp (by omega)] at eI1
    rw [eI1, show v2 = nI (i + 1) by rw [ev2, nI_p1]]
    exact ih (i + 1) _ _ _ _ _ (by omega) (dgl_s hX)
set_option maxRecDepth 100000 in
theorem c_meas {I : MI} {b yn wn hn sn st : Nat} (r : MR) (J : MJ) (h : RelL I b yn wn hn sn st) (hb28 : b ≤ 28) : Cq yX3_measure MX3_measure [.ref 80, .ref b] I r J (Rp none (fun Y => F1 81 I Y ∧ dc 81 (fl3 yn (dz I) yn) Y) r J) := by
  have h8 : yn ≤ 8 := h.1.2.2.1
  have hw16 : wn ≤ 16 := h.2.1.2.1
  refine cq_of [some (.ref 80), some (.ref b), none, none, none, none, none] 5 (by decide +kernel) rfl rfl (Nat.le_of_ble_eq_true rfl) rfl ?_
  refine x_aload_n (q := 1) dX3_measure_0 rfl rfl ?_
  refine q_gr (K := 0) (b := 81) (q := 4) dX3_measure_1 rfl cl_3 (by decide) tw_486 rfl rfl rfl ?_
  refine x_ldc (v := 1000000) (q := 6) dX3_measure_4 rfl tw_934 ?_
  refine q_callS (As := [.ref 81, .int 1000000]) (rest := []) (q := 9) dX3_measure_6 rfl okJ7_fill_53178 tw_935 (c_fill81 1000000 I r J) rfl rfl (Nat.le_of_ble_eq_true rfl) ⟨by decide, by decide⟩ ⟨rfl, rfl⟩ (fun rv_ I_ r_ J_ hv_ => ?_)
  obtain ⟨a1_, a2_, a3_, a4_⟩ := hv_
  rw [a1_, a2_, a3_, a4_]
  show Wq MX3_measure 9 [some (.ref 80), some (.ref b), none, none, none, none, none] [] (flI I 81 64 1000000) r J _
  refine x_iconst (0) (q := 10) dX3_measure_9 rfl (by decide) ?_
  refine x_istore_n (L2 := [some (.ref 80), some (.ref b), some (.int 0), none, none, none, none]) (q := 11) dX3_measure_10 rfl (by decide) rfl rfl ?_
  refine l_msd r J h hb28 8 0 _ _ _ _ _ rfl ⟨fun c q => flI_o q, fun a c ha hc => ?_⟩
  rw [flI_i (by omega), if_neg (fun z => absurd z.2 (by omega))]
set_option maxRecDepth 100000 in
theorem l_fr3 {I : MI} {b yn wn hn sn st : Nat} (r : MR) (J : MJ) (h : RelL I b yn wn hn sn st) {D : Nat → Nat} (hD : dl D) {c a : Nat} (hc : c < yn) (ha : a < yn) (post : Option Value → MI → MR → MJ → Prop) (kx : ∀ (X : MI) (x3 : Option Value), F1 128 I X ∧ dc 128 (fl1 D c a yn) X → Wq MX12_layFar 163 [some (.ref 100), some (.int (nI c)), some (.int (nI a)), x3] [] X r J post) : ∀ (f : Nat) (t : Nat) (X : MI) (_ : t + f = yn) (_ : F1 128 I X ∧ dc 128 (fl1 D c a t) X), Wq MX12_layFar 101 [some (.ref 100), some (.int (nI c)), some (.int (nI a)), some (.int (nI t))] [] X r J (post) := by
  have h8 : yn ≤ 8 := h.1.2.2.1
  intro f
  induction f with
  | zero =>
    intro t X htk hX
    have ey : X 100 41 = nI yn := by rw [hX.1 100 (by omega)]; exact h.2.2.1.1
    refine x_iload_n (q := 102) dX12_layFar_101 rfl rfl ?_
    refine x_aload_n (q := 103) dX12_layFar_102 rfl rfl ?_
    refine q_gi (K := 41) (q := 106) dX12_layFar_103 rfl cl_12 (by decide) tw_1123 rfl rfl ?_
    refine x_icmp_ge (t := 163) (q := 109) dX12_layFar_106 (by decide) rfl (fun c106 => ?_) (fun c106 => absurd c106 (fun q => q (by rw [ey]; exact nI_le (by omega) (by omega))))
    rw [show t = yn by omega] at hX
    exact kx X _ hX
  | succ f ih =>
    intro t X htk hX
    have ey : X 100 41 = nI yn := by rw [hX.1 100 (by omega)]; exact h.2.2.1.1
    refine x_iload_n (q := 102) dX12_layFar_101 rfl rfl ?_
    refine x_aload_n (q := 103) dX12_layFar_102 rfl rfl ?_
    refine q_gi (K := 41) (q := 106) dX12_layFar_103 rfl cl_12 (by decide) tw_1123 rfl rfl ?_
    refine x_icmp_ge (t := 163) (q := 109) dX12_layFar_106 (by decide) rfl (fun c106 => absurd c106 (by rw [ey]; exact nI_ge (by omega) (by omega))) (fun c106 => ?_)
    refine x_aload_n (q := 110) dX12_layFar_109 rfl rfl ?_
    refine q_gr (K := 58) (b := 128) (q := 113) dX12_layFar_110 rfl cl_12 (by decide) tw_1140 rfl rfl rfl ?_
    refine x_bipush (8) (q := 115) dX12_layFar_113 rfl (by decide) ?_
    refine x_iload_n (q := 116) dX12_layFar_115 rfl rfl ?_
    refine x_imul (q := 117) dX12_layFar_116 rfl ?_
    refine x_iload_n (q := 118) dX12_layFar_117 rfl rfl ?_
    refine x_iadd (q := 119) dX12_layFar_118 rfl ?_
    refine x_aload_n (q := 120) dX12_layFar_119 rfl rfl ?_
    refine q_gr (K := 58) (b := 128) (q := 123) dX12_layFar_120 rfl cl_12 (by decide) tw_1140 rfl rfl rfl ?_
    refine x_bipush (8) (q := 125) dX12_layFar_123 rfl (by decide) ?_
    refine x_iload_n (q := 126) dX12_layFar_125 rfl rfl ?_
    refine x_imul (q := 127) dX12_layFar_126 rfl ?_
    refine x_iload_n (q := 128) dX12_layFar_127 rfl rfl ?_
    refine x_iadd (q := 129) dX12_layFar_128 rfl ?_
    refine q_iald (q := 130) dX12_layFar_129 rfl rfl (by rw [ix2]; exact vp_in_nI (by omega) (by decide)) ?_
    refine x_aload_n (q := 131) dX12_layFar_130 rfl rfl ?_
    refine q_gr (K := 58) (b := 128) (q := 134) dX12_layFar_131 rfl cl_12 (by decide) tw_1140 rfl rfl rfl ?_
    refine x_bipush (8) (q := 136) dX12_layFar_134 rfl (by decide) ?_
    refine x_iload_n (q := 137) dX12_layFar_136 rfl rfl ?_
    refine x_imul (q := 138) dX12_layFar_137 rfl ?_
    refine x_iload_n (q := 139) dX12_layFar_138 rfl rfl ?_
    refine x_iadd (q := 140) dX12_layFar_139 rfl ?_
    refine q_iald (q := 141) dX12_layFar_140 rfl rfl (by rw [ix2]; exact vp_in_nI (by omega) (by decide)) ?_
    refine x_aload_n (q := 142) dX12_layFar_141 rfl rfl ?_
    refine q_gr (K := 58) (b := 128) (q := 145) dX12_layFar_142 rfl cl_12 (by decide) tw_1140 rfl rfl rfl ?_
    refine x_bipush (8) (q := 147) dX12_layFar_145 rfl (by decide) ?_
    refine x_iload_n (q := 148) dX12_layFar_147 rfl rfl ?_
    refine x_imul (q := 149) dX12_layFar_148 rfl ?_
    refine x_iload_n (q := 150) dX12_layFar_149 rfl rfl ?_
    refine x_iadd (q := 151) dX12_layFar_150 rfl ?_
    refine q_iald (q := 152) dX12_layFar_151 rfl rfl (by rw [ix2]; exact vp_in_nI (by omega) (by decide)) ?_
    refine x_iadd (q := 153) dX12_layFar_152 rfl ?_
    refine q_callS (As := [.int (X 128 ((8 * (nI a)) + (nI t)).toNatClampNeg), .int ((X 128 ((8 * (nI a)) + (nI c)).toNatClampNeg) + (X 128 ((8 * (nI c)) + (nI t)).toNatClampNeg))]) (rest := [.int ((8 * (nI a)) + (nI t)), .ref 128]) (q := 156) dX12_layFar_153 rfl okX12_lesser tw_1461 (c_lesser _ _ X r J) rfl rfl (Nat.le_of_ble_eq_true rfl) ⟨by decide, by decide⟩ ⟨rfl, rfl⟩ (fun rv_ I_ r_ J_ hv_ => ?_)
    obtain ⟨a1_, a2_, a3_, a4_⟩ := hv_
    rw [a1_, a2_, a3_, a4_]
    show Wq MX12_layFar 156 [some (.ref 100), some (.int (nI c)), some (.int (nI a)), some (.int (nI t))] [.int (lesF (X 128 ((8 * (nI a)) + (nI t)).toNatClampNeg) ((X 128 ((8 * (nI a)) + (nI c)).toNatClampNeg) + (X 128 ((8 * (nI c)) + (nI t)).toNatClampNeg))), .int ((8 * (nI a)) + (nI t)), .ref 128] X r J _
    refine q_iast (q := 157) dX12_layFar_156 rfl rfl (by rw [ix2]; exact vp_in_nI (by omega) (by decide)) (fun I1 eI1 => ?_)
    obtain ⟨v2, ev2⟩ : ∃ y_ : Int32, y_ = (nI t) + 1 := ⟨_, rfl⟩
    refine x_iinc (v := v2) (L2 := [some (.ref 100), some (.int (nI c)), some (.int (nI a)), some (.int v2)]) (q := 160) dX12_layFar_157 rfl (by decide) rfl rfl (by rw [ev2]; rfl) rfl ?_
    refine x_goto (t := 101) dX12_layFar_160 (by decide) ?_
    have hl := fl1_l hD (c := c) (a := a) t
    have hq1 := hl (8 * a + t) (by omega)
    have hq2 := hl (8 * c + t) (by omega)
    have hq3 := hl (8 * a + c) (by omega)
    rw [ix2, ix2, ix2, nI_clamp (show 8 * a + t < 2 ^ 31 by omega), nI_clamp (show 8 * c + t < 2 ^ 31 by omega), nI_clamp (show 8 * a + c < 2 ^ 31 by omega), hX.2 (8 * a + t) (by omega), hX.2 (8 * c + t) (by omega), hX.2 (8 * a + c) (by omega), nI_add, mn_l _ _ (by omega) (by omega)] at eI1
    rw [eI1, show v2 = nI (t + 1) by rw [ev2, nI_p1]]
    exact ih (t + 1) _ (by omega) ⟨hX.1.up, dc_up hX.2⟩
set_option maxRecDepth 100000 in
theorem l_fr2 {I : MI} {b yn wn hn sn st : Nat} (r : MR) (J : MJ) (h : RelL I b yn wn hn sn st) {D : Nat → Nat} (hD : dl D) {c : Nat} (hc : c < yn) (post : Option Value → MI → MR → MJ → Prop) (kx : ∀ (X : MI) (x2 x3 : Option Value), F1 128 I X ∧ dc 128 (fl2 yn D c yn) X → Wq MX12_layFar 169 [some (.ref 100), some (.int (nI c)), x2, x3] [] X r J post) : ∀ (f : Nat) (a : Nat) (X : MI) (x3 : Option Value) (_ : a + f = yn) (_ : F1 128 I X ∧ dc 128 (fl2 yn D c a) X), Wq MX12_layFar 91 [some (.ref 100), some (.int (nI c)), some (.int (nI a)), x3] [] X r J (post) := by
  have h8 : yn ≤ 8 := h.1.2.2.1
  intro f
  induction f with
  | zero =>
    intro a X x3 hak hX
    have ey : X 100 41 = nI yn := by rw [hX.1 100 (by omega)]; exact h.2.2.1.1
    refine x_iload_n (q := 92) dX12_layFar_91 rfl rfl ?_
    refine x_aload_n (q := 93) dX12_layFar_92 rfl rfl ?_
    refine q_gi (K := 41) (q := 96) dX12_layFar_93 rfl cl_12 (by decide) tw_1123 rfl rfl ?_
    refine x_icmp_ge (t := 169) (q := 99) dX12_layFar_96 (by decide) rfl (fun c96 => ?_) (fun c96 => absurd c96 (fun q => q (by rw [ey]; exact nI_le (by omega) (by omega))))
    rw [show a = yn by omega] at hX
    exact kx X _ _ hX
  | succ f ih =>
    intro a X x3 hak hX
    have ey : X 100 41 = nI yn := by rw [hX.1 100 (by omega)]; exact h.2.2.1.1
    refine x_iload_n (q := 92) dX12_layFar_91 rfl rfl ?_
    refine x_aload_n (q := 93) dX12_layFar_92 rfl rfl ?_
    refine q_gi (K := 41) (q := 96) dX12_layFar_93 rfl cl_12 (by decide) tw_1123 rfl rfl ?_
    refine x_icmp_ge (t := 169) (q := 99) dX12_layFar_96 (by decide) rfl (fun c96 => absurd c96 (by rw [ey]; exact nI_ge (by omega) (by omega))) (fun c96 => ?_)
    refine x_iconst (0) (q := 100) dX12_layFar_99 rfl (by decide) ?_
    refine x_istore_n (L2 := [some (.ref 100), some (.int (nI c)), some (.int (nI a)), some (.int 0)]) (q := 101) dX12_layFar_100 rfl (by decide) rfl rfl ?_
    refine l_fr3 r J h (fl2_l hD a) hc (by omega) _ (fun Y y3 hY => ?_) yn 0 X (by omega) hX
    obtain ⟨v31, ev31⟩ : ∃ y_ : Int32, y_ = (nI a) + 1 := ⟨_, rfl⟩
    refine x_iinc (v := v31) (L2 := [some (.ref 100), some (.int (nI c)), some (.int v31), y3]) (q := 166) dX12_layFar_163 rfl (by decide) rfl rfl (by rw [ev31]; rfl) rfl ?_
    refine x_goto (t := 91) dX12_layFar_166 (by decide) ?_
    rw [show v31 = nI (a + 1) by rw [ev31, nI_p1]]
    exact ih (a + 1) Y _ (by omega) hY
set_option maxRecDepth 100000 in
theorem l_fr1 {I : MI} {b yn wn hn sn st : Nat} (r : MR) (J : MJ) (h : RelL I b yn wn hn sn st) : ∀ (f : Nat) (c : Nat) (X : MI) (x2 x3 : Option Value) (_ : c + f = yn) (_ : F1 128 I X ∧ dc 128 (fl3 yn (dz I) c) X), Wq MX12_layFar 81 [some (.ref 100), some (.int (nI c)), x2, x3] [] X r J (Rp none (fun Y => F1 128 I Y ∧ dc 128 (fl3 yn (dz I) yn) Y) r J) := by
  have h8 : yn ≤ 8 := h.1.2.2.1
  intro f
  induction f with
  | zero =>
    intro c X x2 x3 hck hX
    have ey : X 100 41 = nI yn := by rw [hX.1 100 (by omega)]; exact h.2.2.1.1
    refine x_iload_n (q := 82) dX12_layFar_81 rfl rfl ?_
    refine x_aload_n (q := 83) dX12_layFar_82 rfl rfl ?_
    refine q_gi (K := 41) (q := 86) dX12_layFar_83 rfl cl_12 (by decide) tw_1123 rfl rfl ?_
    refine x_icmp_ge (t := 175) (q := 89) dX12_layFar_86 (by decide) rfl (fun c86 => ?_) (fun c86 => absurd c86 (fun q => q (by rw [ey]; exact nI_le (by omega) (by omega))))
    refine q_vret dX12_layFar_175 rfl ?_
    rw [show c = yn by omega] at hX
    exact ⟨rfl, hX, rfl, rfl⟩
  | succ f ih =>
    intro c X x2 x3 hck hX
    have ey : X 100 41 = nI yn := by rw [hX.1 100 (by omega)]; exact h.2.2.1.1
    refine x_iload_n (q := 82) dX12_layFar_81 rfl rfl ?_
    refine x_aload_n (q := 83) dX12_layFar_82 rfl rfl ?_
    refine q_gi (K := 41) (q := 86) dX12_layFar_83 rfl cl_12 (by decide) tw_1123 rfl rfl ?_
    refine x_icmp_ge (t := 175) (q := 89) dX12_layFar_86 (by decide) rfl (fun c86 => absurd c86 (by rw [ey]; exact nI_ge (by omega) (by omega))) (fun c86 => ?_)
    refine x_iconst (0) (q := 90) dX12_layFar_89 rfl (by decide) ?_
    refine x_istore_n (L2 := [some (.ref 100), some (.int (nI c)), some (.int 0), x3]) (q := 91) dX12_layFar_90 rfl (by decide) rfl rfl ?_
    refine l_fr2 r J h (fl3_l (dz_l h.2.1 h8 h.2.2.2.1) c) (by omega) _ (fun Y y2 y3 hY => ?_) yn 0 X _ (by omega) hX
    obtain ⟨v31, ev31⟩ : ∃ y_ : Int32, y_ = (nI c) + 1 := ⟨_, rfl⟩
    refine x_iinc (v := v31) (L2 := [some (.ref 100), some (.int v31), y2, y3]) (q := 172) dX12_layFar_169 rfl (by decide) rfl rfl (by rw [ev31]; rfl) rfl ?_
    refine x_goto (t := 81) dX12_layFar_172 (by decide) ?_
    rw [show v31 = nI (c + 1) by rw [ev31, nI_p1]]
    exact ih (c + 1) Y _ _ (by omega) hY
def dpt (I : MI) (n : Nat) (X : MI) : Prop := F1 128 I X ∧ ∀ j, j < n → j < 64 → X 128 j = nI (dz I j)
theorem dpt_s {I X : MI} {n : Nat} {v : Int32} (h : dpt I n X) (hv : v = nI (dz I n)) : dpt I (n + 1) (upI X 128 n v) := by
  refine ⟨h.1.up, fun j hj h6 => ?_⟩
  by_cases e : j = n
  · rw [e, upq, hv]
  · rw [ups e]; exact h.2 j (by omega) h6
theorem dz_1 {a c : Nat} {v x : Int32} (hz : v = if a = c then 0 else x) (h : nI a = nI c) (ha : a < 2 ^ 31) (hc : c < 2 ^ 31) : 0 = v := by
  rw [hz, if_pos ((nI_eq ha hc).mp h)]
theorem dz_2 {I : MI} {a c : Nat} {v : Int32} (hd : I 119 (8 * a + c) = 0 ∨ ∃ k, ed I a c k) (hz : v = if a = c then 0 else if I 119 (8 * a + c) = 0 then 1000000 else I 119 (8 * a + c)) (h : ¬ nI a = nI c) (h4 : I 119 (8 * a + c) ≤ 0) (ha : a < 2 ^ 31) (hc : c < 2 ^ 31) : 1000000 = v := by
  rw [hz, if_neg (fun z => h (by rw [z]))]
  rcases hd with q | ⟨k, q⟩
  · rw [if_pos q]
  · rw [q.2.2.2.2] at h4
    exact absurd h4 (nI_nle (by have := q.2.2.1; omega) (by have := q.2.2.2.1; omega))
theorem dz_3 {I X : MI} {a c : Nat} {v : Int32} (hz : v = if a = c then 0 else if I 119 (8 * a + c) = 0 then 1000000 else I 119 (8 * a + c)) (h : ¬ nI a = nI c) (h4 : ¬ I 119 (8 * a + c) ≤ 0) (e : X 119 (8 * a + c) = I 119 (8 * a + c)) : X 119 (8 * a + c) = v := by
  rw [hz, if_neg (fun z => h (by rw [z])), if_neg (fun q => h4 (by rw [q]; decide)), e]
set_option maxRecDepth 100000 in
theorem l_fr0 {I : MI} {b yn wn hn sn st : Nat} (r : MR) (J : MJ) (h : RelL I b yn wn hn sn st) {a : Nat} (ha : a < 8) (post : Option Value → MI → MR → MJ → Prop) (kx : ∀ (X : MI) (x2 x3 : Option Value), dpt I (8 * (a + 1)) X → Wq MX12_layFar 73 [some (.ref 100), some (.int (nI a)), x2, x3] [] X r J post) : ∀ (f : Nat) (c : Nat) (X : MI) (x3 : Option Value) (_ : c + f = 8) (_ : dpt I (8 * a + c) X), Wq MX12_layFar 10 [some (.ref 100), some (.int (nI a)), some (.int (nI c)), x3] [] X r J (post) := by
  have h8 : yn ≤ 8 := h.1.2.2.1
  intro f
  induction f with
  | zero =>
    intro c X x3 hck hX
    refine x_iload_n (q := 11) dX12_layFar_10 rfl rfl ?_
    refine x_bipush (8) (q := 13) dX12_layFar_11 rfl (by decide) ?_
    refine x_icmp_ge (t := 73) (q := 16) dX12_layFar_13 (by decide) rfl (fun c13 => ?_) (fun c13 => absurd c13 (fun q => q (nI_le (a := 8) (by omega) (by omega))))
    rw [show 8 * a + c = 8 * (a + 1) by omega] at hX
    exact kx X _ _ hX
  | succ f ih =>
    intro c X x3 hck hX
    have hz := (dz_e h.2.1 h8 h.2.2.2.1 ha (show c < 8 by omega)).1
    have e119 : X 119 (8 * a + c) = I 119 (8 * a + c) := by rw [hX.1 119 (by decide)]
    refine x_iload_n (q := 11) dX12_layFar_10 rfl rfl ?_
    refine x_bipush (8) (q := 13) dX12_layFar_11 rfl (by decide) ?_
    refine x_icmp_ge (t := 73) (q := 16) dX12_layFar_13 (by decide) rfl (fun c13 => absurd c13 (nI_ge (b := 8) (by omega) (by decide))) (fun c13 => ?_)
    refine x_aload_n (q := 17) dX12_layFar_16 rfl rfl ?_
    refine q_gr (K := 58) (b := 128) (q := 20) dX12_layFar_17 rfl cl_12 (by decide) tw_1140 rfl rfl rfl ?_
    refine x_bipush (8) (q := 22) dX12_layFar_20 rfl (by decide) ?_
    refine x_iload_n (q := 23) dX12_layFar_22 rfl rfl ?_
    refine x_imul (q := 24) dX12_layFar_23 rfl ?_
    refine x_iload_n (q := 25) dX12_layFar_24 rfl rfl ?_
    refine x_iadd (q := 26) dX12_layFar_25 rfl ?_
    refine x_iload_n (q := 27) dX12_layFar_26 rfl rfl ?_
    refine x_iload_n (q := 28) dX12_layFar_27 rfl rfl ?_
    refine x_icmp_ne (t := 35) (q := 31) dX12_layFar_28 (by decide) rfl (fun c28 => ?_) (fun c28 => ?_)
    · refine x_aload_n (q := 36) dX12_layFar_35 rfl rfl ?_
      refine q_gr (K := 27) (b := 119) (q := 39) dX12_layFar_36 rfl cl_12 (by decide) tw_1109 rfl rfl rfl ?_
      refine x_bipush (8) (q := 41) dX12_layFar_39 rfl (by decide) ?_
      refine x_iload_n (q := 42) dX12_layFar_41 rfl rfl ?_
      refine x_imul (q := 43) dX12_layFar_42 rfl ?_
      refine x_iload_n (q := 44) dX12_layFar_43 rfl rfl ?_
      refine x_iadd (q := 45) dX12_layFar_44 rfl ?_
      refine q_iald (q := 46) dX12_layFar_45 rfl rfl (by rw [ix2]; exact vp_in_nI (by omega) (by decide)) ?_
      refine x_if_le (t := 63) (q := 49) dX12_layFar_46 (by decide) rfl (fun c46 => ?_) (fun c46 => ?_)
      · refine x_ldcw (v := 1000000) (q := 66) dX12_layFar_63 rfl tw_1579 ?_
        refine q_iast (q := 67) dX12_layFar_66 rfl rfl (by rw [ix2]; exact vp_in_nI (by omega) (by decide)) (fun I1 eI1 => ?_)
        obtain ⟨v2, ev2⟩ : ∃ y_ : Int32, y_ = (nI c) + 1 := ⟨_, rfl⟩
        refine x_iinc (v := v2) (L2 := [some (.ref 100), some (.int (nI a)), some (.int v2), x3]) (q := 70) dX12_layFar_67 rfl (by decide) rfl rfl (by rw [ev2]; rfl) rfl ?_
        refine x_goto (t := 10) dX12_layFar_70 (by decide) ?_
        rw [ix2, nI_clamp (by omega)] at eI1
        rw [eI1, show v2 = nI (c + 1) by rw [ev2, nI_p1]]
        refine ih (c + 1) _ _ (by omega) ?_
        rw [show 8 * a + (c + 1) = 8 * a + c + 1 by omega]
        refine dpt_s hX ?_
        first
          | exact dz_1 hz c28 (by omega) (by omega)
          | exact dz_2 (ed_or h.2.1 h8 h.2.2.2.1 ha (show c < 8 by omega)) hz c28 (by rw [ix2, nI_clamp (show 8 * a + c < 2 ^ 31 by omega), e119] at c46; exact c46) (by omega) (by omega)
          | exact dz_3 hz c28 (by rw [ix2, nI_clamp (show 8 * a + c < 2 ^ 31 by omega), e119] at c46; exact c46) e119
      · refine x_aload_n (q := 50) dX12_layFar_49 rfl rfl ?_
        refine q_gr (K := 27) (b := 119) (q := 53) dX12_layFar_50 rfl cl_12 (by decide) tw_1109 rfl rfl rfl ?_
        refine x_bipush (8) (q := 55) dX12_layFar_53 rfl (by decide) ?_
        refine x_iload_n (q := 56) dX12_layFar_55 rfl rfl ?_
        refine x_imul (q := 57) dX12_layFar_56 rfl ?_
        refine x_iload_n (q := 58) dX12_layFar_57 rfl rfl ?_
        refine x_iadd (q := 59) dX12_layFar_58 rfl ?_
        refine q_iald (q := 60) dX12_layFar_59 rfl rfl (by rw [ix2]; exact vp_in_nI (by omega) (by decide)) ?_
        refine x_goto (t := 66) dX12_layFar_60 (by decide) ?_
        refine q_iast (q := 67) dX12_layFar_66 rfl rfl (by rw [ix2]; exact vp_in_nI (by omega) (by decide)) (fun I3 eI3 => ?_)
        obtain ⟨v4, ev4⟩ : ∃ y_ : Int32, y_ = (nI c) + 1 := ⟨_, rfl⟩
        refine x_iinc (v := v4) (L2 := [some (.ref 100), some (.int (nI a)), some (.int v4), x3]) (q := 70) dX12_layFar_67 rfl (by decide) rfl rfl (by rw [ev4]; rfl) rfl ?_
        refine x_goto (t := 10) dX12_layFar_70 (by decide) ?_
        rw [ix2, nI_clamp (by omega)] at eI3
        rw [eI3, show v4 = nI (c + 1) by rw [ev4, nI_p1]]
        refine ih (c + 1) _ _ (by omega) ?_
        rw [show 8 * a + (c + 1) = 8 * a + c + 1 by omega]
        refine dpt_s hX ?_
        first
          | exact dz_1 hz c28 (by omega) (by omega)
          | exact dz_2 (ed_or h.2.1 h8 h.2.2.2.1 ha (show c < 8 by omega)) hz c28 (by rw [ix2, nI_clamp (show 8 * a + c < 2 ^ 31 by omega), e119] at c46; exact c46) (by omega) (by omega)
          | exact dz_3 hz c28 (by rw [ix2, nI_clamp (show 8 * a + c < 2 ^ 31 by omega), e119] at c46; exact c46) e119
    · refine x_iconst (0) (q := 32) dX12_layFar_31 rfl (by decide) ?_
      refine x_goto (t := 66) dX12_layFar_32 (by decide) ?_
      refine q_iast (q := 67) dX12_layFar_66 rfl rfl (by rw [ix2]; exact vp_in_nI (by omega) (by decide)) (fun I5 eI5 => ?_)
      obtain ⟨v6, ev6⟩ : ∃ y_ : Int32, y_ = (nI c) + 1 := ⟨_, rfl⟩
      refine x_iinc (v := v6) (L2 := [some (.ref 100), some (.int (nI a)), some (.int v6), x3]) (q := 70) dX12_layFar_67 rfl (by decide) rfl rfl (by rw [ev6]; rfl) rfl ?_
      refine x_goto (t := 10) dX12_layFar_70 (by decide) ?_
      rw [ix2, nI_clamp (by omega)] at eI5
      rw [eI5, show v6 = nI (c + 1) by rw [ev6, nI_p1]]
      refine ih (c + 1) _ _ (by omega) ?_
      rw [show 8 * a + (c + 1) = 8 * a + c + 1 by omega]
      refine dpt_s hX ?_
      first
        | exact dz_1 hz c28 (by omega) (by omega)
        | exact dz_2 (ed_or h.2.1 h8 h.2.2.2.1 ha (show c < 8 by omega)) hz c28 (by rw [ix2, nI_clamp (show 8 * a + c < 2 ^ 31 by omega), e119] at c46; exact c46) (by omega) (by omega)
        | exact dz_3 hz c28 (by rw [ix2, nI_clamp (show 8 * a + c < 2 ^ 31 by omega), e119] at c46; exact c46) e119
set_option maxRecDepth 100000 in
theorem l_fra {I : MI} {b yn wn hn sn st : Nat} (r : MR) (J : MJ) (h : RelL I b yn wn hn sn st) : ∀ (f : Nat) (a : Nat) (X : MI) (x2 x3 : Option Value) (_ : a + f = 8) (_ : dpt I (8 * a) X), Wq MX12_layFar 2 [some (.ref 100), some (.int (nI a)), x2, x3] [] X r J (Rp none (fun Y => F1 128 I Y ∧ dc 128 (fl3 yn (dz I) yn) Y) r J) := by
  have h8 : yn ≤ 8 := h.1.2.2.1
  intro f
  induction f with
  | zero =>
    intro a X x2 x3 hak hX
    refine x_iload_n (q := 3) dX12_layFar_2 rfl rfl ?_
    refine x_bipush (8) (q := 5) dX12_layFar_3 rfl (by decide) ?_
    refine x_icmp_ge (t := 79) (q := 8) dX12_layFar_5 (by decide) rfl (fun c5 => ?_) (fun c5 => absurd c5 (fun q => q (nI_le (a := 8) (by omega) (by omega))))
    refine x_iconst (0) (q := 80) dX12_layFar_79 rfl (by decide) ?_
    refine x_istore_n (L2 := [some (.ref 100), some (.int 0), x2, x3]) (q := 81) dX12_layFar_80 rfl (by decide) rfl rfl ?_
    rw [show a = 8 by omega] at hX
    exact l_fr1 r J h yn 0 X _ _ (by omega) ⟨hX.1, fun j hj => hX.2 j hj hj⟩
  | succ f ih =>
    intro a X x2 x3 hak hX
    refine x_iload_n (q := 3) dX12_layFar_2 rfl rfl ?_
    refine x_bipush (8) (q := 5) dX12_layFar_3 rfl (by decide) ?_
    refine x_icmp_ge (t := 79) (q := 8) dX12_layFar_5 (by decide) rfl (fun c5 => absurd c5 (nI_ge (b := 8) (by omega) (by decide))) (fun c5 => ?_)
    refine x_iconst (0) (q := 9) dX12_layFar_8 rfl (by decide) ?_
    refine x_istore_n (L2 := [some (.ref 100), some (.int (nI a)), some (.int 0), x3]) (q := 10) dX12_layFar_9 rfl (by decide) rfl rfl ?_
    refine l_fr0 r J h (a := a) (by omega) _ (fun Y y2 y3 hY => ?_) 8 0 X _ rfl hX
    obtain ⟨v31, ev31⟩ : ∃ y_ : Int32, y_ = (nI a) + 1 := ⟨_, rfl⟩
    refine x_iinc (v := v31) (L2 := [some (.ref 100), some (.int v31), y2, y3]) (q := 76) dX12_layFar_73 rfl (by decide) rfl rfl (by rw [ev31]; rfl) rfl ?_
    refine x_goto (t := 2) dX12_layFar_76 (by decide) ?_
    rw [show v31 = nI (a + 1) by rw [ev31, nI_p1]]
    exact ih (a + 1) Y _ _ (by omega) hY
set_option maxRecDepth 100000 in
theorem c_lfar {I : MI} {b yn wn hn sn st : Nat} (r : MR) (J : MJ) (h : RelL I b yn wn hn sn st) : Cq yX12_layFar MX12_layFar [.ref 100] I r J (Rp none (fun Y => F1 128 I Y ∧ dc 128 (fl3 yn (dz I) yn) Y) r J) := by
  refine cq_of [some (.ref 100), none, none, none] 3 (by decide +kernel) rfl rfl (Nat.le_of_ble_eq_true rfl) rfl ?_
  refine x_iconst (0) (q := 1) dX12_layFar_0 rfl (by decide) ?_
  refine x_istore_n (L2 := [some (.ref 100), some (.int 0), none, none]) (q := 2) dX12_layFar_1 rfl (by decide) rfl rfl ?_
  exact l_fra r J h 8 0 I _ _ rfl ⟨fun _ _ => rfl, fun j hj => absurd hj (by omega)⟩
