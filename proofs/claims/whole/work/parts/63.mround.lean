def MR_ (I : MI) (yn N n : Nat) (D o : Nat → Nat) (W : Nat → Nat → Bool) (w : Nat) (bo : Nat → Nat) (X : MI) : Prop := Kr I X ∧ (∀ c, c < 100 → X c = I c) ∧ dc 128 D X ∧ oc 129 n o X ∧ whM yn N W X ∧ (w ≤ n → ∀ k, k < n → X 130 k = nI (bo k))
theorem MR_no {I : MI} {yn N n : Nat} {D o : Nat → Nat} {W : Nat → Nat → Bool} {w mm : Nat} {bo : Nat → Nat} {X : MI} {ws ms : Nat} (h : MR_ I yn N n D o W w bo X) (hn : ¬ (ws < w ∨ (ws = w ∧ ms < mm))) : MR_ I yn N n D o W (uW ws ms w mm) (uB ws ms w mm o bo) X := by
  unfold uW uB
  rw [if_neg hn, if_neg hn]
  exact h
theorem MR_yes {I : MI} {yn N n : Nat} {D o : Nat → Nat} {W : Nat → Nat → Bool} {w mm : Nat} {bo : Nat → Nat} {X Y : MI} {ws ms : Nat} (h : MR_ I yn N n D o W w bo X) (hn : ws < w ∨ (ws = w ∧ ms < mm)) (hf : F1 130 X Y) (hc : ∀ k, k < n → Y 130 k = X 129 k) : MR_ I yn N n D o W (uW ws ms w mm) (uB ws ms w mm o bo) Y := by
  obtain ⟨h1, h2, h3, h4, h5, h6⟩ := h
  unfold uW uB
  rw [if_pos hn, if_pos hn]
  refine ⟨fun c j q1 q2 q3 q4 q5 => by rw [hf c q3]; exact h1 c j q1 q2 q3 q4 q5, fun c q => by rw [hf c (by omega)]; exact h2 c q, fun j hj => by rw [hf 128 (by decide)]; exact h3 j hj, fun j hj => by rw [hf 129 (by decide)]; exact h4 j hj, fun y s q1 q2 q3 => by rw [hf 131 (by decide)]; exact h5 y s q1 q2 q3, fun _ k hk => by rw [hc k hk]; exact (h4 k hk).2⟩
theorem MR_nx {I : MI} {yn N n : Nat} {D o o' : Nat → Nat} {W : Nat → Nat → Bool} {w : Nat} {bo : Nat → Nat} {X Y : MI} (h : MR_ I yn N n D o W w bo X) (hf : F1 129 X Y) (ho : oc 129 n o' Y) : MR_ I yn N n D o' W w bo Y := by
  obtain ⟨h1, h2, h3, h4, h5, h6⟩ := h
  refine ⟨fun c j q1 q2 q3 q4 q5 => by rw [hf c (fun e => q1 (by unfold scr; omega))]; exact h1 c j q1 q2 q3 q4 q5, fun c q => by rw [hf c (by omega)]; exact h2 c q, fun j hj => by rw [hf 128 (by decide)]; exact h3 j hj, ho, fun y s q1 q2 q3 => by rw [hf 131 (by decide)]; exact h5 y s q1 q2 q3, fun q k hk => by rw [hf 130 (by decide)]; exact h6 q k hk⟩
def v5 (n w : Nat) : Int32 := if w = n + 1 then -1 else nI w
theorem v5_n {n w : Nat} (h : w ≤ n) : v5 n w = nI w := if_neg (by omega)
theorem bt_a {n w ws ms mm : Nat} (hn : n ≤ 7) (hws : ws ≤ n) (hw : w ≤ n + 1) (c : v5 n w < 0) : ws < w ∨ (ws = w ∧ ms < mm) := by
  by_cases e : w = n + 1
  · left; omega
  · rw [v5_n (by omega)] at c
    exact absurd c (nI_pos (by omega))
theorem v5_ok {n w : Nat} (hn : n ≤ 7) (hw : w ≤ n + 1) (c : ¬ v5 n w < 0) : w ≤ n ∧ v5 n w = nI w := by
  by_cases e : w = n + 1
  · exact absurd (show v5 n w < 0 by unfold v5; rw [if_pos e]; decide) c
  · exact ⟨by omega, v5_n (by omega)⟩
theorem bt_b {n w ws ms mm : Nat} (hn : n ≤ 7) (hws : ws ≤ n) (hw : w ≤ n + 1) (c : ¬ v5 n w < 0) (c2 : nI ws < v5 n w) : ws < w ∨ (ws = w ∧ ms < mm) := by
  obtain ⟨h1, h2⟩ := v5_ok hn hw c
  rw [h2, nI_ltI (by omega) (by omega)] at c2
  exact Or.inl c2
theorem bt_c {n w ws ms mm : Nat} (hn : n ≤ 7) (hws : ws ≤ n) (hw : w ≤ n + 1) (hms : ms < 2 ^ 31) (hmm : mm < 2 ^ 31) (c : ¬ v5 n w < 0) (c2 : nI ws = v5 n w) (c3 : ¬ nI mm ≤ nI ms) : ws < w ∨ (ws = w ∧ ms < mm) := by
  obtain ⟨h1, h2⟩ := v5_ok hn hw c
  rw [h2, nI_eq (by omega) (by omega)] at c2
  rw [nI_leI hmm hms] at c3
  exact Or.inr ⟨c2, by omega⟩
theorem bt_n1 {n w ws ms mm : Nat} (hn : n ≤ 7) (hws : ws ≤ n) (hw : w ≤ n + 1) (c : ¬ v5 n w < 0) (c1 : ¬ nI ws < v5 n w) (c2 : ¬ nI ws = v5 n w) : ¬ (ws < w ∨ (ws = w ∧ ms < mm)) := by
  obtain ⟨h1, h2⟩ := v5_ok hn hw c
  rw [h2, nI_ltI (by omega) (by omega)] at c1
  rw [h2, nI_eq (by omega) (by omega)] at c2
  omega
theorem bt_n2 {n w ws ms mm : Nat} (hn : n ≤ 7) (hws : ws ≤ n) (hw : w ≤ n + 1) (hms : ms < 2 ^ 31) (hmm : mm < 2 ^ 31) (c : ¬ v5 n w < 0) (c1 : ¬ nI ws < v5 n w) (c3 : nI mm ≤ nI ms) : ¬ (ws < w ∨ (ws = w ∧ ms < mm)) := by
  obtain ⟨h1, h2⟩ := v5_ok hn hw c
  rw [h2, nI_ltI (by omega) (by omega)] at c1
  rw [nI_leI hmm hms] at c3
  omega
def rdV (w : Int32) (R : Nat × Nat × (Nat → Nat)) : Int32 := if w = 0 then nI R.1 else nI R.2.1
def mrF (I : MI) (n : Nat) (R : Nat × Nat × (Nat → Nat)) (Y : MI) : Prop := Kr I Y ∧ (∀ c, c < 100 → Y c = I c) ∧ Y 100 61 = nI n ∧ ∀ k, k < n → Y 130 k = nI (R.2.2 k)
theorem rn_le {D : Nat → Nat} {d : Nat} {W : Nat → Nat → Bool} {n : Nat} : ∀ f o w mm bo, rs n f o → w ≤ n + 1 → (rn D d W n f o w mm bo).1 ≤ n := by
  intro f
  induction f with
  | zero => intro o w mm bo h; exact h.elim
  | succ f ih =>
    intro o w mm bo h hw
    have q := uW_le (ms := msN D d o n) (mm := mm) (wsN_le D d o W n) hw
    unfold rn
    by_cases z : nxV n o = 0
    · rw [if_pos z]; exact q
    · rw [if_neg z]
      exact ih _ _ _ _ (h.elim (fun y => absurd y z) id) (by omega)
set_option maxRecDepth 100000 in
theorem l_cpo {N n : Nat} {much w0 a5 a6 a7 a8 a9 : Int32} (hn : n ≤ 7) {Z : MI} (r : MR) (J : MJ) (post : Option Value → MI → MR → MJ → Prop) (kx : ∀ (Y : MI) (x10 : Option Value), F1 130 Z Y → (∀ k, k < n → Y 130 k = Z 129 k) → Wq MX12_round 243 [some (.ref 100), some (.int (nI N)), some (.int much), some (.int w0), some (.int (nI n)), some (.int a5), some (.int a6), some (.int a7), some (.int a8), some (.int a9), x10] [] Y r J post) : ∀ (f : Nat) (k : Nat) (X : MI) (_ : k + f = n) (_ : F1 130 Z X) (_ : ∀ j, j < k → X 130 j = Z 129 j), Wq MX12_round 216 [some (.ref 100), some (.int (nI N)), some (.int much), some (.int w0), some (.int (nI n)), some (.int a5), some (.int a6), some (.int a7), some (.int a8), some (.int a9), some (.int (nI k))] [] X r J (post) := by
  intro f
  induction f with
  | zero =>
    intro k X hkn hF hX
    refine x_iload (q := 218) dX12_round_216 rfl rfl ?_
    refine x_iload (q := 220) dX12_round_218 rfl rfl ?_
    refine x_icmp_ge (t := 243) (q := 223) dX12_round_220 (by decide) rfl (fun c220 => ?_) (fun c220 => absurd c220 (fun q => q (nI_le (by omega) (by omega))))
    exact kx X _ hF (fun j hj => hX j (by omega))
  | succ f ih =>
    intro k X hkn hF hX
    refine x_iload (q := 218) dX12_round_216 rfl rfl ?_
    refine x_iload (q := 220) dX12_round_218 rfl rfl ?_
    refine x_icmp_ge (t := 243) (q := 223) dX12_round_220 (by decide) rfl (fun c220 => absurd c220 (nI_ge (by omega) (by omega))) (fun c220 => ?_)
    refine x_aload_n (q := 224) dX12_round_223 rfl rfl ?_
    refine q_gr (K := 60) (b := 130) (q := 227) dX12_round_224 rfl cl_12 (by decide) tw_1142 rfl rfl rfl ?_
    refine x_iload (q := 229) dX12_round_227 rfl rfl ?_
    refine x_aload_n (q := 230) dX12_round_229 rfl rfl ?_
    refine q_gr (K := 59) (b := 129) (q := 233) dX12_round_230 rfl cl_12 (by decide) tw_1141 rfl rfl rfl ?_
    refine x_iload (q := 235) dX12_round_233 rfl rfl ?_
    refine q_iald (q := 236) dX12_round_235 rfl rfl (vp_in_nI (by omega) (by decide)) ?_
    refine q_iast (q := 237) dX12_round_236 rfl rfl (vp_in_nI (by omega) (by decide)) (fun I1 eI1 => ?_)
    obtain ⟨v2, ev2⟩ : ∃ y_ : Int32, y_ = (nI k) + 1 := ⟨_, rfl⟩
    refine x_iinc (v := v2) (L2 := [some (.ref 100), some (.int (nI N)), some (.int much), some (.int w0), some (.int (nI n)), some (.int a5), some (.int a6), some (.int a7), some (.int a8), some (.int a9), some (.int v2)]) (q := 240) dX12_round_237 rfl (by decide) rfl rfl (by rw [ev2]; rfl) rfl ?_
    refine x_goto (t := 216) dX12_round_240 (by decide) ?_
    rw [nI_clamp (by omega)] at eI1
    rw [eI1, show v2 = nI (k + 1) by rw [ev2, nI_p1]]
    refine ih (k + 1) _ (by omega) hF.up (fun j hj => ?_)
    by_cases e : j = k
    · rw [e, upq, hF 129 (by decide)]
    · rw [ups e]; exact hX j (by omega)
set_option maxRecDepth 100000 in
theorem l_mr {I : MI} {b yn wn hn sn st : Nat} (r : MR) (J : MJ) (h : RelL I b yn wn hn sn st) {n d N : Nat} {D : Nat → Nat} (hDl : dl D) (hn7 : n ≤ 7) (hd : d < yn) (hdp : I b 15 = nI d) {much w0 : Int32} {W : Nat → Nat → Bool} : ∀ (f : Nat) (o : Nat → Nat) (w mm : Nat) (bo : Nat → Nat) (X : MI) (a7 : Int32) (x8 x9 x10 : Option Value) (_ : rs n f o) (_ : ∀ k, k < n → o k < yn ∧ N.testBit (o k) = true) (_ : w ≤ n + 1) (_ : mm ≤ 7000000) (_ : MR_ I yn N n D o W w bo X), Wq MX12_round 163 [some (.ref 100), some (.int (nI N)), some (.int much), some (.int w0), some (.int (nI n)), some (.int (v5 n w)), some (.int (nI mm)), some (.int a7), x8, x9, x10] [] X r J (Rp (some (.int (rdV w0 (rn D d W n f o w mm bo)))) (mrF I n (rn D d W n f o w mm bo)) r J) := by
  have h8 : yn ≤ 8 := h.1.2.2.1
  intro f
  induction f with
  | zero =>
    intro o w mm bo X a7 x8 x9 x10 hrs
    exact hrs.elim
  | succ f ih =>
    intro o w mm bo X a7 x8 x9 x10 hrs hoy hw hmm hX
    have hws := wsN_le D d o W n
    have hms := msN_le hDl (show d < 8 by omega) (fun k hk => (hX.2.2.2.1 k hk).1) n (Nat.le_refl _)
    have hw1 := uW_le (ms := msN D d o n) (mm := mm) hws hw
    have hm1 := uM_le (ws := wsN D d o W n) (w := w) (M := 7000000) (show msN D d o n ≤ 7000000 by omega) hmm
    have hdX : X 100 47 = nI d := by rw [hX.1 100 47 (by unfold scr; omega) (by decide) (by decide) (by decide) (by omega), h.2.2.2.1.2.2.2.2.1]; exact hdp
    refine x_aload_n (q := 164) dX12_round_163 rfl rfl ?_
    refine x_iload (q := 166) dX12_round_164 rfl rfl ?_
    refine q_callV (ci := 12) (N := 79) (T := TX12) (As := [.int (nI n)]) (rest := []) (q := 169) dX12_round_166 rfl okX12_whitesOf tw_1584 rfl rfl (c_who hX.2.2.1 hDl hX.2.2.2.1 hn7 h8 (by omega) hdX hoy hX.2.2.2.2.1 r J) rfl rfl (Nat.le_of_ble_eq_true rfl) ⟨by decide, by decide⟩ ⟨rfl, rfl⟩ (fun rv_ I_ r_ J_ hv_ => ?_)
    obtain ⟨a1_, a2_, a3_, a4_⟩ := hv_
    rw [a1_, a2_, a3_, a4_]
    show Wq MX12_round 169 [some (.ref 100), some (.int (nI N)), some (.int much), some (.int w0), some (.int (nI n)), some (.int (v5 n w)), some (.int (nI mm)), some (.int a7), x8, x9, x10] [.int (nI (wsN D d o W n))] X r J _
    refine x_istore (L2 := [some (.ref 100), some (.int (nI N)), some (.int much), some (.int w0), some (.int (nI n)), some (.int (v5 n w)), some (.int (nI mm)), some (.int a7), some (.int (nI (wsN D d o W n))), x9, x10]) (q := 171) dX12_round_169 rfl (by decide) rfl rfl ?_
    refine x_aload_n (q := 172) dX12_round_171 rfl rfl ?_
    refine x_iload (q := 174) dX12_round_172 rfl rfl ?_
    refine q_callV (ci := 12) (N := 79) (T := TX12) (As := [.int (nI n)]) (rest := []) (q := 177) dX12_round_174 rfl okX12_minutesOf tw_1588 rfl rfl (c_mof hX.2.2.1 hX.2.2.2.1 hn7 (by omega) hdX r J (Nat.le_refl _)) rfl rfl (Nat.le_of_ble_eq_true rfl) ⟨by decide, by decide⟩ ⟨rfl, rfl⟩ (fun rv_ I_ r_ J_ hv_ => ?_)
    obtain ⟨a1_, a2_, a3_, a4_⟩ := hv_
    rw [a1_, a2_, a3_, a4_]
    show Wq MX12_round 177 [some (.ref 100), some (.int (nI N)), some (.int much), some (.int w0), some (.int (nI n)), some (.int (v5 n w)), some (.int (nI mm)), some (.int a7), some (.int (nI (wsN D d o W n))), x9, x10] [.int (nI (msN D d o n))] X r J _
    refine x_istore (L2 := [some (.ref 100), some (.int (nI N)), some (.int much), some (.int w0), some (.int (nI n)), some (.int (v5 n w)), some (.int (nI mm)), some (.int a7), some (.int (nI (wsN D d o W n))), some (.int (nI (msN D d o n))), x10]) (q := 179) dX12_round_177 rfl (by decide) rfl rfl ?_
    refine x_iload (q := 181) dX12_round_179 rfl rfl ?_
    refine x_if_lt (t := 205) (q := 184) dX12_round_181 (by decide) rfl (fun c181 => ?_) (fun c181 => ?_)
    · have hbt : wsN D d o W n < w ∨ (wsN D d o W n = w ∧ msN D d o n < mm) := by
        first
        | exact bt_a hn7 hws hw c181
        | exact bt_b hn7 hws hw c181 c188
        | exact bt_c hn7 hws hw (by omega) (by omega) c181 cq0 cq
      refine x_iload (q := 207) dX12_round_205 rfl rfl ?_
      refine x_istore (L2 := [some (.ref 100), some (.int (nI N)), some (.int much), some (.int w0), some (.int (nI n)), some (.int (nI (wsN D d o W n))), some (.int (nI mm)), some (.int a7), some (.int (nI (wsN D d o W n))), some (.int (nI (msN D d o n))), x10]) (q := 209) dX12_round_207 rfl (by decide) rfl rfl ?_
      refine x_iload (q := 211) dX12_round_209 rfl rfl ?_
      refine x_istore (L2 := [some (.ref 100), some (.int (nI N)), some (.int much), some (.int w0), some (.int (nI n)), some (.int (nI (wsN D d o W n))), some (.int (nI (msN D d o n))), some (.int a7), some (.int (nI (wsN D d o W n))), some (.int (nI (msN D d o n))), x10]) (q := 213) dX12_round_211 rfl (by decide) rfl rfl ?_
      refine x_iconst (0) (q := 214) dX12_round_213 rfl (by decide) ?_
      refine x_istore (L2 := [some (.ref 100), some (.int (nI N)), some (.int much), some (.int w0), some (.int (nI n)), some (.int (nI (wsN D d o W n))), some (.int (nI (msN D d o n))), some (.int a7), some (.int (nI (wsN D d o W n))), some (.int (nI (msN D d o n))), some (.int 0)]) (q := 216) dX12_round_214 rfl (by decide) rfl rfl ?_
      refine l_cpo hn7 r J _ (fun Y y10 hF hC => ?_) n 0 X (by omega) (fun _ _ => rfl) (fun j hj => absurd hj (by omega))
      have hu := (MR_yes (mm := mm) (ms := (msN D d o n)) hX hbt hF hC)
      have e5 : nI (wsN D d o W n) = v5 n (uW (wsN D d o W n) (msN D d o n) w mm) := by rw [v5_n hw1]; unfold uW; rw [if_pos hbt]
      have e6 : nI (msN D d o n) = nI (uM (wsN D d o W n) (msN D d o n) w mm) := by unfold uM; rw [if_pos hbt]
      rw [e5, e6]
      refine x_aload_n (q := 244) dX12_round_243 rfl rfl ?_
      refine x_iload (q := 246) dX12_round_244 rfl rfl ?_
      refine q_callV (ci := 12) (N := 79) (T := TX12) (As := [.int (nI n)]) (rest := []) (q := 249) dX12_round_246 rfl okX12_nextOrder tw_1592 rfl rfl (c_mnx hn7 hu.2.2.2.1 r J) rfl rfl (Nat.le_of_ble_eq_true rfl) ⟨by decide, by decide⟩ ⟨rfl, rfl⟩ (fun rv_ V r_ J_ hv_ => ?_)
      obtain ⟨a1_, hV, a3_, a4_⟩ := hv_
      rw [a1_, a3_, a4_]
      show Wq MX12_round 249 [some (.ref 100), some (.int (nI N)), some (.int much), some (.int w0), some (.int (nI n)), some (.int (v5 n (uW (wsN D d o W n) (msN D d o n) w mm))), some (.int (nI (uM (wsN D d o W n) (msN D d o n) w mm))), some (.int a7), some (.int (v5 n (uW (wsN D d o W n) (msN D d o n) w mm))), some (.int (nI (uM (wsN D d o W n) (msN D d o n) w mm))), y10] [.int (nxV n o)] V r J _
      refine x_nmi (fun v61 ev61 => ?_)
      refine x_istore (L2 := [some (.ref 100), some (.int (nI N)), some (.int much), some (.int w0), some (.int (nI n)), some (.int (v5 n (uW (wsN D d o W n) (msN D d o n) w mm))), some (.int (nI (uM (wsN D d o W n) (msN D d o n) w mm))), some (.int v61), some (.int (v5 n (uW (wsN D d o W n) (msN D d o n) w mm))), some (.int (nI (uM (wsN D d o W n) (msN D d o n) w mm))), y10]) (q := 251) dX12_round_249 rfl (by decide) rfl rfl ?_
      refine x_goto (t := 158) dX12_round_251 (by decide) ?_
      refine x_iload (q := 160) dX12_round_158 rfl rfl ?_
      refine x_if_eq (t := 254) (q := 163) dX12_round_160 (by decide) rfl (fun c160 => ?_) (fun c160 => ?_)
      · refine x_aload_n (q := 255) dX12_round_254 rfl rfl ?_
        refine x_iload (q := 257) dX12_round_255 rfl rfl ?_
        refine q_pi (K := 61) (q := 260) dX12_round_257 rfl cl_12 (by decide) tw_1143 rfl rfl rfl rfl (fun I62 eI62 => ?_)
        refine x_iload_n (q := 261) dX12_round_260 rfl rfl ?_
        refine x_if_ne (t := 269) (q := 264) dX12_round_261 (by decide) rfl (fun c261 => ?_) (fun c261 => ?_)
        · refine x_iload (q := 271) dX12_round_269 rfl rfl ?_
          refine q_iret dX12_round_271 rfl ?_
          rw [ev61] at c160
          have er : rn D d W n (f + 1) o w mm bo = ((uW (wsN D d o W n) (msN D d o n) w mm), (uM (wsN D d o W n) (msN D d o n) w mm), (uB (wsN D d o W n) (msN D d o n) w mm o bo)) := if_pos c160
          rw [er, eI62]
          refine ⟨?_, ⟨fun c j q1 q2 q3 q4 q5 => ?_, fun c q => ?_, by rw [upq], fun k hk => ?_⟩, rfl, rfl⟩
          · unfold rdV
            rw [if_neg c261]
          · have hh : ¬ (c = 100 ∧ j = 61) := q5
            by_cases e : c = 100
            · subst e
              rw [ups (fun z => q5 ⟨rfl, z⟩), hV.1 100 (by decide)]
              exact hu.1 100 j q1 q2 q3 q4 q5
            · rw [upc e, hV.1 c (fun e => q1 (by unfold scr; omega))]
              exact hu.1 c j q1 q2 q3 q4 q5
          · rw [upc (by omega), hV.1 c (by omega)]; exact hu.2.1 c q
          · rw [upc (by decide), hV.1 130 (by decide)]; exact hu.2.2.2.2.2 hw1 k hk
        · refine x_iload (q := 266) dX12_round_264 rfl rfl ?_
          refine x_goto (t := 271) dX12_round_266 (by decide) ?_
          refine q_iret dX12_round_271 rfl ?_
          rw [ev61] at c160
          have er : rn D d W n (f + 1) o w mm bo = ((uW (wsN D d o W n) (msN D d o n) w mm), (uM (wsN D d o W n) (msN D d o n) w mm), (uB (wsN D d o W n) (msN D d o n) w mm o bo)) := if_pos c160
          rw [er, eI62]
          refine ⟨?_, ⟨fun c j q1 q2 q3 q4 q5 => ?_, fun c q => ?_, by rw [upq], fun k hk => ?_⟩, rfl, rfl⟩
          · unfold rdV
            rw [if_pos c261, v5_n hw1]
          · have hh : ¬ (c = 100 ∧ j = 61) := q5
            by_cases e : c = 100
            · subst e
              rw [ups (fun z => q5 ⟨rfl, z⟩), hV.1 100 (by decide)]
              exact hu.1 100 j q1 q2 q3 q4 q5
            · rw [upc e, hV.1 c (fun e => q1 (by unfold scr; omega))]
              exact hu.1 c j q1 q2 q3 q4 q5
          · rw [upc (by omega), hV.1 c (by omega)]; exact hu.2.1 c q
          · rw [upc (by decide), hV.1 130 (by decide)]; exact hu.2.2.2.2.2 hw1 k hk
      · rw [ev61] at c160
        have er : rn D d W n (f + 1) o w mm bo = rn D d W n f (nxO n o) (uW (wsN D d o W n) (msN D d o n) w mm) (uM (wsN D d o W n) (msN D d o n) w mm) (uB (wsN D d o W n) (msN D d o n) w mm o bo) := if_neg c160
        rw [er]
        exact ih _ _ _ _ _ _ _ _ _ (hrs.elim (fun z => absurd z c160) id) (nxO_p (p := fun x => x < yn ∧ N.testBit x = true) hoy) (by omega) hm1 (MR_nx hu hV.1 hV.2)
    · refine x_iload (q := 186) dX12_round_184 rfl rfl ?_
      refine x_iload (q := 188) dX12_round_186 rfl rfl ?_
      refine x_icmp_lt (t := 205) (q := 191) dX12_round_188 (by decide) rfl (fun c188 => ?_) (fun c188 => ?_)
      · have hbt : wsN D d o W n < w ∨ (wsN D d o W n = w ∧ msN D d o n < mm) := by
          first
          | exact bt_a hn7 hws hw c181
          | exact bt_b hn7 hws hw c181 c188
          | exact bt_c hn7 hws hw (by omega) (by omega) c181 cq0 cq
        refine x_iload (q := 207) dX12_round_205 rfl rfl ?_
        refine x_istore (L2 := [some (.ref 100), some (.int (nI N)), some (.int much), some (.int w0), some (.int (nI n)), some (.int (nI (wsN D d o W n))), some (.int (nI mm)), some (.int a7), some (.int (nI (wsN D d o W n))), some (.int (nI (msN D d o n))), x10]) (q := 209) dX12_round_207 rfl (by decide) rfl rfl ?_
        refine x_iload (q := 211) dX12_round_209 rfl rfl ?_
        refine x_istore (L2 := [some (.ref 100), some (.int (nI N)), some (.int much), some (.int w0), some (.int (nI n)), some (.int (nI (wsN D d o W n))), some (.int (nI (msN D d o n))), some (.int a7), some (.int (nI (wsN D d o W n))), some (.int (nI (msN D d o n))), x10]) (q := 213) dX12_round_211 rfl (by decide) rfl rfl ?_
        refine x_iconst (0) (q := 214) dX12_round_213 rfl (by decide) ?_
        refine x_istore (L2 := [some (.ref 100), some (.int (nI N)), some (.int much), some (.int w0), some (.int (nI n)), some (.int (nI (wsN D d o W n))), some (.int (nI (msN D d o n))), some (.int a7), some (.int (nI (wsN D d o W n))), some (.int (nI (msN D d o n))), some (.int 0)]) (q := 216) dX12_round_214 rfl (by decide) rfl rfl ?_
        refine l_cpo hn7 r J _ (fun Y y10 hF hC => ?_) n 0 X (by omega) (fun _ _ => rfl) (fun j hj => absurd hj (by omega))
        have hu := (MR_yes (mm := mm) (ms := (msN D d o n)) hX hbt hF hC)
        have e5 : nI (wsN D d o W n) = v5 n (uW (wsN D d o W n) (msN D d o n) w mm) := by rw [v5_n hw1]; unfold uW; rw [if_pos hbt]
        have e6 : nI (msN D d o n) = nI (uM (wsN D d o W n) (msN D d o n) w mm) := by unfold uM; rw [if_pos hbt]
        rw [e5, e6]
        refine x_aload_n (q := 244) dX12_round_243 rfl rfl ?_
        refine x_iload (q := 246) dX12_round_244 rfl rfl ?_
        refine q_callV (ci := 12) (N := 79) (T := TX12) (As := [.int (nI n)]) (rest := []) (q := 249) dX12_round_246 rfl okX12_nextOrder tw_1592 rfl rfl (c_mnx hn7 hu.2.2.2.1 r J) rfl rfl (Nat.le_of_ble_eq_true rfl) ⟨by decide, by decide⟩ ⟨rfl, rfl⟩ (fun rv_ V r_ J_ hv_ => ?_)
        obtain ⟨a1_, hV, a3_, a4_⟩ := hv_
        rw [a1_, a3_, a4_]
        show Wq MX12_round 249 [some (.ref 100), some (.int (nI N)), some (.int much), some (.int w0), some (.int (nI n)), some (.int (v5 n (uW (wsN D d o W n) (msN D d o n) w mm))), some (.int (nI (uM (wsN D d o W n) (msN D d o n) w mm))), some (.int a7), some (.int (v5 n (uW (wsN D d o W n) (msN D d o n) w mm))), some (.int (nI (uM (wsN D d o W n) (msN D d o n) w mm))), y10] [.int (nxV n o)] V r J _
        refine x_nmi (fun v61 ev61 => ?_)
        refine x_istore (L2 := [some (.ref 100), some (.int (nI N)), some (.int much), some (.int w0), some (.int (nI n)), some (.int (v5 n (uW (wsN D d o W n) (msN D d o n) w mm))), some (.int (nI (uM (wsN D d o W n) (msN D d o n) w mm))), some (.int v61), some (.int (v5 n (uW (wsN D d o W n) (msN D d o n) w mm))), some (.int (nI (uM (wsN D d o W n) (msN D d o n) w mm))), y10]) (q := 251) dX12_round_249 rfl (by decide) rfl rfl ?_
        refine x_goto (t := 158) dX12_round_251 (by decide) ?_
        refine x_iload (q := 160) dX12_round_158 rfl rfl ?_
        refine x_if_eq (t := 254) (q := 163) dX12_round_160 (by decide) rfl (fun c160 => ?_) (fun c160 => ?_)
        · refine x_aload_n (q := 255) dX12_round_254 rfl rfl ?_
          refine x_iload (q := 257) dX12_round_255 rfl rfl ?_
          refine q_pi (K := 61) (q := 260) dX12_round_257 rfl cl_12 (by decide) tw_1143 rfl rfl rfl rfl (fun I62 eI62 => ?_)
          refine x_iload_n (q := 261) dX12_round_260 rfl rfl ?_
          refine x_if_ne (t := 269) (q := 264) dX12_round_261 (by decide) rfl (fun c261 => ?_) (fun c261 => ?_)
          · refine x_iload (q := 271) dX12_round_269 rfl rfl ?_
            refine q_iret dX12_round_271 rfl ?_
            rw [ev61] at c160
            have er : rn D d W n (f + 1) o w mm bo = ((uW (wsN D d o W n) (msN D d o n) w mm), (uM (wsN D d o W n) (msN D d o n) w mm), (uB (wsN D d o W n) (msN D d o n) w mm o bo)) := if_pos c160
            rw [er, eI62]
            refine ⟨?_, ⟨fun c j q1 q2 q3 q4 q5 => ?_, fun c q => ?_, by rw [upq], fun k hk => ?_⟩, rfl, rfl⟩
            · unfold rdV
              rw [if_neg c261]
            · have hh : ¬ (c = 100 ∧ j = 61) := q5
              by_cases e : c = 100
              · subst e
                rw [ups (fun z => q5 ⟨rfl, z⟩), hV.1 100 (by decide)]
                exact hu.1 100 j q1 q2 q3 q4 q5
              · rw [upc e, hV.1 c (fun e => q1 (by unfold scr; omega))]
                exact hu.1 c j q1 q2 q3 q4 q5
            · rw [upc (by omega), hV.1 c (by omega)]; exact hu.2.1 c q
            · rw [upc (by decide), hV.1 130 (by decide)]; exact hu.2.2.2.2.2 hw1 k hk
          · refine x_iload (q := 266) dX12_round_264 rfl rfl ?_
            refine x_goto (t := 271) dX12_round_266 (by decide) ?_
            refine q_iret dX12_round_271 rfl ?_
            rw [ev61] at c160
            have er : rn D d W n (f + 1) o w mm bo = ((uW (wsN D d o W n) (msN D d o n) w mm), (uM (wsN D d o W n) (msN D d o n) w mm), (uB (wsN D d o W n) (msN D d o n) w mm o bo)) := if_pos c160
            rw [er, eI62]
            refine ⟨?_, ⟨fun c j q1 q2 q3 q4 q5 => ?_, fun c q => ?_, by rw [upq], fun k hk => ?_⟩, rfl, rfl⟩
            · unfold rdV
              rw [if_pos c261, v5_n hw1]
            · have hh : ¬ (c = 100 ∧ j = 61) := q5
              by_cases e : c = 100
              · subst e
                rw [ups (fun z => q5 ⟨rfl, z⟩), hV.1 100 (by decide)]
                exact hu.1 100 j q1 q2 q3 q4 q5
              · rw [upc e, hV.1 c (fun e => q1 (by unfold scr; omega))]
                exact hu.1 c j q1 q2 q3 q4 q5
            · rw [upc (by omega), hV.1 c (by omega)]; exact hu.2.1 c q
            · rw [upc (by decide), hV.1 130 (by decide)]; exact hu.2.2.2.2.2 hw1 k hk
        · rw [ev61] at c160
          have er : rn D d W n (f + 1) o w mm bo = rn D d W n f (nxO n o) (uW (wsN D d o W n) (msN D d o n) w mm) (uM (wsN D d o W n) (msN D d o n) w mm) (uB (wsN D d o W n) (msN D d o n) w mm o bo) := if_neg c160
          rw [er]
          exact ih _ _ _ _ _ _ _ _ _ (hrs.elim (fun z => absurd z c160) id) (nxO_p (p := fun x => x < yn ∧ N.testBit x = true) hoy) (by omega) hm1 (MR_nx hu hV.1 hV.2)
      · refine x_iload (q := 193) dX12_round_191 rfl rfl ?_
        refine x_iload (q := 195) dX12_round_193 rfl rfl ?_
        refine x_icmp_ne (t := 243) (q := 198) dX12_round_195 (by decide) rfl (fun cq => ?_) (fun cq => ?_)
        · have hnb : ¬ (wsN D d o W n < w ∨ (wsN D d o W n = w ∧ msN D d o n < mm)) := by
            first
            | exact bt_n2 hn7 hws hw (by omega) (by omega) c181 c188 cq
            | exact bt_n1 hn7 hws hw c181 c188 cq
          have hu := (MR_no (mm := mm) (ms := (msN D d o n)) hX hnb)
          have e5 : v5 n w = v5 n (uW (wsN D d o W n) (msN D d o n) w mm) := by unfold uW; rw [if_neg hnb]
          have e6 : nI mm = nI (uM (wsN D d o W n) (msN D d o n) w mm) := by unfold uM; rw [if_neg hnb]
          rw [e5, e6]
          refine x_aload_n (q := 244) dX12_round_243 rfl rfl ?_
          refine x_iload (q := 246) dX12_round_244 rfl rfl ?_
          refine q_callV (ci := 12) (N := 79) (T := TX12) (As := [.int (nI n)]) (rest := []) (q := 249) dX12_round_246 rfl okX12_nextOrder tw_1592 rfl rfl (c_mnx hn7 hu.2.2.2.1 r J) rfl rfl (Nat.le_of_ble_eq_true rfl) ⟨by decide, by decide⟩ ⟨rfl, rfl⟩ (fun rv_ V r_ J_ hv_ => ?_)
          obtain ⟨a1_, hV, a3_, a4_⟩ := hv_
          rw [a1_, a3_, a4_]
          show Wq MX12_round 249 [some (.ref 100), some (.int (nI N)), some (.int much), some (.int w0), some (.int (nI n)), some (.int (v5 n (uW (wsN D d o W n) (msN D d o n) w mm))), some (.int (nI (uM (wsN D d o W n) (msN D d o n) w mm))), some (.int a7), some (.int (nI (wsN D d o W n))), some (.int (nI (msN D d o n))), x10] [.int (nxV n o)] V r J _
          refine x_nmi (fun v61 ev61 => ?_)
          refine x_istore (L2 := [some (.ref 100), some (.int (nI N)), some (.int much), some (.int w0), some (.int (nI n)), some (.int (v5 n (uW (wsN D d o W n) (msN D d o n) w mm))), some (.int (nI (uM (wsN D d o W n) (msN D d o n) w mm))), some (.int v61), some (.int (nI (wsN D d o W n))), some (.int (nI (msN D d o n))), x10]) (q := 251) dX12_round_249 rfl (by decide) rfl rfl ?_
          refine x_goto (t := 158) dX12_round_251 (by decide) ?_
          refine x_iload (q := 160) dX12_round_158 rfl rfl ?_
          refine x_if_eq (t := 254) (q := 163) dX12_round_160 (by decide) rfl (fun c160 => ?_) (fun c160 => ?_)
          · refine x_aload_n (q := 255) dX12_round_254 rfl rfl ?_
            refine x_iload (q := 257) dX12_round_255 rfl rfl ?_
            refine q_pi (K := 61) (q := 260) dX12_round_257 rfl cl_12 (by decide) tw_1143 rfl rfl rfl rfl (fun I62 eI62 => ?_)
            refine x_iload_n (q := 261) dX12_round_260 rfl rfl ?_
            refine x_if_ne (t := 269) (q := 264) dX12_round_261 (by decide) rfl (fun c261 => ?_) (fun c261 => ?_)
            · refine x_iload (q := 271) dX12_round_269 rfl rfl ?_
              refine q_iret dX12_round_271 rfl ?_
              rw [ev61] at c160
              have er : rn D d W n (f + 1) o w mm bo = ((uW (wsN D d o W n) (msN D d o n) w mm), (uM (wsN D d o W n) (msN D d o n) w mm), (uB (wsN D d o W n) (msN D d o n) w mm o bo)) := if_pos c160
              rw [er, eI62]
              refine ⟨?_, ⟨fun c j q1 q2 q3 q4 q5 => ?_, fun c q => ?_, by rw [upq], fun k hk => ?_⟩, rfl, rfl⟩
              · unfold rdV
                rw [if_neg c261]
              · have hh : ¬ (c = 100 ∧ j = 61) := q5
                by_cases e : c = 100
                · subst e
                  rw [ups (fun z => q5 ⟨rfl, z⟩), hV.1 100 (by decide)]
                  exact hu.1 100 j q1 q2 q3 q4 q5
                · rw [upc e, hV.1 c (fun e => q1 (by unfold scr; omega))]
                  exact hu.1 c j q1 q2 q3 q4 q5
              · rw [upc (by omega), hV.1 c (by omega)]; exact hu.2.1 c q
              · rw [upc (by decide), hV.1 130 (by decide)]; exact hu.2.2.2.2.2 hw1 k hk
            · refine x_iload (q := 266) dX12_round_264 rfl rfl ?_
              refine x_goto (t := 271) dX12_round_266 (by decide) ?_
              refine q_iret dX12_round_271 rfl ?_
              rw [ev61] at c160
              have er : rn D d W n (f + 1) o w mm bo = ((uW (wsN D d o W n) (msN D d o n) w mm), (uM (wsN D d o W n) (msN D d o n) w mm), (uB (wsN D d o W n) (msN D d o n) w mm o bo)) := if_pos c160
              rw [er, eI62]
              refine ⟨?_, ⟨fun c j q1 q2 q3 q4 q5 => ?_, fun c q => ?_, by rw [upq], fun k hk => ?_⟩, rfl, rfl⟩
              · unfold rdV
                rw [if_pos c261, v5_n hw1]
              · have hh : ¬ (c = 100 ∧ j = 61) := q5
                by_cases e : c = 100
                · subst e
                  rw [ups (fun z => q5 ⟨rfl, z⟩), hV.1 100 (by decide)]
                  exact hu.1 100 j q1 q2 q3 q4 q5
                · rw [upc e, hV.1 c (fun e => q1 (by unfold scr; omega))]
                  exact hu.1 c j q1 q2 q3 q4 q5
              · rw [upc (by omega), hV.1 c (by omega)]; exact hu.2.1 c q
              · rw [upc (by decide), hV.1 130 (by decide)]; exact hu.2.2.2.2.2 hw1 k hk
          · rw [ev61] at c160
            have er : rn D d W n (f + 1) o w mm bo = rn D d W n f (nxO n o) (uW (wsN D d o W n) (msN D d o n) w mm) (uM (wsN D d o W n) (msN D d o n) w mm) (uB (wsN D d o W n) (msN D d o n) w mm o bo) := if_neg c160
            rw [er]
            exact ih _ _ _ _ _ _ _ _ _ (hrs.elim (fun z => absurd z c160) id) (nxO_p (p := fun x => x < yn ∧ N.testBit x = true) hoy) (by omega) hm1 (MR_nx hu hV.1 hV.2)
        · have cq0 := cq
          refine x_iload (q := 200) dX12_round_198 rfl rfl ?_
          refine x_iload (q := 202) dX12_round_200 rfl rfl ?_
          refine x_icmp_ge (t := 243) (q := 205) dX12_round_202 (by decide) rfl (fun cq => ?_) (fun cq => ?_)
          · have hnb : ¬ (wsN D d o W n < w ∨ (wsN D d o W n = w ∧ msN D d o n < mm)) := by
              first
              | exact bt_n2 hn7 hws hw (by omega) (by omega) c181 c188 cq
              | exact bt_n1 hn7 hws hw c181 c188 cq
            have hu := (MR_no (mm := mm) (ms := (msN D d o n)) hX hnb)
            have e5 : v5 n w = v5 n (uW (wsN D d o W n) (msN D d o n) w mm) := by unfold uW; rw [if_neg hnb]
            have e6 : nI mm = nI (uM (wsN D d o W n) (msN D d o n) w mm) := by unfold uM; rw [if_neg hnb]
            rw [e5, e6]
            refine x_aload_n (q := 244) dX12_round_243 rfl rfl ?_
            refine x_iload (q := 246) dX12_round_244 rfl rfl ?_
            refine q_callV (ci := 12) (N := 79) (T := TX12) (As := [.int (nI n)]) (rest := []) (q := 249) dX12_round_246 rfl okX12_nextOrder tw_1592 rfl rfl (c_mnx hn7 hu.2.2.2.1 r J) rfl rfl (Nat.le_of_ble_eq_true rfl) ⟨by decide, by decide⟩ ⟨rfl, rfl⟩ (fun rv_ V r_ J_ hv_ => ?_)
            obtain ⟨a1_, hV, a3_, a4_⟩ := hv_
            rw [a1_, a3_, a4_]
            show Wq MX12_round 249 [some (.ref 100), some (.int (nI N)), some (.int much), some (.int w0), some (.int (nI n)), some (.int (v5 n (uW (wsN D d o W n) (msN D d o n) w mm))), some (.int (nI (uM (wsN D d o W n) (msN D d o n) w mm))), some (.int a7), some (.int (nI (wsN D d o W n))), some (.int (nI (msN D d o n))), x10] [.int (nxV n o)] V r J _
            refine x_nmi (fun v61 ev61 => ?_)
            refine x_istore (L2 := [some (.ref 100), some (.int (nI N)), some (.int much), some (.int w0), some (.int (nI n)), some (.int (v5 n (uW (wsN D d o W n) (msN D d o n) w mm))), some (.int (nI (uM (wsN D d o W n) (msN D d o n) w mm))), some (.int v61), some (.int (nI (wsN D d o W n))), some (.int (nI (msN D d o n))), x10]) (q := 251) dX12_round_249 rfl (by decide) rfl rfl ?_
            refine x_goto (t := 158) dX12_round_251 (by decide) ?_
            refine x_iload (q := 160) dX12_round_158 rfl rfl ?_
            refine x_if_eq (t := 254) (q := 163) dX12_round_160 (by decide) rfl (fun c160 => ?_) (fun c160 => ?_)
            · refine x_aload_n (q := 255) dX12_round_254 rfl rfl ?_
              refine x_iload (q := 257) dX12_round_255 rfl rfl ?_
              refine q_pi (K := 61) (q := 260) dX12_round_257 rfl cl_12 (by decide) tw_1143 rfl rfl rfl rfl (fun I62 eI62 => ?_)
              refine x_iload_n (q := 261) dX12_round_260 rfl rfl ?_
              refine x_if_ne (t := 269) (q := 264) dX12_round_261 (by decide) rfl (fun c261 => ?_) (fun c261 => ?_)
              · refine x_iload (q := 271) dX12_round_269 rfl rfl ?_
                refine q_iret dX12_round_271 rfl ?_
                rw [ev61] at c160
                have er : rn D d W n (f + 1) o w mm bo = ((uW (wsN D d o W n) (msN D d o n) w mm), (uM (wsN D d o W n) (msN D d o n) w mm), (uB (wsN D d o W n) (msN D d o n) w mm o bo)) := if_pos c160
                rw [er, eI62]
                refine ⟨?_, ⟨fun c j q1 q2 q3 q4 q5 => ?_, fun c q => ?_, by rw [upq], fun k hk => ?_⟩, rfl, rfl⟩
                · unfold rdV
                  rw [if_neg c261]
                · have hh : ¬ (c = 100 ∧ j = 61) := q5
                  by_cases e : c = 100
                  · subst e
                    rw [ups (fun z => q5 ⟨rfl, z⟩), hV.1 100 (by decide)]
                    exact hu.1 100 j q1 q2 q3 q4 q5
                  · rw [upc e, hV.1 c (fun e => q1 (by unfold scr; omega))]
                    exact hu.1 c j q1 q2 q3 q4 q5
                · rw [upc (by omega), hV.1 c (by omega)]; exact hu.2.1 c q
                · rw [upc (by decide), hV.1 130 (by decide)]; exact hu.2.2.2.2.2 hw1 k hk
              · refine x_iload (q := 266) dX12_round_264 rfl rfl ?_
                refine x_goto (t := 271) dX12_round_266 (by decide) ?_
                refine q_iret dX12_round_271 rfl ?_
                rw [ev61] at c160
                have er : rn D d W n (f + 1) o w mm bo = ((uW (wsN D d o W n) (msN D d o n) w mm), (uM (wsN D d o W n) (msN D d o n) w mm), (uB (wsN D d o W n) (msN D d o n) w mm o bo)) := if_pos c160
                rw [er, eI62]
                refine ⟨?_, ⟨fun c j q1 q2 q3 q4 q5 => ?_, fun c q => ?_, by rw [upq], fun k hk => ?_⟩, rfl, rfl⟩
                · unfold rdV
                  rw [if_pos c261, v5_n hw1]
                · have hh : ¬ (c = 100 ∧ j = 61) := q5
                  by_cases e : c = 100
                  · subst e
                    rw [ups (fun z => q5 ⟨rfl, z⟩), hV.1 100 (by decide)]
                    exact hu.1 100 j q1 q2 q3 q4 q5
                  · rw [upc e, hV.1 c (fun e => q1 (by unfold scr; omega))]
                    exact hu.1 c j q1 q2 q3 q4 q5
                · rw [upc (by omega), hV.1 c (by omega)]; exact hu.2.1 c q
                · rw [upc (by decide), hV.1 130 (by decide)]; exact hu.2.2.2.2.2 hw1 k hk
            · rw [ev61] at c160
              have er : rn D d W n (f + 1) o w mm bo = rn D d W n f (nxO n o) (uW (wsN D d o W n) (msN D d o n) w mm) (uM (wsN D d o W n) (msN D d o n) w mm) (uB (wsN D d o W n) (msN D d o n) w mm o bo) := if_neg c160
              rw [er]
              exact ih _ _ _ _ _ _ _ _ _ (hrs.elim (fun z => absurd z c160) id) (nxO_p (p := fun x => x < yn ∧ N.testBit x = true) hoy) (by omega) hm1 (MR_nx hu hV.1 hV.2)
          · have hbt : wsN D d o W n < w ∨ (wsN D d o W n = w ∧ msN D d o n < mm) := by
              first
              | exact bt_a hn7 hws hw c181
              | exact bt_b hn7 hws hw c181 c188
              | exact bt_c hn7 hws hw (by omega) (by omega) c181 cq0 cq
            refine x_iload (q := 207) dX12_round_205 rfl rfl ?_
            refine x_istore (L2 := [some (.ref 100), some (.int (nI N)), some (.int much), some (.int w0), some (.int (nI n)), some (.int (nI (wsN D d o W n))), some (.int (nI mm)), some (.int a7), some (.int (nI (wsN D d o W n))), some (.int (nI (msN D d o n))), x10]) (q := 209) dX12_round_207 rfl (by decide) rfl rfl ?_
            refine x_iload (q := 211) dX12_round_209 rfl rfl ?_
            refine x_istore (L2 := [some (.ref 100), some (.int (nI N)), some (.int much), some (.int w0), some (.int (nI n)), some (.int (nI (wsN D d o W n))), some (.int (nI (msN D d o n))), some (.int a7), some (.int (nI (wsN D d o W n))), some (.int (nI (msN D d o n))), x10]) (q := 213) dX12_round_211 rfl (by decide) rfl rfl ?_
            refine x_iconst (0) (q := 214) dX12_round_213 rfl (by decide) ?_
            refine x_istore (L2 := [some (.ref 100), some (.int (nI N)), some (.int much), some (.int w0), some (.int (nI n)), some (.int (nI (wsN D d o W n))), some (.int (nI (msN D d o n))), some (.int a7), some (.int (nI (wsN D d o W n))), some (.int (nI (msN D d o n))), some (.int 0)]) (q := 216) dX12_round_214 rfl (by decide) rfl rfl ?_
            refine l_cpo hn7 r J _ (fun Y y10 hF hC => ?_) n 0 X (by omega) (fun _ _ => rfl) (fun j hj => absurd hj (by omega))
            have hu := (MR_yes (mm := mm) (ms := (msN D d o n)) hX hbt hF hC)
            have e5 : nI (wsN D d o W n) = v5 n (uW (wsN D d o W n) (msN D d o n) w mm) := by rw [v5_n hw1]; unfold uW; rw [if_pos hbt]
            have e6 : nI (msN D d o n) = nI (uM (wsN D d o W n) (msN D d o n) w mm) := by unfold uM; rw [if_pos hbt]
            rw [e5, e6]
            refine x_aload_n (q := 244) dX12_round_243 rfl rfl ?_
            refine x_iload (q := 246) dX12_round_244 rfl rfl ?_
            refine q_callV (ci := 12) (N := 79) (T := TX12) (As := [.int (nI n)]) (rest := []) (q := 249) dX12_round_246 rfl okX12_nextOrder tw_1592 rfl rfl (c_mnx hn7 hu.2.2.2.1 r J) rfl rfl (Nat.le_of_ble_eq_true rfl) ⟨by decide, by decide⟩ ⟨rfl, rfl⟩ (fun rv_ V r_ J_ hv_ => ?_)
            obtain ⟨a1_, hV, a3_, a4_⟩ := hv_
            rw [a1_, a3_, a4_]
            show Wq MX12_round 249 [some (.ref 100), some (.int (nI N)), some (.int much), some (.int w0), some (.int (nI n)), some (.int (v5 n (uW (wsN D d o W n) (msN D d o n) w mm))), some (.int (nI (uM (wsN D d o W n) (msN D d o n) w mm))), some (.int a7), some (.int (v5 n (uW (wsN D d o W n) (msN D d o n) w mm))), some (.int (nI (uM (wsN D d o W n) (msN D d o n) w mm))), y10] [.int (nxV n o)] V r J _
            refine x_nmi (fun v61 ev61 => ?_)
            refine x_istore (L2 := [some (.ref 100), some (.int (nI N)), some (.int much), some (.int w0), some (.int (nI n)), some (.int (v5 n (uW (wsN D d o W n) (msN D d o n) w mm))), some (.int (nI (uM (wsN D d o W n) (msN D d o n) w mm))), some (.int v61), some (.int (v5 n (uW (wsN D d o W n) (msN D d o n) w mm))), some (.int (nI (uM (wsN D d o W n) (msN D d o n) w mm))), y10]) (q := 251) dX12_round_249 rfl (by decide) rfl rfl ?_
            refine x_goto (t := 158) dX12_round_251 (by decide) ?_
            refine x_iload (q := 160) dX12_round_158 rfl rfl ?_
            refine x_if_eq (t := 254) (q := 163) dX12_round_160 (by decide) rfl (fun c160 => ?_) (fun c160 => ?_)
            · refine x_aload_n (q := 255) dX12_round_254 rfl rfl ?_
              refine x_iload (q := 257) dX12_round_255 rfl rfl ?_
              refine q_pi (K := 61) (q := 260) dX12_round_257 rfl cl_12 (by decide) tw_1143 rfl rfl rfl rfl (fun I62 eI62 => ?_)
              refine x_iload_n (q := 261) dX12_round_260 rfl rfl ?_
              refine x_if_ne (t := 269) (q := 264) dX12_round_261 (by decide) rfl (fun c261 => ?_) (fun c261 => ?_)
              · refine x_iload (q := 271) dX12_round_269 rfl rfl ?_
                refine q_iret dX12_round_271 rfl ?_
                rw [ev61] at c160
                have er : rn D d W n (f + 1) o w mm bo = ((uW (wsN D d o W n) (msN D d o n) w mm), (uM (wsN D d o W n) (msN D d o n) w mm), (uB (wsN D d o W n) (msN D d o n) w mm o bo)) := if_pos c160
                rw [er, eI62]
                refine ⟨?_, ⟨fun c j q1 q2 q3 q4 q5 => ?_, fun c q => ?_, by rw [upq], fun k hk => ?_⟩, rfl, rfl⟩
                · unfold rdV
                  rw [if_neg c261]
                · have hh : ¬ (c = 100 ∧ j = 61) := q5
                  by_cases e : c = 100
                  · subst e
                    rw [ups (fun z => q5 ⟨rfl, z⟩), hV.1 100 (by decide)]
                    exact hu.1 100 j q1 q2 q3 q4 q5
                  · rw [upc e, hV.1 c (fun e => q1 (by unfold scr; omega))]
                    exact hu.1 c j q1 q2 q3 q4 q5
                · rw [upc (by omega), hV.1 c (by omega)]; exact hu.2.1 c q
                · rw [upc (by decide), hV.1 130 (by decide)]; exact hu.2.2.2.2.2 hw1 k hk
              · refine x_iload (q := 266) dX12_round_264 rfl rfl ?_
                refine x_goto (t := 271) dX12_round_266 (by decide) ?_
                refine q_iret dX12_round_271 rfl ?_
                rw [ev61] at c160
                have er : rn D d W n (f + 1) o w mm bo = ((uW (wsN D d o W n) (msN D d o n) w mm), (uM (wsN D d o W n) (msN D d o n) w mm), (uB (wsN D d o W n) (msN D d o n) w mm o bo)) := if_pos c160
                rw [er, eI62]
                refine ⟨?_, ⟨fun c j q1 q2 q3 q4 q5 => ?_, fun c q => ?_, by rw [upq], fun k hk => ?_⟩, rfl, rfl⟩
                · unfold rdV
                  rw [if_pos c261, v5_n hw1]
                · have hh : ¬ (c = 100 ∧ j = 61) := q5
                  by_cases e : c = 100
                  · subst e
                    rw [ups (fun z => q5 ⟨rfl, z⟩), hV.1 100 (by decide)]
                    exact hu.1 100 j q1 q2 q3 q4 q5
                  · rw [upc e, hV.1 c (fun e => q1 (by unfold scr; omega))]
                    exact hu.1 c j q1 q2 q3 q4 q5
                · rw [upc (by omega), hV.1 c (by omega)]; exact hu.2.1 c q
                · rw [upc (by decide), hV.1 130 (by decide)]; exact hu.2.2.2.2.2 hw1 k hk
            · rw [ev61] at c160
              have er : rn D d W n (f + 1) o w mm bo = rn D d W n f (nxO n o) (uW (wsN D d o W n) (msN D d o n) w mm) (uM (wsN D d o W n) (msN D d o n) w mm) (uB (wsN D d o W n) (msN D d o n) w mm o bo) := if_neg c160
              rw [er]
              exact ih _ _ _ _ _ _ _ _ _ (hrs.elim (fun z => absurd z c160) id) (nxO_p (p := fun x => x < yn ∧ N.testBit x = true) hoy) (by omega) hm1 (MR_nx hu hV.1 hV.2)
