theorem g77c {I : MI} {G : GT} {c : Nat} (h1 : c ≠ 77) (h2 : c ≠ 78) : gPut I 77 G c = I c := by
  funext j
  exact gPut_o _ _ _ _ _ h1 h2
theorem mPc {I : MI} {G : GT} {c : Nat} (h1 : c ≠ 125) (h2 : c ≠ 100) : mPut I G c = I c := by
  funext j
  exact mPut_o _ _ _ _ h1 h2
theorem mP100 {I : MI} {G : GT} {j : Nat} (h : j < 49 ∨ 53 ≤ j) : mPut I G 100 j = I 100 j := by
  rcases h with h | h
  · exact mPut_g _ _ _ h
  · exact mPut_h _ _ _ h
theorem RelL_77 {I : MI} {b yn wn hn sn st : Nat} (G : GT) (hb : b ≤ 28) (h : RelL I b yn wn hn sn st) : RelL (gPut I 77 G) b yn wn hn sn st := by
  refine RelL_c (fun c q1 q2 q3 => g77c ?_ ?_) (by rw [g77c (by decide) (by decide)]) (fun j _ => by rw [g77c (by decide) (by decide)]) hb h
  · unfold regL regM at q3
    omega
  · unfold regL regM at q3
    omega
theorem RelL_m {I : MI} {b yn wn hn sn st : Nat} (G : GT) (hb : b ≤ 28) (h : RelL I b yn wn hn sn st) : RelL (mPut I G) b yn wn hn sn st := by
  refine RelL_c (fun c q1 q2 q3 => mPc ?_ q2) (by rw [mPc (by decide) (by decide)]) (fun j hj => mP100 (by omega)) hb h
  unfold regL regM at q3
  omega
theorem RelR_c {I I' : MI} (h0 : I' 0 1 = I 0 1) (h011 : I' 0 11 = I 0 11) (h1 : I' 1 = I 1) (h54 : I' 54 = I 54) (h80 : I' 80 4 = I 80 4) (h84 : I' 84 = I 84) (h101 : I' 101 = I 101) (h130 : I' 130 = I 130) (h100 : ∀ j, j = 1 ∨ j = 2 ∨ j = 3 ∨ j = 61 ∨ j = 73 → I' 100 j = I 100 j) (h : RelR I) : RelR I' := by
  unfold RelR RTape RFault RTime ROrd at h ⊢
  rw [h0, h011, h1, h54, h80, h84, h101, h130, h100 1 (by omega), h100 2 (by omega), h100 3 (by omega), h100 61 (by omega), h100 73 (by omega)]
  exact h
theorem RelR_77 {I : MI} (G : GT) (h : RelR I) : RelR (gPut I 77 G) := by
  refine RelR_c ?_ ?_ ?_ ?_ ?_ ?_ ?_ ?_ (fun j _ => ?_) h <;> rw [g77c (by decide) (by decide)]
theorem RelR_m {I : MI} (G : GT) (h : RelR I) : RelR (mPut I G) := by
  refine RelR_c ?_ ?_ ?_ ?_ ?_ ?_ ?_ ?_ (fun j hj => mP100 (by omega)) h <;> rw [mPc (by decide) (by decide)]
theorem fwG_c {I I' : MI} {b y hn : Nat} (h : ∀ c, regL b c → I' c = I c) (hy : y < 8) (sh : Int32) (st : Nat) (much : Int32) (at0 : Nat) (G : GT) : ∀ k, fwG I' b y hn sh st much at0 G k = fwG I b y hn sh st much at0 G k := by
  intro k
  induction k with
  | zero => rfl
  | succ k ih =>
    unfold fwG
    rw [ih, stepY_c h hy]
theorem regL_77 {I : MI} {G : GT} {b : Nat} (hb : b ≤ 28) : ∀ c, regL b c → gPut I 77 G c = I c := fun c q => g77c (by have := q.2; omega) (by have := q.2; omega)
/-- the class's first white step, by numbers alone -/
def fwV (I : MI) (b hn st y : Nat) (sh much : Int32) (at0 : Nat) : Int32 := fstW (fun k => whB (fwG I b y hn sh st much at0 (yGet I y) k)) 0 72
theorem day_GC {I : MI} {b yn wn hn sn st y : Nat} (h : RelL I b yn wn hn sn st) (hy : y < yn) : GC (laN I b y) st 9999 (gGet I (60 + 2 * y)) ∧ GC (laN I b y) st 9999 (yGet I y) ∧ GE (laN I b y) (gGet I (60 + 2 * y)) (yGet I y) := by
  obtain ⟨l1, l2, l3, l4, l5, l6, l7⟩ := h
  obtain ⟨e1, e2, e3, e4, e5, e6, e7, e8⟩ := l5
  obtain ⟨g1, g2, g3⟩ := e8 y hy
  have h8 : (gGet I (60 + 2 * y) 8).toInt ≤ 9999 := by have := e7.1; omega
  refine ⟨⟨g2, h8⟩, ⟨?_, ?_⟩, g1⟩
  · obtain ⟨hW, a5, a6, a7, as, a8, a8'⟩ := g2
    refine ⟨fun j hj => ?_, ?_⟩
    · rw [← g1.1 j hj]
      exact hW j hj
    · rw [← g1.2 5 (by decide) (by decide), ← g1.2 6 (by decide) (by decide), ← g1.2 7 (by decide) (by decide), ← g1.2 8 (by decide) (by decide)]
      exact ⟨a5, a6, a7, as, a8, a8'⟩
  · rw [← g1.2 8 (by decide) (by decide)]
    exact h8
/-- firstWhite of the class, in any memory that keeps the relation -/
theorem k_fw {I : MI} {b yn wn hn sn st y : Nat} {r : MR} (J : MJ) (hr : RefOk r b) (h : RelL I b yn wn hn sn st) (hy : y < yn) {sh : Int32} (hsh : ShOk sh) {much : Int32} {at0 : Nat} (hm : 0 ≤ much.toInt ∧ much.toInt ≤ 99) (hat : at0 < 1000) : Cq yX7_firstWhite MX7_firstWhite [.ref 76, .ref 58, .int (nI y), .int sh, .int much, .int (nI at0)] I r J (Rs (fwV I b hn st y sh much at0) I 77 r J) := by
  obtain ⟨c1, c2, c3⟩ := day_GC h hy
  have l1 := h.1
  have l5 := h.2.2.2.2.1
  have k := c_fw l1 hy hsh hm hat (c := 9999) (by decide) (gGet I 77) c1 (by have := l5.2.2.1; omega) l5.1 l5.2.2.1 r hr.2.1 J
  rw [gPut_get] at k
  have e : fstW (fun k => whB (fwG I b y hn sh st much at0 (copyG (gGet I (60 + 2 * y)) (gGet I 77)) k)) 0 72 = fwV I b hn st y sh much at0 := by
    unfold fwV
    rw [fw_eq l1 hy (GE_copy (la5 l1 hy).2), fw_eq l1 hy c3]
  rw [e] at k
  exact k
theorem k_mfw {I : MI} {b yn wn hn sn st y : Nat} (r : MR) (J : MJ) (h : RelL I b yn wn hn sn st) (hy : y < yn) {sh : Int32} (hsh : ShOk sh) {much sat : Int32} {at0 : Nat} (hm : 0 ≤ much.toInt ∧ much.toInt ≤ 99) (hat : ∀ k, k ≤ 72 → (sat = nI k ↔ k = at0)) : Cq yX12_firstWhite MX12_firstWhite [.ref 100, .int (nI y), .int sh, .int sat, .int much] I r J (Rm (fwV I b hn st y sh much at0) I r J) := by
  obtain ⟨c1, c2, c3⟩ := day_GC h hy
  have l1 := h.1
  have l5 := h.2.2.2.2.1
  have k := c_mfw l1 h.2.2.1 hy hsh hm hat (c := 9999) (by decide) (mGet I) c2 (by have := l5.2.2.1; omega) l5.2.1 l5.2.2.1 r J
  rw [mPut_get] at k
  exact k
theorem fwV_77 {I : MI} {G : GT} {b hn st y : Nat} {sh much : Int32} {at0 : Nat} (hb : b ≤ 28) (hy : y < 8) : fwV (gPut I 77 G) b hn st y sh much at0 = fwV I b hn st y sh much at0 := by
  unfold fwV
  congr 1
  funext k
  have e : yGet (gPut I 77 G) y = yGet I y := by
    unfold yGet
    rw [g77c (by decide) (by decide), g77c (by decide) (by decide)]
  rw [e, fwG_c (regL_77 hb) hy]
theorem at_nI {at0 : Nat} (h : at0 < 1000) : ∀ k, k ≤ 72 → (nI at0 = nI k ↔ k = at0) := fun k hk => by
  rw [nI_eq (by omega) (by omega)]
  omega
/-- the end of an asking: the class has used its ground, the model its yard in hand -/
theorem op_ask {yx : MethodName} {Mx : MX} {ym : MethodName} {Mm : MX} {args : List Value} {I : MI} {r : MR} {J : MJ} {res : Int32} {b yn wn hn sn st : Nat} (hr : RefOk r b) (hl : RelL I b yn wn hn sn st) (hR : RelR I) (hJ : RelJ J) (hx : Cq yx Mx (.ref 0 :: args) I r J (Rs res I 77 r J)) (hm : ∀ G, RelL (gPut I 77 G) b yn wn hn sn st → RelR (gPut I 77 G) → Cq ym Mm (.ref 100 :: args) (gPut I 77 G) r J (Rm res (gPut I 77 G) r J)) : ∃ res : Int32, Cq yx Mx (.ref 0 :: args) I r J (fun v I1 r1 J1 => v = some (.int res) ∧ Cq ym Mm (.ref 100 :: args) I1 r1 J1 (fun v2 I2 r2 J2 => v2 = some (.int res) ∧ Rel I2 r2 J2)) := by
  have hb := (refs_L hr).2
  refine op_of (res := res) hx (fun v I1 r1 J1 hp => ?_)
  obtain ⟨e1, ⟨G, e2⟩, e3, e4⟩ := hp
  subst e2
  subst e3
  subst e4
  refine ⟨e1, cq_mono (fun v2 I2 r2 J2 hq => ?_) (hm G (RelL_77 G hb hl) (RelR_77 G hR))⟩
  obtain ⟨f1, ⟨G2, f2⟩, f3, f4⟩ := hq
  subst f2
  subst f3
  subst f4
  exact ⟨f1, b, yn, wn, hn, sn, st, hr, RelL_m G2 hb (RelL_77 G hb hl), RelR_m G2 (RelR_77 G hR), hJ⟩
theorem Rs_same {x : Int32} {I : MI} {g : Nat} {r : MR} {J : MJ} : Rs x I g r J (some (.int x)) I r J := ⟨rfl, ⟨gGet I g, (gPut_get I g).symm⟩, rfl, rfl⟩
theorem Rm_same {x : Int32} {I : MI} {r : MR} {J : MJ} : Rm x I r J (some (.int x)) I r J := ⟨rfl, ⟨mGet I, (mPut_get I).symm⟩, rfl, rfl⟩
set_option maxRecDepth 100000 in
theorem c_Xwhen_g {I : MI} {b yn wn hn sn st : Nat} {r : MR} (J : MJ) (hr : RefOk r b) (h : RelL I b yn wn hn sn st) {y : Nat} (hy : y < yn) {sh : Int32} (hs : (-50 : Int32) ≤ sh ∧ sh ≤ 50) : Cq yX11_when MX11_when [.ref 0, .int (nI y), .int sh] I r J (Rs (fwV I b hn st y sh 0 0) I 77 r J) := by
  have hb0 : SH (r 0) = (15, 18) := by rw [hr.1]; exact (refs_L hr).1
  have h8 : yn ≤ 8 := h.1.2.2.1
  have ey : I (r 0) 1 = nI yn := by rw [hr.1]; exact h.1.2.1
  have em : I 100 41 = nI yn := h.2.2.1.1
  refine cq_of [some (.ref 0), some (.int (nI y)), some (.int sh)] 0 (by decide +kernel) rfl rfl (Nat.le_of_ble_eq_true rfl) rfl ?_
  refine x_aload_n (q := 1) dX11_when_0 rfl rfl ?_
  refine x_iload_n (q := 2) dX11_when_1 rfl rfl ?_
  refine q_callV (ci := 11) (N := 14) (T := TX11) (As := [.int (nI y)]) (rest := []) (q := 5) dX11_when_2 rfl okX11_isYard tw_811 rfl rfl (c_isYard_g I r J hb0 ey h8 hy) rfl rfl (Nat.le_of_ble_eq_true rfl) ⟨by decide, by decide⟩ ⟨rfl, rfl⟩ (fun rv_ I_ r_ J_ hv_ => ?_)
  obtain ⟨a1_, a2_, a3_, a4_⟩ := hv_
  rw [a1_, a2_, a3_, a4_]
  show Wq MX11_when 5 [some (.ref 0), some (.int (nI y)), some (.int sh)] [.int 1] I r J _
  refine x_if_eq (t := 15) (q := 8) dX11_when_5 (by decide) rfl (fun c5 => absurd c5 ((by decide))) (fun c5 => ?_)
  refine x_iload_n (q := 9) dX11_when_8 rfl rfl ?_
  refine q_callS (As := [.int sh]) (rest := []) (q := 12) dX11_when_9 rfl okX11_isShift tw_803 (c_isShift_g I r J hs.1 hs.2) rfl rfl (Nat.le_of_ble_eq_true rfl) ⟨by decide, by decide⟩ ⟨rfl, rfl⟩ (fun rv_ I_ r_ J_ hv_ => ?_)
  obtain ⟨a1_, a2_, a3_, a4_⟩ := hv_
  rw [a1_, a2_, a3_, a4_]
  show Wq MX11_when 12 [some (.ref 0), some (.int (nI y)), some (.int sh)] [.int 1] I r J _
  refine x_if_ne (t := 17) (q := 15) dX11_when_12 (by decide) rfl (fun c12 => ?_) (fun c12 => absurd c12 ((by decide)))
  refine x_aload_n (q := 18) dX11_when_17 rfl rfl ?_
  refine q_gr (K := 6) (b := 76) (q := 21) dX11_when_18 rfl cl_11 (by decide) tw_573 rfl rfl rfl ?_
  refine x_aload_n (q := 22) dX11_when_21 rfl rfl ?_
  refine q_gr (K := 5) (b := 58) (q := 25) dX11_when_22 rfl cl_11 (by decide) tw_572 rfl rfl rfl ?_
  refine x_iload_n (q := 26) dX11_when_25 rfl rfl ?_
  refine x_iload_n (q := 27) dX11_when_26 rfl rfl ?_
  refine x_iconst (0) (q := 28) dX11_when_27 rfl (by decide) ?_
  refine x_iconst (0) (q := 29) dX11_when_28 rfl (by decide) ?_
  refine q_callV (ci := 7) (N := 1) (T := TX7) (As := [.ref 58, .int (nI y), .int sh, .int 0, .int 0]) (rest := []) (q := 32) dX11_when_29 rfl okX7_firstWhite tw_843 rfl rfl (k_fw J hr h hy (shOk_iff.mpr hs) (much := 0) (at0 := 0) (by decide) (by decide)) rfl rfl (Nat.le_of_ble_eq_true rfl) ⟨by decide, by decide⟩ ⟨rfl, rfl⟩ (fun rv_ I_ r_ J_ hv_ => ?_)
  obtain ⟨a1_, ⟨Gx, a2_⟩, a3_, a4_⟩ := hv_
  rw [a1_, a2_, a3_, a4_]
  show Wq MX11_when 32 [some (.ref 0), some (.int (nI y)), some (.int sh)] [.int (fwV I b hn st y sh 0 0)] (gPut I 77 Gx) r J _
  refine q_iret dX11_when_32 rfl ?_
  exact ⟨rfl, ⟨_, rfl⟩, rfl, rfl⟩
set_option maxRecDepth 100000 in
theorem c_Xwhen_1 {I : MI} {b yn wn hn sn st : Nat} {r : MR} (J : MJ) (hr : RefOk r b) (h : RelL I b yn wn hn sn st) {x sh : Int32} (hno : ¬ ∃ k, k < yn ∧ x = nI k) : Cq yX11_when MX11_when [.ref 0, .int x, .int sh] I r J (Rs (-1) I 77 r J) := by
  have hb0 : SH (r 0) = (15, 18) := by rw [hr.1]; exact (refs_L hr).1
  have h8 : yn ≤ 8 := h.1.2.2.1
  have ey : I (r 0) 1 = nI yn := by rw [hr.1]; exact h.1.2.1
  have em : I 100 41 = nI yn := h.2.2.1.1
  refine cq_of [some (.ref 0), some (.int x), some (.int sh)] 0 (by decide +kernel) rfl rfl (Nat.le_of_ble_eq_true rfl) rfl ?_
  refine x_aload_n (q := 1) dX11_when_0 rfl rfl ?_
  refine x_iload_n (q := 2) dX11_when_1 rfl rfl ?_
  refine q_callV (ci := 11) (N := 14) (T := TX11) (As := [.int x]) (rest := []) (q := 5) dX11_when_2 rfl okX11_isYard tw_811 rfl rfl (c_isYard_b I r J hb0 ey h8 hno) rfl rfl (Nat.le_of_ble_eq_true rfl) ⟨by decide, by decide⟩ ⟨rfl, rfl⟩ (fun rv_ I_ r_ J_ hv_ => ?_)
  obtain ⟨a1_, a2_, a3_, a4_⟩ := hv_
  rw [a1_, a2_, a3_, a4_]
  show Wq MX11_when 5 [some (.ref 0), some (.int x), some (.int sh)] [.int 0] I r J _
  refine x_if_eq (t := 15) (q := 8) dX11_when_5 (by decide) rfl (fun c5 => ?_) (fun c5 => absurd c5 ((by decide)))
  refine x_iconst (-1) (q := 16) dX11_when_15 rfl (by decide) ?_
  refine q_iret dX11_when_16 rfl ?_
  exact Rs_same
set_option maxRecDepth 100000 in
theorem c_Xwhen_2 {I : MI} {b yn wn hn sn st : Nat} {r : MR} (J : MJ) (hr : RefOk r b) (h : RelL I b yn wn hn sn st) {y : Nat} (hy : y < yn) {sh : Int32} (hno : ¬ ((-50 : Int32) ≤ sh ∧ sh ≤ 50)) : Cq yX11_when MX11_when [.ref 0, .int (nI y), .int sh] I r J (Rs (-1) I 77 r J) := by
  have hb0 : SH (r 0) = (15, 18) := by rw [hr.1]; exact (refs_L hr).1
  have h8 : yn ≤ 8 := h.1.2.2.1
  have ey : I (r 0) 1 = nI yn := by rw [hr.1]; exact h.1.2.1
  have em : I 100 41 = nI yn := h.2.2.1.1
  refine cq_of [some (.ref 0), some (.int (nI y)), some (.int sh)] 0 (by decide +kernel) rfl rfl (Nat.le_of_ble_eq_true rfl) rfl ?_
  refine x_aload_n (q := 1) dX11_when_0 rfl rfl ?_
  refine x_iload_n (q := 2) dX11_when_1 rfl rfl ?_
  refine q_callV (ci := 11) (N := 14) (T := TX11) (As := [.int (nI y)]) (rest := []) (q := 5) dX11_when_2 rfl okX11_isYard tw_811 rfl rfl (c_isYard_g I r J hb0 ey h8 hy) rfl rfl (Nat.le_of_ble_eq_true rfl) ⟨by decide, by decide⟩ ⟨rfl, rfl⟩ (fun rv_ I_ r_ J_ hv_ => ?_)
  obtain ⟨a1_, a2_, a3_, a4_⟩ := hv_
  rw [a1_, a2_, a3_, a4_]
  show Wq MX11_when 5 [some (.ref 0), some (.int (nI y)), some (.int sh)] [.int 1] I r J _
  refine x_if_eq (t := 15) (q := 8) dX11_when_5 (by decide) rfl (fun c5 => absurd c5 ((by decide))) (fun c5 => ?_)
  refine x_iload_n (q := 9) dX11_when_8 rfl rfl ?_
  refine q_callS (As := [.int sh]) (rest := []) (q := 12) dX11_when_9 rfl okX11_isShift tw_803 (c_isShift_b I r J hno) rfl rfl (Nat.le_of_ble_eq_true rfl) ⟨by decide, by decide⟩ ⟨rfl, rfl⟩ (fun rv_ I_ r_ J_ hv_ => ?_)
  obtain ⟨a1_, a2_, a3_, a4_⟩ := hv_
  rw [a1_, a2_, a3_, a4_]
  show Wq MX11_when 12 [some (.ref 0), some (.int (nI y)), some (.int sh)] [.int 0] I r J _
  refine x_if_ne (t := 17) (q := 15) dX11_when_12 (by decide) rfl (fun c12 => absurd c12 ((by decide))) (fun c12 => ?_)
  refine x_iconst (-1) (q := 16) dX11_when_15 rfl (by decide) ?_
  refine q_iret dX11_when_16 rfl ?_
  exact Rs_same
set_option maxRecDepth 100000 in
theorem c_Mwhen_g {I : MI} {b yn wn hn sn st : Nat} {r : MR} (J : MJ) (hr : RefOk r b) (h : RelL I b yn wn hn sn st) {y : Nat} (hy : y < yn) {sh : Int32} (hs : (-50 : Int32) ≤ sh ∧ sh ≤ 50) : Cq yX12_when MX12_when [.ref 100, .int (nI y), .int sh] I r J (Rm (fwV I b hn st y sh 0 0) I r J) := by
  have hb0 : SH (r 0) = (15, 18) := by rw [hr.1]; exact (refs_L hr).1
  have h8 : yn ≤ 8 := h.1.2.2.1
  have ey : I (r 0) 1 = nI yn := by rw [hr.1]; exact h.1.2.1
  have em : I 100 41 = nI yn := h.2.2.1.1
  refine cq_of [some (.ref 100), some (.int (nI y)), some (.int sh)] 0 (by decide +kernel) rfl rfl (Nat.le_of_ble_eq_true rfl) rfl ?_
  refine x_aload_n (q := 1) dX12_when_0 rfl rfl ?_
  refine x_iload_n (q := 2) dX12_when_1 rfl rfl ?_
  refine q_callV (ci := 12) (N := 79) (T := TX12) (As := [.int (nI y)]) (rest := []) (q := 5) dX12_when_2 rfl okX12_isYard tw_1485 rfl rfl (c_mYard_g I r J em h8 hy) rfl rfl (Nat.le_of_ble_eq_true rfl) ⟨by decide, by decide⟩ ⟨rfl, rfl⟩ (fun rv_ I_ r_ J_ hv_ => ?_)
  obtain ⟨a1_, a2_, a3_, a4_⟩ := hv_
  rw [a1_, a2_, a3_, a4_]
  show Wq MX12_when 5 [some (.ref 100), some (.int (nI y)), some (.int sh)] [.int 1] I r J _
  refine x_if_eq (t := 26) (q := 8) dX12_when_5 (by decide) rfl (fun c5 => absurd c5 ((by decide))) (fun c5 => ?_)
  refine x_iload_n (q := 9) dX12_when_8 rfl rfl ?_
  refine q_callS (As := [.int sh]) (rest := []) (q := 12) dX12_when_9 rfl okX12_isShift tw_1509 (c_mShift_g I r J hs.1 hs.2) rfl rfl (Nat.le_of_ble_eq_true rfl) ⟨by decide, by decide⟩ ⟨rfl, rfl⟩ (fun rv_ I_ r_ J_ hv_ => ?_)
  obtain ⟨a1_, a2_, a3_, a4_⟩ := hv_
  rw [a1_, a2_, a3_, a4_]
  show Wq MX12_when 12 [some (.ref 100), some (.int (nI y)), some (.int sh)] [.int 1] I r J _
  refine x_if_eq (t := 26) (q := 15) dX12_when_12 (by decide) rfl (fun c12 => absurd c12 ((by decide))) (fun c12 => ?_)
  refine x_aload_n (q := 16) dX12_when_15 rfl rfl ?_
  refine x_iload_n (q := 17) dX12_when_16 rfl rfl ?_
  refine x_iload_n (q := 18) dX12_when_17 rfl rfl ?_
  refine x_iconst (0) (q := 19) dX12_when_18 rfl (by decide) ?_
  refine x_iconst (0) (q := 20) dX12_when_19 rfl (by decide) ?_
  refine q_callV (ci := 12) (N := 79) (T := TX12) (As := [.int (nI y), .int sh, .int 0, .int 0]) (rest := []) (q := 23) dX12_when_20 rfl okX12_firstWhite tw_1512 rfl rfl (k_mfw r J h hy (shOk_iff.mpr hs) (much := 0) (sat := 0) (at0 := 0) (by decide) (at_nI (by decide))) rfl rfl (Nat.le_of_ble_eq_true rfl) ⟨by decide, by decide⟩ ⟨rfl, rfl⟩ (fun rv_ I_ r_ J_ hv_ => ?_)
  obtain ⟨a1_, ⟨Gx, a2_⟩, a3_, a4_⟩ := hv_
  rw [a1_, a2_, a3_, a4_]
  show Wq MX12_when 23 [some (.ref 100), some (.int (nI y)), some (.int sh)] [.int (fwV I b hn st y sh 0 0)] (mPut I Gx) r J _
  refine x_goto (t := 27) dX12_when_23 (by decide) ?_
  refine q_iret dX12_when_27 rfl ?_
  exact ⟨rfl, ⟨_, rfl⟩, rfl, rfl⟩
set_option maxRecDepth 100000 in
theorem c_Mwhen_1 {I : MI} {b yn wn hn sn st : Nat} {r : MR} (J : MJ) (hr : RefOk r b) (h : RelL I b yn wn hn sn st) {x sh : Int32} (hno : ¬ ∃ k, k < yn ∧ x = nI k) : Cq yX12_when MX12_when [.ref 100, .int x, .int sh] I r J (Rm (-1) I r J) := by
  have hb0 : SH (r 0) = (15, 18) := by rw [hr.1]; exact (refs_L hr).1
  have h8 : yn ≤ 8 := h.1.2.2.1
  have ey : I (r 0) 1 = nI yn := by rw [hr.1]; exact h.1.2.1
  have em : I 100 41 = nI yn := h.2.2.1.1
  refine cq_of [some (.ref 100), some (.int x), some (.int sh)] 0 (by decide +kernel) rfl rfl (Nat.le_of_ble_eq_true rfl) rfl ?_
  refine x_aload_n (q := 1) dX12_when_0 rfl rfl ?_
  refine x_iload_n (q := 2) dX12_when_1 rfl rfl ?_
  refine q_callV (ci := 12) (N := 79) (T := TX12) (As := [.int x]) (rest := []) (q := 5) dX12_when_2 rfl okX12_isYard tw_1485 rfl rfl (c_mYard_b I r J em h8 hno) rfl rfl (Nat.le_of_ble_eq_true rfl) ⟨by decide, by decide⟩ ⟨rfl, rfl⟩ (fun rv_ I_ r_ J_ hv_ => ?_)
  obtain ⟨a1_, a2_, a3_, a4_⟩ := hv_
  rw [a1_, a2_, a3_, a4_]
  show Wq MX12_when 5 [some (.ref 100), some (.int x), some (.int sh)] [.int 0] I r J _
  refine x_if_eq (t := 26) (q := 8) dX12_when_5 (by decide) rfl (fun c5 => ?_) (fun c5 => absurd c5 ((by decide)))
  refine x_iconst (-1) (q := 27) dX12_when_26 rfl (by decide) ?_
  refine q_iret dX12_when_27 rfl ?_
  exact Rm_same
set_option maxRecDepth 100000 in
theorem c_Mwhen_2 {I : MI} {b yn wn hn sn st : Nat} {r : MR} (J : MJ) (hr : RefOk r b) (h : RelL I b yn wn hn sn st) {y : Nat} (hy : y < yn) {sh : Int32} (hno : ¬ ((-50 : Int32) ≤ sh ∧ sh ≤ 50)) : Cq yX12_when MX12_when [.ref 100, .int (nI y), .int sh] I r J (Rm (-1) I r J) := by
  have hb0 : SH (r 0) = (15, 18) := by rw [hr.1]; exact (refs_L hr).1
  have h8 : yn ≤ 8 := h.1.2.2.1
  have ey : I (r 0) 1 = nI yn := by rw [hr.1]; exact h.1.2.1
  have em : I 100 41 = nI yn := h.2.2.1.1
  refine cq_of [some (.ref 100), some (.int (nI y)), some (.int sh)] 0 (by decide +kernel) rfl rfl (Nat.le_of_ble_eq_true rfl) rfl ?_
  refine x_aload_n (q := 1) dX12_when_0 rfl rfl ?_
  refine x_iload_n (q := 2) dX12_when_1 rfl rfl ?_
  refine q_callV (ci := 12) (N := 79) (T := TX12) (As := [.int (nI y)]) (rest := []) (q := 5) dX12_when_2 rfl okX12_isYard tw_1485 rfl rfl (c_mYard_g I r J em h8 hy) rfl rfl (Nat.le_of_ble_eq_true rfl) ⟨by decide, by decide⟩ ⟨rfl, rfl⟩ (fun rv_ I_ r_ J_ hv_ => ?_)
  obtain ⟨a1_, a2_, a3_, a4_⟩ := hv_
  rw [a1_, a2_, a3_, a4_]
  show Wq MX12_when 5 [some (.ref 100), some (.int (nI y)), some (.int sh)] [.int 1] I r J _
  refine x_if_eq (t := 26) (q := 8) dX12_when_5 (by decide) rfl (fun c5 => absurd c5 ((by decide))) (fun c5 => ?_)
  refine x_iload_n (q := 9) dX12_when_8 rfl rfl ?_
  refine q_callS (As := [.int sh]) (rest := []) (q := 12) dX12_when_9 rfl okX12_isShift tw_1509 (c_mShift_b I r J hno) rfl rfl (Nat.le_of_ble_eq_true rfl) ⟨by decide, by decide⟩ ⟨rfl, rfl⟩ (fun rv_ I_ r_ J_ hv_ => ?_)
  obtain ⟨a1_, a2_, a3_, a4_⟩ := hv_
  rw [a1_, a2_, a3_, a4_]
  show Wq MX12_when 12 [some (.ref 100), some (.int (nI y)), some (.int sh)] [.int 0] I r J _
  refine x_if_eq (t := 26) (q := 15) dX12_when_12 (by decide) rfl (fun c12 => ?_) (fun c12 => absurd c12 ((by decide)))
  refine x_iconst (-1) (q := 27) dX12_when_26 rfl (by decide) ?_
  refine q_iret dX12_when_27 rfl ?_
  exact Rm_same
theorem op_when (x sh : Int32) : OpOk yX11_when MX11_when yX12_when MX12_when [.int x, .int sh] := by
  intro I r J hrel
  obtain ⟨b, yn, wn, hn, sn, st, hr, hl, hR, hJ⟩ := hrel
  have hb := (refs_L hr).2
  have h8 : yn ≤ 8 := hl.1.2.2.1
  by_cases h1 : ∃ k, k < yn ∧ x = nI k
  · obtain ⟨y, hy, rfl⟩ := h1
    by_cases h2 : (-50 : Int32) ≤ sh ∧ sh ≤ 50
    · exact op_ask hr hl hR hJ (c_Xwhen_g J hr hl hy h2) (fun G g1 g2 => by
        have k := c_Mwhen_g J hr g1 hy h2
        rw [fwV_77 hb (by omega)] at k
        exact k)
    · exact op_ask hr hl hR hJ (c_Xwhen_2 J hr hl hy h2) (fun G g1 g2 => c_Mwhen_2 J hr g1 hy h2)
  · exact op_ask hr hl hR hJ (c_Xwhen_1 J hr hl h1) (fun G g1 g2 => c_Mwhen_1 J hr g1 h1)
