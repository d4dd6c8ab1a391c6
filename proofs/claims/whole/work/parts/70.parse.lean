theorem kdQ_le (T : Nat → Nat) (n q : Nat) : kdQ T n q ≤ 5 := by
  unfold kdQ
  by_cases h1 : n ≤ q
  · rw [if_pos h1]; decide
  rw [if_neg h1]
  by_cases h2 : ltr (T q) = true
  · rw [if_pos h2]
    by_cases h3 : 8 < wde T n q - q
    · rw [if_pos h3]; decide
    · rw [if_neg h3]; decide
  rw [if_neg h2]
  by_cases h3 : dgi (T q) = true
  · rw [if_pos h3]
    by_cases h5 : 4 < dge T n q - q ∨ (dge T n q < n ∧ ltr (T (dge T n q)) = true)
    · rw [if_pos h5]; decide
    · rw [if_neg h5]; decide
  rw [if_neg h3]
  by_cases h5 : T q = 59
  · rw [if_pos h5]; decide
  rw [if_neg h5]
  by_cases h6 : T q = 45
  · rw [if_pos h6]; decide
  · rw [if_neg h6]; decide
theorem kg_le (w : Nat) : ∀ f i, i + f = 20 → kg w f i ≤ 20 := by
  intro f
  induction f with
  | zero => intro i _; exact Nat.le_refl _
  | succ f ih =>
    intro i h
    unfold kg
    by_cases q : K5 i = w
    · rw [if_pos q]; omega
    · rw [if_neg q]; exact ih _ (by omega)
theorem kwQ_le (T : Nat → Nat) (n q : Nat) : kwQ T n q ≤ 20 := by
  unfold kwQ
  by_cases h : kdQ T n q = 2
  · rw [if_pos h]; exact kg_le _ 20 0 rfl
  · rw [if_neg h]; exact Nat.le_refl _
theorem kd_le (T : Nat → Nat) (n p : Nat) : kd T n p ≤ 5 := kdQ_le T n _
theorem kw_le (T : Nat → Nat) (n p : Nat) : kw T n p ≤ 20 := kwQ_le T n _
theorem sk_b {T : Nat → Nat} {n p : Nat} (h : p ≤ n) : p ≤ sk T n p ∧ sk T n p ≤ n := rlp_b h
theorem enQ_b {T : Nat → Nat} {n q : Nat} (h : q ≤ n) : q ≤ enQ T n q ∧ enQ T n q ≤ n := by
  unfold enQ
  by_cases h1 : n ≤ q
  · rw [if_pos h1]; omega
  rw [if_neg h1]
  by_cases h2 : ltr (T q) = true
  · rw [if_pos h2]; exact rlp_b h
  rw [if_neg h2]
  by_cases h3 : dgi (T q) = true
  · rw [if_pos h3]; exact rlp_b h
  rw [if_neg h3]; omega
theorem en_b {T : Nat → Nat} {n p : Nat} (h : p ≤ n) : p ≤ en T n p ∧ en T n p ≤ n := by
  have h1 := sk_b (T := T) h
  have h2 := enQ_b (T := T) h1.2
  unfold en
  omega
theorem kwI_e {k i : Nat} (hk : k ≤ 20) (hi : i < 20) : kwI k = nI i ↔ k = i := by
  unfold kwI
  by_cases e : k = 20
  · rw [if_pos e]
    refine ⟨fun z => absurd z.symm (nI_nm1 (by omega)), fun z => by omega⟩
  · rw [if_neg e, nI_eq (by omega) (by omega)]
theorem kwI_n {k : Nat} (hk : k ≤ 20) : kwI k = -1 ↔ k = 20 := by
  unfold kwI
  by_cases e : k = 20
  · rw [if_pos e]; exact ⟨fun _ => e, fun _ => rfl⟩
  · rw [if_neg e]; exact ⟨fun z => absurd z (nI_nm1 (by omega)), fun z => absurd z e⟩
def adv (T : Nat → Nat) (n : Nat) (s : Nat × Nat × Nat) : Nat × Nat × Nat := (s.1, s.2.1, en T n s.2.2)
def rf (k g : Nat) (s : Nat × Nat × Nat) : Nat × Nat × Nat := if s.1 = 0 then (k, g, s.2.2) else s
def rfT (T : Nat → Nat) (n : Nat) (s : Nat × Nat × Nat) : Nat × Nat × Nat := rf (if kd T n s.2.2 = 1 then 1 else 2) (sk T n s.2.2) s
def PS (T : Nat → Nat) (n : Nat) (s : Nat × Nat × Nat) (X : MI) (J : MJ) : Prop := TX T n X ∧ RelJ J ∧ X 54 2 = nI s.1 ∧ (X 54 3 = if s.1 = 0 then -1 else nI s.2.1) ∧ s.2.2 ≤ n ∧ s.1 ≤ 5 ∧ LxQ T n (sk T n s.2.2) X J
def FP (X : MI) (J : MJ) (Y : MI) (K : MJ) : Prop := (∀ c, c ≠ 54 → c ≠ 55 → Y c = X c) ∧ JL J K ∧ Y 54 4 = X 54 4
def FW (X : MI) (J : MJ) (Y : MI) (K : MJ) : Prop := (∀ c, c ≠ 54 → c ≠ 55 → Y c = X c) ∧ JL J K
theorem FP.rf {X : MI} {J : MJ} : FP X J X J := ⟨fun _ _ _ => rfl, fun _ _ _ => rfl, rfl⟩
theorem FP.w {X Y : MI} {J K : MJ} (h : FP X J Y K) : FW X J Y K := ⟨h.1, h.2.1⟩
theorem FW.tr {X Y Z : MI} {J K L : MJ} (h1 : FW X J Y K) (h2 : FW Y K Z L) : FW X J Z L := ⟨fun c e1 e2 => (h2.1 c e1 e2).trans (h1.1 c e1 e2), fun c k e => (h2.2 c k e).trans (h1.2 c k e)⟩
theorem FW.rf {X : MI} {J : MJ} : FW X J X J := ⟨fun _ _ _ => rfl, fun _ _ _ => rfl⟩
theorem FP.tr {X Y Z : MI} {J K L : MJ} (h1 : FP X J Y K) (h2 : FP Y K Z L) : FP X J Z L := ⟨fun c e1 e2 => (h2.1 c e1 e2).trans (h1.1 c e1 e2), fun c k e => (h2.2.1 c k e).trans (h1.2.1 c k e), h2.2.2.trans h1.2.2⟩
def RP (x : Option Value) (T : Nat → Nat) (n : Nat) (s : Nat × Nat × Nat) (X : MI) (J : MJ) (r : MR) : Option Value → MI → MR → MJ → Prop := Rq x (fun Y K => PS T n s Y K ∧ FP X J Y K) r
theorem LxQ_54 {T : Nat → Nat} {n q : Nat} {X Y : MI} {K : MJ} (h : LxQ T n q X K) (e : Y 55 = X 55) : LxQ T n q Y K := by
  unfold LxQ at h ⊢
  rw [e]
  exact h
theorem PS_54 {T : Nat → Nat} {n : Nat} {s : Nat × Nat × Nat} {X : MI} {J : MJ} {x : Int32} (h : PS T n s X J) : PS T n s (upI X 54 4 x) J := by
  obtain ⟨h1, h2, h3, h4, h5, h6, h7⟩ := h
  exact ⟨⟨h1.1, fun j hj => by rw [upc (by decide)]; exact h1.2 j hj⟩, h2, by rw [ups (by decide)]; exact h3, by rw [ups (by decide)]; exact h4, h5, h6, LxQ_54 h7 (upc (by decide))⟩
theorem kd_c {T : Nat → Nat} {n p : Nat} {y z : Int32} (k : Nat) (h : y = nI (kdQ T n (sk T n p))) (hk : k ≤ 5) (hz : z = nI k) : y = z ↔ kd T n p = k := by
  have := kd_le T n p
  unfold kd at this ⊢
  rw [h, hz, nI_eq (by omega) (by omega)]
theorem tF_b (T : Nat → Nat) (n p : Nat) : 1 ≤ (if kd T n p = 1 then 1 else 2) ∧ (if kd T n p = 1 then 1 else 2) ≤ 5 := by
  by_cases z : kd T n p = 1
  · rw [if_pos z]; decide
  · rw [if_neg z]; decide
theorem c_advP {T : Nat → Nat} {n : Nat} {r : MR} (h4 : r 4 = 1) {X : MI} {J : MJ} {s : Nat × Nat × Nat} (h : PS T n s X J) : Cq yX6_advance MX6_advance [.ref 55] X r J (RP none T n (adv T n s) X J r) := by
  obtain ⟨h1, h2, h3, h5, h6, h7, hL⟩ := h
  have hb := en_b (T := T) h6
  refine cq_mono (fun v Y r' K hv => ?_) (c_adv h1 h4 h2 (p := en T n s.2.2) hb.2 ⟨fun _ _ => rfl, hL.1, hL.2.1⟩)
  obtain ⟨a1, ⟨a2, a3, a4⟩, a5⟩ := hv
  refine ⟨a1, ⟨⟨⟨h1.1, fun j hj => by rw [a2 1 (by decide)]; exact h1.2 j hj⟩, fun k hk => by rw [a3 56 k (by decide)]; exact h2 k hk, by rw [a2 54 (by decide)]; exact h3, by rw [a2 54 (by decide)]; exact h5, hb.2, h7, a4⟩, fun c e1 e2 => a2 c e2, a3, by rw [a2 54 (by decide)]⟩, a5⟩
set_option maxRecDepth 100000 in
theorem c_ref {T : Nat → Nat} {n : Nat} {r : MR} (h4 : r 4 = 1) {X : MI} {J : MJ} {s : Nat × Nat × Nat} (h : PS T n s X J) {k g : Nat} (hk : 1 ≤ k ∧ k ≤ 5) : Cq yX8_refuse MX8_refuse [.ref 54, .int (nI k), .int (nI g)] X r J (RP none T n (rf k g s) X J r) := by
  have q1 := h.2.2.1
  have q2 := h.2.2.2.1
  have q3 := h.2.2.2.2.1
  have q4 := h.2.2.2.2.2.1
  have hL := h.2.2.2.2.2.2
  refine cq_of [some (.ref 54), some (.int (nI k)), some (.int (nI g))] 0 (by decide +kernel) rfl rfl (Nat.le_of_ble_eq_true rfl) rfl ?_
  refine x_aload_n (q := 1) dX8_refuse_0 rfl rfl ?_
  refine q_gi (K := 2) (q := 4) dX8_refuse_1 rfl cl_8 (by decide) tw_367 rfl rfl ?_
  refine x_if_ne (t := 17) (q := 7) dX8_refuse_4 (by decide) rfl (fun c4 => ?_) (fun c4 => ?_)
  · refine q_vret dX8_refuse_17 rfl ?_
    have n0 : ¬ s.1 = 0 := fun z => c4 (by rw [q1, z]; rfl)
    rw [show rf k g s = s from if_neg n0]
    exact ⟨rfl, ⟨h, FP.rf⟩, rfl⟩
  · refine x_aload_n (q := 8) dX8_refuse_7 rfl rfl ?_
    refine x_iload_n (q := 9) dX8_refuse_8 rfl rfl ?_
    refine q_pi (K := 2) (q := 12) dX8_refuse_9 rfl cl_8 (by decide) tw_367 rfl rfl rfl rfl (fun I1 eI1 => ?_)
    refine x_aload_n (q := 13) dX8_refuse_12 rfl rfl ?_
    refine x_iload_n (q := 14) dX8_refuse_13 rfl rfl ?_
    refine q_pi (K := 3) (q := 17) dX8_refuse_14 rfl cl_8 (by decide) tw_369 rfl rfl rfl rfl (fun I2 eI2 => ?_)
    refine q_vret dX8_refuse_17 rfl ?_
    have n0 : s.1 = 0 := by
      by_cases z : s.1 = 0
      · exact z
      · rw [q1] at c4; exact absurd c4 (nI_ne0 (by omega) (by omega))
    rw [show rf k g s = (k, g, s.2.2) from if_pos n0, eI2, eI1]
    refine ⟨rfl, ⟨⟨⟨h.1.1, fun j hj => by rw [upc (by decide), upc (by decide)]; exact h.1.2 j hj⟩, h.2.1, by rw [ups (by decide), upq], by rw [upq, if_neg (show ¬ k = 0 by omega)], q3, hk.2, LxQ_54 hL (by rw [upc (by decide), upc (by decide)])⟩, fun c e1 e2 => by rw [upc e1, upc e1], fun _ _ _ => rfl, by rw [ups (by decide), ups (by decide)]⟩, rfl⟩
set_option maxRecDepth 100000 in
theorem c_rfT {T : Nat → Nat} {n : Nat} {r : MR} (h4 : r 4 = 1) {X : MI} {J : MJ} {s : Nat × Nat × Nat} (h : PS T n s X J) : Cq yX8_refuseToken MX8_refuseToken [.ref 54] X r J (RP none T n (rfT T n s) X J r) := by
  have q1 := h.2.2.1
  have q2 := h.2.2.2.1
  have q3 := h.2.2.2.2.1
  have q4 := h.2.2.2.2.2.1
  have hL := h.2.2.2.2.2.2
  refine cq_of [some (.ref 54)] 0 (by decide +kernel) rfl rfl (Nat.le_of_ble_eq_true rfl) rfl ?_
  refine x_aload_n (q := 1) dX8_refuseToken_0 rfl rfl ?_
  refine x_aload_n (q := 2) dX8_refuseToken_1 rfl rfl ?_
  refine q_gr (K := 0) (b := 55) (q := 5) dX8_refuseToken_2 rfl cl_8 (by decide) tw_365 rfl rfl rfl ?_
  refine q_gi (K := 4) (q := 8) dX8_refuseToken_5 rfl cl_6 (by decide) tw_336 rfl rfl ?_
  refine x_iconst (1) (q := 9) dX8_refuseToken_8 rfl (by decide) ?_
  refine x_icmp_ne (t := 16) (q := 12) dX8_refuseToken_9 (by decide) rfl (fun c9 => ?_) (fun c9 => ?_)
  · refine x_iconst (2) (q := 17) dX8_refuseToken_16 rfl (by decide) ?_
    have ek : (2 : Int32) = nI (if kd T n s.2.2 = 1 then 1 else 2) := by
      rw [if_neg (fun z => c9 ((kd_c 1 hL.2.2.1 (by decide) rfl).mpr z))]; rfl
    rw [ek]
    refine x_aload_n (q := 18) dX8_refuseToken_17 rfl rfl ?_
    refine q_gr (K := 0) (b := 55) (q := 21) dX8_refuseToken_18 rfl cl_8 (by decide) tw_365 rfl rfl rfl ?_
    refine q_gi (K := 5) (q := 24) dX8_refuseToken_21 rfl cl_6 (by decide) tw_338 rfl rfl ?_
    refine q_callV (ci := 8) (N := 5) (T := TX8) (As := [.int (nI (if kd T n s.2.2 = 1 then 1 else 2)), .int (X 55 5)]) (rest := []) (q := 27) dX8_refuseToken_24 rfl okX8_refuse tw_669 rfl rfl (by rw [hL.2.2.2.1]; exact c_ref h4 h (g := sk T n s.2.2) (tF_b T n s.2.2)) rfl rfl (Nat.le_of_ble_eq_true rfl) ⟨by decide, by decide⟩ ⟨rfl, rfl⟩ (fun rv_ Va r_ Ka hv_ => ?_)
    obtain ⟨a1_, ha, a3_⟩ := hv_
    rw [a1_, a3_]
    show Wq MX8_refuseToken 27 [some (.ref 54)] [] Va r Ka _
    refine q_vret dX8_refuseToken_27 rfl ?_
    exact ⟨rfl, ha, rfl⟩
  · refine x_iconst (1) (q := 13) dX8_refuseToken_12 rfl (by decide) ?_
    refine x_goto (t := 17) dX8_refuseToken_13 (by decide) ?_
    have ek : (1 : Int32) = nI (if kd T n s.2.2 = 1 then 1 else 2) := by
      rw [if_pos ((kd_c 1 hL.2.2.1 (by decide) rfl).mp c9)]; rfl
    rw [ek]
    refine x_aload_n (q := 18) dX8_refuseToken_17 rfl rfl ?_
    refine q_gr (K := 0) (b := 55) (q := 21) dX8_refuseToken_18 rfl cl_8 (by decide) tw_365 rfl rfl rfl ?_
    refine q_gi (K := 5) (q := 24) dX8_refuseToken_21 rfl cl_6 (by decide) tw_338 rfl rfl ?_
    refine q_callV (ci := 8) (N := 5) (T := TX8) (As := [.int (nI (if kd T n s.2.2 = 1 then 1 else 2)), .int (X 55 5)]) (rest := []) (q := 27) dX8_refuseToken_24 rfl okX8_refuse tw_669 rfl rfl (by rw [hL.2.2.2.1]; exact c_ref h4 h (g := sk T n s.2.2) (tF_b T n s.2.2)) rfl rfl (Nat.le_of_ble_eq_true rfl) ⟨by decide, by decide⟩ ⟨rfl, rfl⟩ (fun rv_ Va r_ Ka hv_ => ?_)
    obtain ⟨a1_, ha, a3_⟩ := hv_
    rw [a1_, a3_]
    show Wq MX8_refuseToken 27 [some (.ref 54)] [] Va r Ka _
    refine q_vret dX8_refuseToken_27 rfl ?_
    exact ⟨rfl, ha, rfl⟩
def tkw (T : Nat → Nat) (n i : Nat) (s : Nat × Nat × Nat) : Nat × Nat × Nat := if s.1 = 0 then (if kw T n s.2.2 = i then adv T n s else rfT T n s) else s
def tsc (T : Nat → Nat) (n : Nat) (s : Nat × Nat × Nat) : Nat × Nat × Nat := if s.1 = 0 then (if kd T n s.2.2 = 4 then adv T n s else rfT T n s) else s
theorem f_0 {x : Nat} {y : Int32} (h : y = nI x) (hx : x ≤ 5) (c : y = 0) : x = 0 := by
  by_cases z : x = 0
  · exact z
  · rw [h] at c; exact absurd c (nI_ne0 (by omega) (by omega))
theorem f_1 {x : Nat} {y : Int32} (h : y = nI x) (c : ¬ y = 0) : ¬ x = 0 := fun z => c (by rw [h, z]; rfl)
set_option maxRecDepth 100000 in
theorem c_tkw {T : Nat → Nat} {n : Nat} {r : MR} (h4 : r 4 = 1) {X : MI} {J : MJ} {s : Nat × Nat × Nat} (h : PS T n s X J) {i : Nat} (hi : i < 20) : Cq yX8_takeKeyword MX8_takeKeyword [.ref 54, .int (nI i)] X r J (RP none T n (tkw T n i s) X J r) := by
  have q1 := h.2.2.1
  have q2 := h.2.2.2.1
  have q3 := h.2.2.2.2.1
  have q4 := h.2.2.2.2.2.1
  have hL := h.2.2.2.2.2.2
  refine cq_of [some (.ref 54), some (.int (nI i))] 0 (by decide +kernel) rfl rfl (Nat.le_of_ble_eq_true rfl) rfl ?_
  refine x_aload_n (q := 1) dX8_takeKeyword_0 rfl rfl ?_
  refine q_gi (K := 2) (q := 4) dX8_takeKeyword_1 rfl cl_8 (by decide) tw_367 rfl rfl ?_
  refine x_if_eq (t := 8) (q := 7) dX8_takeKeyword_4 (by decide) rfl (fun c4 => ?_) (fun c4 => ?_)
  · refine x_aload_n (q := 9) dX8_takeKeyword_8 rfl rfl ?_
    refine q_gr (K := 0) (b := 55) (q := 12) dX8_takeKeyword_9 rfl cl_8 (by decide) tw_365 rfl rfl rfl ?_
    refine q_gi (K := 8) (q := 15) dX8_takeKeyword_12 rfl cl_6 (by decide) tw_344 rfl rfl ?_
    refine x_iload_n (q := 16) dX8_takeKeyword_15 rfl rfl ?_
    refine x_icmp_ne (t := 29) (q := 19) dX8_takeKeyword_16 (by decide) rfl (fun c16 => ?_) (fun c16 => ?_)
    · refine x_aload_n (q := 30) dX8_takeKeyword_29 rfl rfl ?_
      refine q_callV (ci := 8) (N := 5) (T := TX8) (As := []) (rest := []) (q := 33) dX8_takeKeyword_30 rfl okX8_refuseToken tw_665 rfl rfl (c_rfT h4 h) rfl rfl (Nat.le_of_ble_eq_true rfl) ⟨by decide, by decide⟩ ⟨rfl, rfl⟩ (fun rv_ Vb r_ Kb hv_ => ?_)
      obtain ⟨a1_, hb, a3_⟩ := hv_
      rw [a1_, a3_]
      show Wq MX8_takeKeyword 33 [some (.ref 54), some (.int (nI i))] [] Vb r Kb _
      refine q_vret dX8_takeKeyword_33 rfl ?_
      rw [show tkw T n i s = rfT T n s by unfold tkw; rw [if_pos (f_0 q1 q4 c4), if_neg (fun z => c16 (by rw [hL.2.2.2.2.2.2]; exact (kwI_e (kw_le T n s.2.2) hi).mpr z))]]
      exact ⟨rfl, hb, rfl⟩
    · refine x_aload_n (q := 20) dX8_takeKeyword_19 rfl rfl ?_
      refine q_gr (K := 0) (b := 55) (q := 23) dX8_takeKeyword_20 rfl cl_8 (by decide) tw_365 rfl rfl rfl ?_
      refine q_callV (ci := 6) (N := 9) (T := TX6) (As := []) (rest := []) (q := 26) dX8_takeKeyword_23 rfl okX6_advance tw_673 rfl rfl (c_advP h4 h) rfl rfl (Nat.le_of_ble_eq_true rfl) ⟨by decide, by decide⟩ ⟨rfl, rfl⟩ (fun rv_ Va r_ Ka hv_ => ?_)
      obtain ⟨a1_, ha, a3_⟩ := hv_
      rw [a1_, a3_]
      show Wq MX8_takeKeyword 26 [some (.ref 54), some (.int (nI i))] [] Va r Ka _
      refine x_goto (t := 33) dX8_takeKeyword_26 (by decide) ?_
      refine q_vret dX8_takeKeyword_33 rfl ?_
      rw [show tkw T n i s = adv T n s by unfold tkw; rw [if_pos (f_0 q1 q4 c4), if_pos (by rw [hL.2.2.2.2.2.2] at c16; exact (kwI_e (kw_le T n s.2.2) hi).mp c16)]]
      exact ⟨rfl, ha, rfl⟩
  · refine q_vret dX8_takeKeyword_7 rfl ?_
    rw [show tkw T n i s = s from if_neg (f_1 q1 c4)]
    exact ⟨rfl, ⟨h, FP.rf⟩, rfl⟩
set_option maxRecDepth 100000 in
theorem c_tsc {T : Nat → Nat} {n : Nat} {r : MR} (h4 : r 4 = 1) {X : MI} {J : MJ} {s : Nat × Nat × Nat} (h : PS T n s X J) : Cq yX8_takeSemicolon MX8_takeSemicolon [.ref 54] X r J (RP none T n (tsc T n s) X J r) := by
  have q1 := h.2.2.1
  have q2 := h.2.2.2.1
  have q3 := h.2.2.2.2.1
  have q4 := h.2.2.2.2.2.1
  have hL := h.2.2.2.2.2.2
  refine cq_of [some (.ref 54)] 0 (by decide +kernel) rfl rfl (Nat.le_of_ble_eq_true rfl) rfl ?_
  refine x_aload_n (q := 1) dX8_takeSemicolon_0 rfl rfl ?_
  refine q_gi (K := 2) (q := 4) dX8_takeSemicolon_1 rfl cl_8 (by decide) tw_367 rfl rfl ?_
  refine x_if_eq (t := 8) (q := 7) dX8_takeSemicolon_4 (by decide) rfl (fun c4 => ?_) (fun c4 => ?_)
  · refine x_aload_n (q := 9) dX8_takeSemicolon_8 rfl rfl ?_
    refine q_gr (K := 0) (b := 55) (q := 12) dX8_takeSemicolon_9 rfl cl_8 (by decide) tw_365 rfl rfl rfl ?_
    refine q_gi (K := 4) (q := 15) dX8_takeSemicolon_12 rfl cl_6 (by decide) tw_336 rfl rfl ?_
    refine x_iconst (4) (q := 16) dX8_takeSemicolon_15 rfl (by decide) ?_
    refine x_icmp_ne (t := 29) (q := 19) dX8_takeSemicolon_16 (by decide) rfl (fun c16 => ?_) (fun c16 => ?_)
    · refine x_aload_n (q := 30) dX8_takeSemicolon_29 rfl rfl ?_
      refine q_callV (ci := 8) (N := 5) (T := TX8) (As := []) (rest := []) (q := 33) dX8_takeSemicolon_30 rfl okX8_refuseToken tw_665 rfl rfl (c_rfT h4 h) rfl rfl (Nat.le_of_ble_eq_true rfl) ⟨by decide, by decide⟩ ⟨rfl, rfl⟩ (fun rv_ Vb r_ Kb hv_ => ?_)
      obtain ⟨a1_, hb, a3_⟩ := hv_
      rw [a1_, a3_]
      show Wq MX8_takeSemicolon 33 [some (.ref 54)] [] Vb r Kb _
      refine q_vret dX8_takeSemicolon_33 rfl ?_
      rw [show tsc T n s = rfT T n s by unfold tsc; rw [if_pos (f_0 q1 q4 c4), if_neg (fun z => c16 ((kd_c 4 hL.2.2.1 (by decide) rfl).mpr z))]]
      exact ⟨rfl, hb, rfl⟩
    · refine x_aload_n (q := 20) dX8_takeSemicolon_19 rfl rfl ?_
      refine q_gr (K := 0) (b := 55) (q := 23) dX8_takeSemicolon_20 rfl cl_8 (by decide) tw_365 rfl rfl rfl ?_
      refine q_callV (ci := 6) (N := 9) (T := TX6) (As := []) (rest := []) (q := 26) dX8_takeSemicolon_23 rfl okX6_advance tw_673 rfl rfl (c_advP h4 h) rfl rfl (Nat.le_of_ble_eq_true rfl) ⟨by decide, by decide⟩ ⟨rfl, rfl⟩ (fun rv_ Va r_ Ka hv_ => ?_)
      obtain ⟨a1_, ha, a3_⟩ := hv_
      rw [a1_, a3_]
      show Wq MX8_takeSemicolon 26 [some (.ref 54)] [] Va r Ka _
      refine x_goto (t := 33) dX8_takeSemicolon_26 (by decide) ?_
      refine q_vret dX8_takeSemicolon_33 rfl ?_
      rw [show tsc T n s = adv T n s by unfold tsc; rw [if_pos (f_0 q1 q4 c4), if_pos ((kd_c 4 hL.2.2.1 (by decide) rfl).mp c16)]]
      exact ⟨rfl, ha, rfl⟩
  · refine q_vret dX8_takeSemicolon_7 rfl ?_
    rw [show tsc T n s = s from if_neg (f_1 q1 c4)]
    exact ⟨rfl, ⟨h, FP.rf⟩, rfl⟩
