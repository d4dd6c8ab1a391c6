def KT : Nat → List Nat := fun i => [[121, 97, 114, 100], [119, 97, 121], [104, 111, 117, 114], [115, 108, 105, 112], [99, 97, 108, 108], [104, 97, 114, 109], [100, 101, 112, 111, 116], [115, 116, 111, 114, 101], [103, 114, 97, 115, 115], [114, 111, 97, 100], [98, 114, 105, 100, 103, 101], [114, 111, 111, 102], [115, 108, 111, 112, 101], [116, 114, 97, 102, 102, 105, 99], [119, 97, 114, 109], [116, 97, 107, 101, 115], [102, 97, 108, 108], [116, 101, 109, 112], [119, 101, 116], [119, 101, 105, 103, 104, 116]].getD i []
def K8 : Nat → Nat := fun i => [2036429412, 7823737, 1752135026, 1936484720, 1667329132, 1751216749, 431198596980, 495874699877, 444300620659, 1919902052, 108243533981541, 1919905638, 495740481637, 32776859953817955, 2002874989, 499850634611, 1717660780, 1952804208, 7824756, 131277443786868].getD i 0
def ktx (i : Nat) : Nat → Nat := fun j => (KT i).getD j 0
theorem kt_l : ∀ i, i < 20 → ∀ j, j < (KT i).length → 97 ≤ ktx i (0 + j) ∧ ktx i (0 + j) ≤ 122 := by decide +kernel
theorem kt_5 : ∀ i, i < 20 → c5 (ktx i) 0 (KT i).length = K5 i := by decide +kernel
theorem kt_8 : ∀ i, i < 20 → c8 (ktx i) 0 (KT i).length = K8 i := by decide +kernel
theorem kg_i : ∀ i, i < 20 → kg (K5 i) 20 0 = i := by decide +kernel
theorem K8_lt : ∀ i, i < 20 → K8 i < 2 ^ 63 := by decide +kernel
theorem kg_s {w : Nat} : ∀ f i, i + f = 20 → kg w f i < 20 → K5 (kg w f i) = w := by
  intro f
  induction f with
  | zero => intro i _ h; exact absurd h (by unfold kg; omega)
  | succ f ih =>
    intro i h hl
    unfold kg at hl ⊢
    by_cases e : K5 i = w
    · rw [if_pos e]; exact e
    · rw [if_neg e] at hl ⊢; exact ih (i + 1) (by omega) hl
theorem w_let {T : Nat → Nat} {n q : Nat} : ∀ i, i < wde T n q - q → 97 ≤ T (q + i) ∧ T (q + i) ≤ 122 := fun i hi => ltr_lo (rlp_in (n := n) (p := q) (by omega) (by unfold wde at hi; omega))
theorem kw_w8 {T : Nat → Nat} {n p i : Nat} (hi : i < 20) (hk : kd T n p = 2) : w8 T n p = K8 i ↔ kw T n p = i := by
  have e : kw T n p = kg (w5 T n p) 20 0 := by unfold kw kwQ; rw [if_pos (show kdQ T n (sk T n p) = 2 from hk)]; rfl
  have q := c_in (T := T) (T' := ktx i) (q := sk T n p) (q' := 0) (wde T n (sk T n p) - sk T n p) (KT i).length w_let (kt_l i hi)
  rw [kt_5 i hi, kt_8 i hi] at q
  rw [e]
  constructor
  · intro z
    rw [show w5 T n p = K5 i from q.mpr z]
    exact kg_i i hi
  · intro z
    have z2 := kg_s (w := w5 T n p) 20 0 rfl (by omega)
    rw [z] at z2
    exact q.mp z2.symm
theorem kw_2 {T : Nat → Nat} {n p : Nat} (h : kw T n p < 20) : kd T n p = 2 := by
  by_cases e : kd T n p = 2
  · exact e
  · have : kw T n p = 20 := by unfold kw kwQ; exact if_neg e
    omega
theorem c8_lt {T : Nat → Nat} {q : Nat} : ∀ k, (∀ i, i < k → 97 ≤ T (q + i) ∧ T (q + i) ≤ 122) → c8 T q k < 128 * 256 ^ (k - 1) + (if k = 0 then 1 else 0) := by
  intro k
  induction k with
  | zero => intro _; show 0 < _; decide
  | succ k ih =>
    intro h
    have h1 := h k (by omega)
    have h2 := ih (fun i hi => h i (by omega))
    rw [if_neg (by omega), show k + 1 - 1 = k by omega, Nat.add_zero]
    unfold c8
    cases k with
    | zero => show 256 * 0 + _ < _; rw [Nat.pow_zero]; omega
    | succ k =>
      rw [if_neg (by omega), show k + 1 - 1 = k by omega, Nat.add_zero] at h2
      rw [Nat.pow_succ]
      omega
theorem w8_lt {T : Nat → Nat} {n p : Nat} (h : kd T n p = 2) : w8 T n p < 2 ^ 63 := by
  have h8 := (kd2 h).2.2
  have h1 := c8_lt (T := T) (q := sk T n p) (wde T n (sk T n p) - sk T n p) w_let
  have hp : 256 ^ (wde T n (sk T n p) - sk T n p - 1) ≤ 256 ^ 7 := Nat.pow_le_pow_right (by decide) (by omega)
  have h3 : (if wde T n (sk T n p) - sk T n p = 0 then 1 else 0) ≤ 1 := by
    by_cases z : wde T n (sk T n p) - sk T n p = 0
    · rw [if_pos z]; decide
    · rw [if_neg z]; decide
  have hq : wde T n (sk T n p) - sk T n p ≠ 0 := by
    have g := kd2 h
    have g2 := rlp_1 (g := ltr) g.1 g.2.1
    have g3 := rlp_b (g := ltr) (T := T) (n := n) (p := sk T n p + 1) (by have := g.1; omega)
    unfold wde
    rw [g2]
    omega
  rw [if_neg hq, Nat.add_zero] at h1
  unfold w8 w8Q
  omega
/-- the model's reading -/
def PM (T : Nat → Nat) (n : Nat) (s : Nat × Nat × Nat) (M : MI) (J : MJ) : Prop := TXM T n M ∧ M 100 5 = nI n ∧ M 100 2 = nI s.1 ∧ (M 100 3 = if s.1 = 0 then -1 else nI s.2.1) ∧ s.2.2 ≤ n ∧ s.1 ≤ 5 ∧ (s.1 = 0 → MLx T n (sk T n s.2.2) M J)
def FM (M : MI) (J : MJ) (Y : MI) (K : MJ) : Prop := (∀ c, c ≠ 100 → Y c = M c) ∧ (∀ j, j ≠ 2 → j ≠ 3 → j ≠ 4 → j ≠ 6 → j ≠ 7 → j ≠ 8 → Y 100 j = M 100 j) ∧ JM J K
theorem FM.rf {M : MI} {J : MJ} : FM M J M J := ⟨fun _ _ => rfl, fun _ _ _ _ _ _ _ => rfl, fun _ _ _ => rfl⟩
theorem FM.tr {M Y Z : MI} {J K L : MJ} (h1 : FM M J Y K) (h2 : FM Y K Z L) : FM M J Z L := ⟨fun c e => (h2.1 c e).trans (h1.1 c e), fun j a1 a2 a3 a4 a5 a6 => (h2.2.1 j a1 a2 a3 a4 a5 a6).trans (h1.2.1 j a1 a2 a3 a4 a5 a6), fun c k e => (h2.2.2 c k e).trans (h1.2.2 c k e)⟩
def RM (x : Option Value) (T : Nat → Nat) (n : Nat) (s : Nat × Nat × Nat) (M : MI) (J : MJ) (r : MR) : Option Value → MI → MR → MJ → Prop := fun v Y r' K => v = x ∧ PM T n s Y K ∧ FM M J Y K ∧ r' = r
theorem ms_i : ∀ a, a < 6 → ∀ k, k < 6 → (msI a = msI k ↔ a = k) := by decide +kernel
theorem ms_c {T : Nat → Nat} {n p : Nat} {y z : Int32} (k : Nat) (h : y = msI (kdQ T n (sk T n p))) (hk : k ≤ 5) (hz : z = msI k) : y = z ↔ kd T n p = k := by
  have h5 := kd_le T n p
  unfold kd at h5 ⊢
  rw [h, hz]
  generalize kdQ T n (sk T n p) = a at h5 ⊢
  exact ms_i a (by omega) k (by omega)
theorem f_le {x : Nat} {y : Int32} (h : y = nI x) (hx : x ≤ 5) : y ≤ 0 ↔ x = 0 := by
  rw [h, show (0 : Int32) = nI 0 from rfl, nI_leI (by omega) (by decide)]
  omega
theorem c_tokP {T : Nat → Nat} {n : Nat} (r : MR) {M : MI} {J : MJ} {s : Nat × Nat × Nat} (h : PM T n s M J) (h0 : s.1 = 0) (hk : ¬ kd T n s.2.2 = 1) : Cq yX12_token MX12_token [.ref 100] M r J (RM none T n (adv T n s) M J r) := by
  obtain ⟨h1, h2, h3, h5, h6, h7, hL⟩ := h
  have hL := hL h0
  have hb := en_b (T := T) h6
  refine cq_mono (fun v Y r' K hv => ?_) (c_tok h1 h2 r (p := en T n s.2.2) hb.2 (by rw [hL.1, if_neg (show ¬ kdQ T n (sk T n s.2.2) = 1 from hk)]; rfl))
  obtain ⟨a1, ⟨a2, a3, a4⟩, a5, a6⟩ := hv
  refine ⟨a1, ⟨⟨h1.1, fun j hj => by rw [a2 101 (by decide)]; exact h1.2 j hj⟩, by rw [a3 5 (by decide) (by decide) (by decide) (by decide)]; exact h2, by rw [a3 2 (by decide) (by decide) (by decide) (by decide)]; exact h3, by rw [a3 3 (by decide) (by decide) (by decide) (by decide)]; exact h5, hb.2, h7, fun _ => a5⟩, ⟨a2, fun j _ _ e4 e6 e7 e8 => a3 j e4 e6 e7 e8, a4⟩, a6⟩
set_option maxRecDepth 100000 in
theorem c_wrA {T : Nat → Nat} {n : Nat} (r : MR) {M : MI} {J : MJ} {s : Nat × Nat × Nat} (h : PM T n s M J) {k g : Nat} (hk : 1 ≤ k ∧ k ≤ 5) (hg : g ≤ n) : Cq yX12_wrongAt MX12_wrongAt [.ref 100, .int (nI k), .int (nI g)] M r J (RM none T n (rf (if kd T n s.2.2 = 1 ∧ g = sk T n s.2.2 then 1 else k) g s) M J r) := by
  have q1 := h.2.2.1
  have q2 := h.2.2.2.1
  have q3 := h.2.2.2.2.1
  have q4 := h.2.2.2.2.2.1
  have hn := h.1.1
  refine cq_of [some (.ref 100), some (.int (nI k)), some (.int (nI g))] 0 (by decide +kernel) rfl rfl (Nat.le_of_ble_eq_true rfl) rfl ?_
  refine x_aload_n (q := 1) dX12_wrongAt_0 rfl rfl ?_
  refine q_gi (K := 2) (q := 4) dX12_wrongAt_1 rfl cl_12 (by decide) tw_1084 rfl rfl ?_
  refine x_if_le (t := 8) (q := 7) dX12_wrongAt_4 (by decide) rfl (fun c4 => ?_) (fun c4 => ?_)
  · refine x_aload_n (q := 9) dX12_wrongAt_8 rfl rfl ?_
    refine x_aload_n (q := 10) dX12_wrongAt_9 rfl rfl ?_
    refine q_gi (K := 6) (q := 13) dX12_wrongAt_10 rfl cl_12 (by decide) tw_1088 rfl rfl ?_
    refine x_iconst (3) (q := 14) dX12_wrongAt_13 rfl (by decide) ?_
    refine x_icmp_ne (t := 29) (q := 17) dX12_wrongAt_14 (by decide) rfl (fun c14 => ?_) (fun c14 => ?_)
    · refine x_iload_n (q := 30) dX12_wrongAt_29 rfl rfl ?_
      obtain ⟨kk, hkk⟩ : ∃ z, z = k := ⟨_, rfl⟩
      have ekk : (nI k : Int32) = nI kk := by rw [hkk]
      have hkb : 1 ≤ kk ∧ kk ≤ 5 := by rw [hkk]; exact hk
      skip
      refine q_pi (K := 2) (q := 33) dX12_wrongAt_30 rfl cl_12 (by decide) tw_1084 rfl rfl rfl rfl (fun I21 eI21 => ?_)
      refine x_aload_n (q := 34) dX12_wrongAt_33 rfl rfl ?_
      refine x_iload_n (q := 35) dX12_wrongAt_34 rfl rfl ?_
      refine q_pi (K := 3) (q := 38) dX12_wrongAt_35 rfl cl_12 (by decide) tw_1085 rfl rfl rfl rfl (fun I22 eI22 => ?_)
      refine q_vret dX12_wrongAt_38 rfl ?_
      have n0 : s.1 = 0 := (f_le q1 q4).mp c4
      have hL := h.2.2.2.2.2.2 n0
      have hkg : (if kd T n s.2.2 = 1 ∧ g = sk T n s.2.2 then 1 else k) = kk := by
        rw [hkk]
        first
        | exact if_pos ⟨(ms_c 1 hL.2.1 (by decide) rfl).mp c14, (nI_eq (by omega) (by have := (sk_b (T := T) q3).2; have := h.1.1; omega)).mp (by rw [hL.2.2.1] at cg; exact cg)⟩
        | exact if_neg (fun z => cg (by rw [hL.2.2.1, ← z.2]))
        | exact if_neg (fun z => c14 ((ms_c 1 hL.2.1 (by decide) rfl).mpr z.1))
      rw [hkg, show rf kk g s = (kk, g, s.2.2) from if_pos n0, eI22, eI21]
      refine ⟨rfl, ⟨⟨h.1.1, fun j hj => by rw [upc (by decide), upc (by decide)]; exact h.1.2 j hj⟩, by rw [ups (by decide), ups (by decide)]; exact h.2.1, by rw [ups (by decide), upq]; exact ekk, by rw [upq, if_neg (show ¬ kk = 0 by omega)], q3, by show kk ≤ 5; omega, fun z => absurd z (show ¬ kk = 0 by omega)⟩, ⟨fun c e => by rw [upc e, upc e], fun j e2 e3 _ _ _ _ => by rw [ups e3, ups e2], fun _ _ _ => rfl⟩, rfl⟩
    · refine x_iload_n (q := 18) dX12_wrongAt_17 rfl rfl ?_
      refine x_aload_n (q := 19) dX12_wrongAt_18 rfl rfl ?_
      refine q_gi (K := 7) (q := 22) dX12_wrongAt_19 rfl cl_12 (by decide) tw_1089 rfl rfl ?_
      refine x_icmp_ne (t := 29) (q := 25) dX12_wrongAt_22 (by decide) rfl (fun cg => ?_) (fun cg => ?_)
      · refine x_iload_n (q := 30) dX12_wrongAt_29 rfl rfl ?_
        obtain ⟨kk, hkk⟩ : ∃ z, z = k := ⟨_, rfl⟩
        have ekk : (nI k : Int32) = nI kk := by rw [hkk]
        have hkb : 1 ≤ kk ∧ kk ≤ 5 := by rw [hkk]; exact hk
        skip
        refine q_pi (K := 2) (q := 33) dX12_wrongAt_30 rfl cl_12 (by decide) tw_1084 rfl rfl rfl rfl (fun I21 eI21 => ?_)
        refine x_aload_n (q := 34) dX12_wrongAt_33 rfl rfl ?_
        refine x_iload_n (q := 35) dX12_wrongAt_34 rfl rfl ?_
        refine q_pi (K := 3) (q := 38) dX12_wrongAt_35 rfl cl_12 (by decide) tw_1085 rfl rfl rfl rfl (fun I22 eI22 => ?_)
        refine q_vret dX12_wrongAt_38 rfl ?_
        have n0 : s.1 = 0 := (f_le q1 q4).mp c4
        have hL := h.2.2.2.2.2.2 n0
        have hkg : (if kd T n s.2.2 = 1 ∧ g = sk T n s.2.2 then 1 else k) = kk := by
          rw [hkk]
          first
          | exact if_pos ⟨(ms_c 1 hL.2.1 (by decide) rfl).mp c14, (nI_eq (by omega) (by have := (sk_b (T := T) q3).2; have := h.1.1; omega)).mp (by rw [hL.2.2.1] at cg; exact cg)⟩
          | exact if_neg (fun z => cg (by rw [hL.2.2.1, ← z.2]))
          | exact if_neg (fun z => c14 ((ms_c 1 hL.2.1 (by decide) rfl).mpr z.1))
        rw [hkg, show rf kk g s = (kk, g, s.2.2) from if_pos n0, eI22, eI21]
        refine ⟨rfl, ⟨⟨h.1.1, fun j hj => by rw [upc (by decide), upc (by decide)]; exact h.1.2 j hj⟩, by rw [ups (by decide), ups (by decide)]; exact h.2.1, by rw [ups (by decide), upq]; exact ekk, by rw [upq, if_neg (show ¬ kk = 0 by omega)], q3, by show kk ≤ 5; omega, fun z => absurd z (show ¬ kk = 0 by omega)⟩, ⟨fun c e => by rw [upc e, upc e], fun j e2 e3 _ _ _ _ => by rw [ups e3, ups e2], fun _ _ _ => rfl⟩, rfl⟩
      · refine x_iconst (1) (q := 26) dX12_wrongAt_25 rfl (by decide) ?_
        refine x_goto (t := 30) dX12_wrongAt_26 (by decide) ?_
        obtain ⟨kk, hkk⟩ : ∃ z, z = 1 := ⟨_, rfl⟩
        have ekk : (1 : Int32) = nI kk := by rw [hkk]; rfl
        have hkb : 1 ≤ kk ∧ kk ≤ 5 := by rw [hkk]; decide
        skip
        refine q_pi (K := 2) (q := 33) dX12_wrongAt_30 rfl cl_12 (by decide) tw_1084 rfl rfl rfl rfl (fun I21 eI21 => ?_)
        refine x_aload_n (q := 34) dX12_wrongAt_33 rfl rfl ?_
        refine x_iload_n (q := 35) dX12_wrongAt_34 rfl rfl ?_
        refine q_pi (K := 3) (q := 38) dX12_wrongAt_35 rfl cl_12 (by decide) tw_1085 rfl rfl rfl rfl (fun I22 eI22 => ?_)
        refine q_vret dX12_wrongAt_38 rfl ?_
        have n0 : s.1 = 0 := (f_le q1 q4).mp c4
        have hL := h.2.2.2.2.2.2 n0
        have hkg : (if kd T n s.2.2 = 1 ∧ g = sk T n s.2.2 then 1 else k) = kk := by
          rw [hkk]
          first
          | exact if_pos ⟨(ms_c 1 hL.2.1 (by decide) rfl).mp c14, (nI_eq (by omega) (by have := (sk_b (T := T) q3).2; have := h.1.1; omega)).mp (by rw [hL.2.2.1] at cg; exact cg)⟩
          | exact if_neg (fun z => cg (by rw [hL.2.2.1, ← z.2]))
          | exact if_neg (fun z => c14 ((ms_c 1 hL.2.1 (by decide) rfl).mpr z.1))
        rw [hkg, show rf kk g s = (kk, g, s.2.2) from if_pos n0, eI22, eI21]
        refine ⟨rfl, ⟨⟨h.1.1, fun j hj => by rw [upc (by decide), upc (by decide)]; exact h.1.2 j hj⟩, by rw [ups (by decide), ups (by decide)]; exact h.2.1, by rw [ups (by decide), upq]; exact ekk, by rw [upq, if_neg (show ¬ kk = 0 by omega)], q3, by show kk ≤ 5; omega, fun z => absurd z (show ¬ kk = 0 by omega)⟩, ⟨fun c e => by rw [upc e, upc e], fun j e2 e3 _ _ _ _ => by rw [ups e3, ups e2], fun _ _ _ => rfl⟩, rfl⟩
  · refine q_vret dX12_wrongAt_7 rfl ?_
    have n0 : ¬ s.1 = 0 := fun z => c4 ((f_le q1 q4).mpr z)
    rw [rf_s n0]
    exact ⟨rfl, h, FM.rf, rfl⟩
set_option maxRecDepth 100000 in
theorem c_wr {T : Nat → Nat} {n : Nat} (r : MR) {M : MI} {J : MJ} {s : Nat × Nat × Nat} (h : PM T n s M J) {k : Nat} (hk : 1 ≤ k ∧ k ≤ 5) (h0 : s.1 = 0) : Cq yX12_wrong MX12_wrong [.ref 100, .int (nI k)] M r J (RM none T n (rf (if kd T n s.2.2 = 1 then 1 else k) (sk T n s.2.2) s) M J r) := by
  have q1 := h.2.2.1
  have q2 := h.2.2.2.1
  have q3 := h.2.2.2.2.1
  have q4 := h.2.2.2.2.2.1
  obtain ⟨g0, hge⟩ : ∃ z, z = sk T n s.2.2 := ⟨_, rfl⟩
  have hg0 : g0 ≤ n := by rw [hge]; exact (sk_b q3).2
  have hpl : M 100 7 = nI g0 := by rw [hge]; exact (h.2.2.2.2.2.2 h0).2.2.1
  have hst : rf (if kd T n s.2.2 = 1 ∧ g0 = sk T n s.2.2 then 1 else k) g0 s = (rf (if kd T n s.2.2 = 1 then 1 else k) (sk T n s.2.2) s) := by
    by_cases z : kd T n s.2.2 = 1
    · rw [if_pos ⟨z, hge⟩, if_pos z, hge]
    · rw [if_neg (fun y => z y.1), if_neg z, hge]
  refine cq_of [some (.ref 100), some (.int (nI k))] 0 (by decide +kernel) rfl rfl (Nat.le_of_ble_eq_true rfl) rfl ?_
  refine x_aload_n (q := 1) dX12_wrong_0 rfl rfl ?_
  refine x_iload_n (q := 2) dX12_wrong_1 rfl rfl ?_
  refine x_aload_n (q := 3) dX12_wrong_2 rfl rfl ?_
  refine q_gi (K := 7) (q := 6) dX12_wrong_3 rfl cl_12 (by decide) tw_1089 rfl rfl ?_
  refine q_callV (ci := 12) (N := 79) (T := TX12) (As := [.int (nI k), .int (M 100 7)]) (rest := []) (q := 9) dX12_wrong_6 rfl okX12_wrongAt tw_1394 rfl rfl (by rw [hpl]; exact c_wrA r h (k := k) (g := g0) hk hg0) rfl rfl (Nat.le_of_ble_eq_true rfl) ⟨by decide, by decide⟩ ⟨rfl, rfl⟩ (fun rv_ V r_ K hv_ => ?_)
  obtain ⟨a1_, hV, hF, a3_⟩ := hv_
  rw [a1_, a3_]
  show Wq MX12_wrong 9 [some (.ref 100), some (.int (nI k))] [] V r K _
  refine q_vret dX12_wrong_9 rfl ?_
  rw [hst] at hV
  exact ⟨rfl, hV, hF, rfl⟩
set_option maxRecDepth 100000 in
theorem c_isW_g {T : Nat → Nat} {n : Nat} (r : MR) {M : MI} {J : MJ} {s : Nat × Nat × Nat} (h : PM T n s M J) (h0 : s.1 = 0) {i : Nat} (hi : i < 20) (hk : kw T n s.2.2 = i) : Cq yX12_isWord MX12_isWord [.ref 100, .long (lN (K8 i))] M r J (Rt (some (.int 1)) M r J) := by
  have hL := h.2.2.2.2.2.2 h0
  refine cq_of [some (.ref 100), some (.long (lN (K8 i))), none] 0 (by decide +kernel) rfl rfl (Nat.le_of_ble_eq_true rfl) rfl ?_
  refine x_aload_n (q := 1) dX12_isWord_0 rfl rfl ?_
  refine q_gi (K := 6) (q := 4) dX12_isWord_1 rfl cl_12 (by decide) tw_1088 rfl rfl ?_
  refine x_iconst (1) (q := 5) dX12_isWord_4 rfl (by decide) ?_
  refine x_icmp_ne (t := 21) (q := 8) dX12_isWord_5 (by decide) rfl (fun c5 => absurd c5 (fun z => z ((ms_c 2 hL.2.1 (by decide) rfl).mpr (kw_2 (by omega))))) (fun c5 => ?_)
  refine x_aload_n (q := 9) dX12_isWord_8 rfl rfl ?_
  refine q_gl (K := 9) (q := 12) dX12_isWord_9 rfl cl_12 (by decide) tw_1091 rfl rfl ?_
  refine x_lload_n (q := 13) dX12_isWord_12 rfl rfl ?_
  refine x_lcmp (q := 14) dX12_isWord_13 rfl ?_
  refine x_if_ne (t := 21) (q := 17) dX12_isWord_14 (by decide) rfl (fun c14 => absurd c14 (fun z => z ((lcmp_z _ _).mpr (by rw [hL.2.2.2.2 (kw_2 (by omega))]; congr 1; exact (kw_w8 hi (kw_2 (by omega))).mpr hk)))) (fun c14 => ?_)
  refine x_iconst (1) (q := 18) dX12_isWord_17 rfl (by decide) ?_
  refine x_goto (t := 22) dX12_isWord_18 (by decide) ?_
  refine q_zret dX12_isWord_22 rfl (Or.inr rfl) ?_
  exact ⟨rfl, rfl, rfl, rfl⟩
set_option maxRecDepth 100000 in
theorem c_isW_b {T : Nat → Nat} {n : Nat} (r : MR) {M : MI} {J : MJ} {s : Nat × Nat × Nat} (h : PM T n s M J) (h0 : s.1 = 0) {i : Nat} (hi : i < 20) (hk : ¬ kw T n s.2.2 = i) : Cq yX12_isWord MX12_isWord [.ref 100, .long (lN (K8 i))] M r J (Rt (some (.int 0)) M r J) := by
  have hL := h.2.2.2.2.2.2 h0
  refine cq_of [some (.ref 100), some (.long (lN (K8 i))), none] 0 (by decide +kernel) rfl rfl (Nat.le_of_ble_eq_true rfl) rfl ?_
  refine x_aload_n (q := 1) dX12_isWord_0 rfl rfl ?_
  refine q_gi (K := 6) (q := 4) dX12_isWord_1 rfl cl_12 (by decide) tw_1088 rfl rfl ?_
  refine x_iconst (1) (q := 5) dX12_isWord_4 rfl (by decide) ?_
  refine x_icmp_ne (t := 21) (q := 8) dX12_isWord_5 (by decide) rfl (fun c5 => ?_) (fun c5 => ?_)
  · refine x_iconst (0) (q := 22) dX12_isWord_21 rfl (by decide) ?_
    refine q_zret dX12_isWord_22 rfl (Or.inl rfl) ?_
    exact ⟨rfl, rfl, rfl, rfl⟩
  · refine x_aload_n (q := 9) dX12_isWord_8 rfl rfl ?_
    refine q_gl (K := 9) (q := 12) dX12_isWord_9 rfl cl_12 (by decide) tw_1091 rfl rfl ?_
    refine x_lload_n (q := 13) dX12_isWord_12 rfl rfl ?_
    refine x_lcmp (q := 14) dX12_isWord_13 rfl ?_
    refine x_if_ne (t := 21) (q := 17) dX12_isWord_14 (by decide) rfl (fun c14 => ?_) (fun c14 => ?_)
    · refine x_iconst (0) (q := 22) dX12_isWord_21 rfl (by decide) ?_
      refine q_zret dX12_isWord_22 rfl (Or.inl rfl) ?_
      exact ⟨rfl, rfl, rfl, rfl⟩
    · have k2 := (ms_c 2 hL.2.1 (by decide) rfl).mp c5
      rw [lcmp_z, hL.2.2.2.2 k2] at c14
      exact absurd ((kw_w8 hi k2).mp ((lN_inj63 (w8_lt k2) (K8_lt i hi)).mp c14)) hk
set_option maxRecDepth 100000 in
theorem c_wan_g {T : Nat → Nat} {n : Nat} (r : MR) {M : MI} {J : MJ} {s : Nat × Nat × Nat} (h : PM T n s M J) (h0 : s.1 = 0) {i : Nat} (hi : i < 20) (hk : kw T n s.2.2 = i) : Cq yX12_want MX12_want [.ref 100, .long (lN (K8 i))] M r J (RM none T n (adv T n s) M J r) := by
  have q1 := h.2.2.1
  have q2 := h.2.2.2.1
  have q3 := h.2.2.2.2.1
  have q4 := h.2.2.2.2.2.1
  refine cq_of [some (.ref 100), some (.long (lN (K8 i))), none] 0 (by decide +kernel) rfl rfl (Nat.le_of_ble_eq_true rfl) rfl ?_
  refine x_aload_n (q := 1) dX12_want_0 rfl rfl ?_
  refine q_gi (K := 2) (q := 4) dX12_want_1 rfl cl_12 (by decide) tw_1084 rfl rfl ?_
  refine x_if_le (t := 8) (q := 7) dX12_want_4 (by decide) rfl (fun c4 => ?_) (fun c4 => absurd c4 (fun z => z ((f_le q1 q4).mpr h0)))
  refine x_aload_n (q := 9) dX12_want_8 rfl rfl ?_
  refine x_lload_n (q := 10) dX12_want_9 rfl rfl ?_
  refine q_callV (ci := 12) (N := 79) (T := TX12) (As := [.long (lN (K8 i))]) (rest := []) (q := 13) dX12_want_10 rfl okX12_isWord tw_1359 rfl rfl (c_isW_g r h h0 hi hk) rfl rfl (Nat.le_of_ble_eq_true rfl) ⟨by decide, by decide⟩ ⟨rfl, rfl⟩ (fun rv_ I_ r_ J_ hv_ => ?_)
  obtain ⟨a1_, a2_, a3_, a4_⟩ := hv_
  rw [a1_, a2_, a3_, a4_]
  show Wq MX12_want 13 [some (.ref 100), some (.long (lN (K8 i))), none] [.int 1] M r J _
  refine x_if_ne (t := 24) (q := 16) dX12_want_13 (by decide) rfl (fun c13 => ?_) (fun c13 => absurd c13 ((by decide)))
  refine x_aload_n (q := 25) dX12_want_24 rfl rfl ?_
  refine q_callV (ci := 12) (N := 79) (T := TX12) (As := []) (rest := []) (q := 28) dX12_want_25 rfl okX12_token tw_1340 rfl rfl (c_tokP r h h0 (by rw [kw_2 (by omega)]; decide)) rfl rfl (Nat.le_of_ble_eq_true rfl) ⟨by decide, by decide⟩ ⟨rfl, rfl⟩ (fun rv_ V r_ K hv_ => ?_)
  obtain ⟨a1_, hV, hF, a3_⟩ := hv_
  rw [a1_, a3_]
  show Wq MX12_want 28 [some (.ref 100), some (.long (lN (K8 i))), none] [] V r K _
  refine q_vret dX12_want_28 rfl ?_
  exact ⟨rfl, hV, hF, rfl⟩
set_option maxRecDepth 100000 in
theorem c_wan_b {T : Nat → Nat} {n : Nat} (r : MR) {M : MI} {J : MJ} {s : Nat × Nat × Nat} (h : PM T n s M J) (h0 : s.1 = 0) {i : Nat} (hi : i < 20) (hk : ¬ kw T n s.2.2 = i) : Cq yX12_want MX12_want [.ref 100, .long (lN (K8 i))] M r J (RM none T n (rfT T n s) M J r) := by
  have q1 := h.2.2.1
  have q2 := h.2.2.2.1
  have q3 := h.2.2.2.2.1
  have q4 := h.2.2.2.2.2.1
  refine cq_of [some (.ref 100), some (.long (lN (K8 i))), none] 0 (by decide +kernel) rfl rfl (Nat.le_of_ble_eq_true rfl) rfl ?_
  refine x_aload_n (q := 1) dX12_want_0 rfl rfl ?_
  refine q_gi (K := 2) (q := 4) dX12_want_1 rfl cl_12 (by decide) tw_1084 rfl rfl ?_
  refine x_if_le (t := 8) (q := 7) dX12_want_4 (by decide) rfl (fun c4 => ?_) (fun c4 => absurd c4 (fun z => z ((f_le q1 q4).mpr h0)))
  refine x_aload_n (q := 9) dX12_want_8 rfl rfl ?_
  refine x_lload_n (q := 10) dX12_want_9 rfl rfl ?_
  refine q_callV (ci := 12) (N := 79) (T := TX12) (As := [.long (lN (K8 i))]) (rest := []) (q := 13) dX12_want_10 rfl okX12_isWord tw_1359 rfl rfl (c_isW_b r h h0 hi hk) rfl rfl (Nat.le_of_ble_eq_true rfl) ⟨by decide, by decide⟩ ⟨rfl, rfl⟩ (fun rv_ I_ r_ J_ hv_ => ?_)
  obtain ⟨a1_, a2_, a3_, a4_⟩ := hv_
  rw [a1_, a2_, a3_, a4_]
  show Wq MX12_want 13 [some (.ref 100), some (.long (lN (K8 i))), none] [.int 0] M r J _
  refine x_if_ne (t := 24) (q := 16) dX12_want_13 (by decide) rfl (fun c13 => absurd c13 ((by decide))) (fun c13 => ?_)
  refine x_aload_n (q := 17) dX12_want_16 rfl rfl ?_
  refine x_iconst (2) (q := 18) dX12_want_17 rfl (by decide) ?_
  refine q_callV (ci := 12) (N := 79) (T := TX12) (As := [.int 2]) (rest := []) (q := 21) dX12_want_18 rfl okX12_wrong tw_1390 rfl rfl (c_wr r h (k := 2) (by decide) h0) rfl rfl (Nat.le_of_ble_eq_true rfl) ⟨by decide, by decide⟩ ⟨rfl, rfl⟩ (fun rv_ V r_ K hv_ => ?_)
  obtain ⟨a1_, hV, hF, a3_⟩ := hv_
  rw [a1_, a3_]
  show Wq MX12_want 21 [some (.ref 100), some (.long (lN (K8 i))), none] [] V r K _
  refine x_goto (t := 28) dX12_want_21 (by decide) ?_
  refine q_vret dX12_want_28 rfl ?_
  exact ⟨rfl, hV, hF, rfl⟩
set_option maxRecDepth 100000 in
theorem c_wan_f {T : Nat → Nat} {n : Nat} (r : MR) {M : MI} {J : MJ} {s : Nat × Nat × Nat} (h : PM T n s M J) (h0 : ¬ s.1 = 0) (x : Int64) : Cq yX12_want MX12_want [.ref 100, .long x] M r J (RM none T n s M J r) := by
  have q1 := h.2.2.1
  have q2 := h.2.2.2.1
  have q3 := h.2.2.2.2.1
  have q4 := h.2.2.2.2.2.1
  refine cq_of [some (.ref 100), some (.long x), none] 0 (by decide +kernel) rfl rfl (Nat.le_of_ble_eq_true rfl) rfl ?_
  refine x_aload_n (q := 1) dX12_want_0 rfl rfl ?_
  refine q_gi (K := 2) (q := 4) dX12_want_1 rfl cl_12 (by decide) tw_1084 rfl rfl ?_
  refine x_if_le (t := 8) (q := 7) dX12_want_4 (by decide) rfl (fun c4 => absurd c4 (fun z => h0 ((f_le q1 q4).mp z))) (fun c4 => ?_)
  refine q_vret dX12_want_7 rfl ?_
  exact ⟨rfl, h, FM.rf, rfl⟩
theorem c_wan {T : Nat → Nat} {n : Nat} (r : MR) {M : MI} {J : MJ} {s : Nat × Nat × Nat} (h : PM T n s M J) {i : Nat} (hi : i < 20) : Cq yX12_want MX12_want [.ref 100, .long (lN (K8 i))] M r J (RM none T n (tkw T n i s) M J r) := by
  by_cases h0 : s.1 = 0
  · by_cases hk : kw T n s.2.2 = i
    · rw [show tkw T n i s = adv T n s by unfold tkw; rw [if_pos h0, if_pos hk]]
      exact c_wan_g r h h0 hi hk
    · rw [show tkw T n i s = rfT T n s by unfold tkw; rw [if_pos h0, if_neg hk]]
      exact c_wan_b r h h0 hi hk
  · rw [show tkw T n i s = s from if_neg h0]
    exact c_wan_f r h h0 _
