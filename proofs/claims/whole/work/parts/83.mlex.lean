def TXM (T : Nat → Nat) (n : Nat) (M : MI) : Prop := n ≤ 1700 ∧ ∀ j, j < n → T j < 256 ∧ M 101 j = nI (T j)
def hrF (T : Nat → Nat) (n i : Nat) : Int32 := if i < n then nI (T i) else -1
def msI (k : Nat) : Int32 := if k = 1 then 3 else if k = 2 then 1 else if k = 3 then 2 else if k = 4 then 59 else if k = 5 then 45 else 0
def Lm (q : Nat) (M Y : MI) : Prop := (∀ c, c ≠ 100 → Y c = M c) ∧ (∀ j, j ≠ 4 → j ≠ 6 → j ≠ 7 → j ≠ 8 → Y 100 j = M 100 j) ∧ Y 100 4 = nI q
def JM (J K : MJ) : Prop := ∀ c k, ¬ (c = 100 ∧ k = 9) → K c k = J c k
def MLx (T : Nat → Nat) (n q : Nat) (Y : MI) (K : MJ) : Prop := Y 100 4 = nI (if kdQ T n q = 1 then q else enQ T n q) ∧ Y 100 6 = msI (kdQ T n q) ∧ Y 100 7 = nI q ∧ (kdQ T n q = 3 → Y 100 8 = nI (vlQ T n q)) ∧ (kdQ T n q = 2 → K 100 9 = lN (w8Q T n q))
def MFr (M : MI) (J : MJ) (Y : MI) (K : MJ) : Prop := (∀ c, c ≠ 100 → Y c = M c) ∧ (∀ j, j ≠ 4 → j ≠ 6 → j ≠ 7 → j ≠ 8 → Y 100 j = M 100 j) ∧ JM J K
theorem hr_32 {T : Nat → Nat} {n i : Nat} (hT : ∀ j, j < n → T j < 256) : hrF T n i = 32 ↔ i < n ∧ T i = 32 := by
  unfold hrF
  by_cases e : i < n
  · rw [if_pos e, show (32 : Int32) = nI 32 from rfl, nI_eq (by have := hT i e; omega) (by decide)]; exact ⟨fun z => ⟨e, z⟩, fun z => z.2⟩
  · rw [if_neg e]; exact ⟨fun z => absurd z (by decide), fun z => absurd z.1 e⟩
theorem hr_10 {T : Nat → Nat} {n i : Nat} (hT : ∀ j, j < n → T j < 256) : hrF T n i = 10 ↔ i < n ∧ T i = 10 := by
  unfold hrF
  by_cases e : i < n
  · rw [if_pos e, show (10 : Int32) = nI 10 from rfl, nI_eq (by have := hT i e; omega) (by decide)]; exact ⟨fun z => ⟨e, z⟩, fun z => z.2⟩
  · rw [if_neg e]; exact ⟨fun z => absurd z (by decide), fun z => absurd z.1 e⟩
theorem hr_l {T : Nat → Nat} {n i : Nat} (hT : ∀ j, j < n → T j < 256) : ¬ lI (hrF T n i) = 0 ↔ i < n ∧ ltr (T i) = true := by
  unfold hrF
  by_cases e : i < n
  · rw [if_pos e, lI_n _ (hT i e)]
    cases ltr (T i) with
    | false => exact ⟨fun z => absurd rfl z, fun z => absurd z.2 (by decide)⟩
    | true => exact ⟨fun _ => ⟨e, rfl⟩, fun _ => by decide⟩
  · rw [if_neg e]; exact ⟨fun z => absurd (by decide) z, fun z => absurd z.1 e⟩
theorem hr_d {T : Nat → Nat} {n i : Nat} (hT : ∀ j, j < n → T j < 256) : ¬ dI (hrF T n i) = 0 ↔ i < n ∧ dgi (T i) = true := by
  unfold hrF
  by_cases e : i < n
  · rw [if_pos e, dI_n _ (hT i e)]
    cases dgi (T i) with
    | false => exact ⟨fun z => absurd rfl z, fun z => absurd z.2 (by decide)⟩
    | true => exact ⟨fun _ => ⟨e, rfl⟩, fun _ => by decide⟩
  · rw [if_neg e]; exact ⟨fun z => absurd (by decide) z, fun z => absurd z.1 e⟩
theorem Lm.u {q k : Nat} {x : Int32} {M Y : MI} (h : Lm q M Y) (hk : k = 6 ∨ k = 7 ∨ k = 8) : Lm q M (upI Y 100 k x) := ⟨fun c e => by rw [upc e]; exact h.1 c e, fun j e1 e2 e3 e4 => by rw [ups (by omega)]; exact h.2.1 j e1 e2 e3 e4, by rw [ups (by omega)]; exact h.2.2⟩
theorem Lm.a {q q' : Nat} {M Y : MI} (h : Lm q M Y) : Lm q' M (upI Y 100 4 (nI q')) := ⟨fun c e => by rw [upc e]; exact h.1 c e, fun j e1 e2 e3 e4 => by rw [ups e1]; exact h.2.1 j e1 e2 e3 e4, by rw [upq]⟩
set_option maxRecDepth 100000 in
theorem c_here {T : Nat → Nat} {n : Nat} {M : MI} (hT : TXM T n M) (h5 : M 100 5 = nI n) (r : MR) {Y : MI} (J : MJ) {q k : Nat} (hL : Lm q M Y) (hq : q ≤ n) (hk : k ≤ n) : Cq yX12_here MX12_here [.ref 100, .int (nI k)] Y r J (Rt (some (.int (hrF T n (q + k)))) Y r J) := by
  have hn := hT.1
  have e5 : Y 100 5 = nI n := by rw [hL.2.1 5 (by decide) (by decide) (by decide) (by decide)]; exact h5
  refine cq_of [some (.ref 100), some (.int (nI k))] 0 (by decide +kernel) rfl rfl (Nat.le_of_ble_eq_true rfl) rfl ?_
  refine x_aload_n (q := 1) dX12_here_0 rfl rfl ?_
  refine q_gi (K := 4) (q := 4) dX12_here_1 rfl cl_12 (by decide) tw_1086 rfl rfl ?_
  refine x_iload_n (q := 5) dX12_here_4 rfl rfl ?_
  refine x_iadd (q := 6) dX12_here_5 rfl ?_
  refine x_aload_n (q := 7) dX12_here_6 rfl rfl ?_
  refine q_gi (K := 5) (q := 10) dX12_here_7 rfl cl_12 (by decide) tw_1087 rfl rfl ?_
  refine x_icmp_ge (t := 27) (q := 13) dX12_here_10 (by decide) rfl (fun c10 => ?_) (fun c10 => ?_)
  · refine x_iconst (-1) (q := 28) dX12_here_27 rfl (by decide) ?_
    refine q_iret dX12_here_28 rfl ?_
    have glt : ¬ q + k < n := fun z => absurd c10 (by rw [hL.2.2, e5, nI_add]; exact nI_ge z (by omega))
    rw [show hrF T n (q + k) = -1 from if_neg glt]
    exact ⟨rfl, rfl, rfl, rfl⟩
  · have glt : q + k < n := by
      by_cases z : q + k < n
      · exact z
      · exact absurd (by rw [hL.2.2, e5, nI_add]; exact nI_le (by omega) (by omega)) c10
    refine x_aload_n (q := 14) dX12_here_13 rfl rfl ?_
    refine q_gr (K := 0) (b := 101) (q := 17) dX12_here_14 rfl cl_12 (by decide) tw_1082 rfl rfl rfl ?_
    refine x_aload_n (q := 18) dX12_here_17 rfl rfl ?_
    refine q_gi (K := 4) (q := 21) dX12_here_18 rfl cl_12 (by decide) tw_1086 rfl rfl ?_
    refine x_iload_n (q := 22) dX12_here_21 rfl rfl ?_
    refine x_iadd (q := 23) dX12_here_22 rfl ?_
    refine q_iald (q := 24) dX12_here_23 rfl rfl (by rw [hL.2.2, nI_add]; exact vp_in_nI (by have := glt; omega) (by decide)) ?_
    refine x_goto (t := 28) dX12_here_24 (by decide) ?_
    refine q_iret dX12_here_28 rfl ?_
    rw [hL.2.2, nI_add, nI_clamp (by omega), hL.1 101 (by decide), (hT.2 _ glt).2, show hrF T n (q + k) = nI (T (q + k)) from if_pos glt]
    exact ⟨rfl, rfl, rfl, rfl⟩
theorem msI_3 {k : Nat} (h : k ≤ 5) : msI k = 3 ↔ k = 1 := by
  have : k = 0 ∨ k = 1 ∨ k = 2 ∨ k = 3 ∨ k = 4 ∨ k = 5 := by omega
  rcases this with rfl | rfl | rfl | rfl | rfl | rfl <;> decide
set_option maxRecDepth 100000 in
theorem l_tkE {T : Nat → Nat} {n : Nat} {M : MI} (hT : TXM T n M) (h5 : M 100 5 = nI n) (r : MR) {J : MJ} {q : Nat} (hqn : q ≤ n) {Y : MI} {K : MJ} {x1 : Option Value} {k : Nat} (hL : Lm q M Y) (hJM : JM J K) (h7 : Y 100 7 = nI q) (h6 : Y 100 6 = msI (kdQ T n q)) (hen : ¬ kdQ T n q = 1 → q + k = enQ T n q) (hv : kdQ T n q = 3 → Y 100 8 = nI (vlQ T n q)) (hw : kdQ T n q = 2 → K 100 9 = lN (w8Q T n q)) : Wq MX12_token 237 [some (.ref 100), x1, some (.int (nI k))] [] Y r K (fun v Z r' K => v = none ∧ MFr M J Z K ∧ MLx T n q Z K ∧ r' = r) := by
  refine x_aload_n (q := 238) dX12_token_237 rfl rfl ?_
  refine q_gi (K := 6) (q := 241) dX12_token_238 rfl cl_12 (by decide) tw_1088 rfl rfl ?_
  refine x_iconst (3) (q := 242) dX12_token_241 rfl (by decide) ?_
  refine x_icmp_eq (t := 255) (q := 245) dX12_token_242 (by decide) rfl (fun c242 => ?_) (fun c242 => ?_)
  · refine q_vret dX12_token_255 rfl ?_
    have k1 : kdQ T n q = 1 := (msI_3 (kdQ_le T n q)).mp (by rw [← h6]; exact c242)
    refine ⟨rfl, ⟨hL.1, hL.2.1, hJM⟩, ⟨by rw [if_pos k1]; exact hL.2.2, h6, h7, hv, hw⟩, rfl⟩
  · refine x_aload_n (q := 246) dX12_token_245 rfl rfl ?_
    refine x_dup (q := 247) dX12_token_246 rfl rfl ?_
    refine q_gi (K := 4) (q := 250) dX12_token_247 rfl cl_12 (by decide) tw_1086 rfl rfl ?_
    refine x_iload_n (q := 251) dX12_token_250 rfl rfl ?_
    refine x_iadd (q := 252) dX12_token_251 rfl ?_
    refine q_pi (K := 4) (q := 255) dX12_token_252 rfl cl_12 (by decide) tw_1086 rfl rfl rfl rfl (fun I1 eI1 => ?_)
    refine q_vret dX12_token_255 rfl ?_
    have k1 : ¬ kdQ T n q = 1 := fun z => c242 (by rw [h6]; exact (msI_3 (kdQ_le T n q)).mpr z)
    rw [hL.2.2, nI_add, hen k1] at eI1
    have hL2 : Lm (enQ T n q) M I1 := by rw [eI1]; exact hL.a
    refine ⟨rfl, ⟨hL2.1, hL2.2.1, hJM⟩, ⟨by rw [if_neg k1]; exact hL2.2.2, by rw [eI1, ups (by decide)]; exact h6, by rw [eI1, ups (by decide)]; exact h7, fun z => by rw [eI1, ups (by decide)]; exact hv z, hw⟩, rfl⟩
theorem wl8 {T : Nat → Nat} {q k : Nat} (h : ltr (T (q + k)) = true) : (lN (c8 T q k) <<< ((8 : Int32).toInt64 &&& 63)) ||| (nI (T (q + k))).toInt64 = lN (c8 T q (k + 1)) := by
  have h1 := ltr_lo h
  rw [nI_l (by omega), w8s _ _ (by omega)]
  rfl
theorem v10_m {T : Nat → Nat} {q k : Nat} (h : dgi (T (q + k)) = true) : (10 : Int32) * nI (v10 T q k) + nI (T (q + k)) - 48 = nI (v10 T q (k + 1)) := by
  have h1 := dgi_lo h
  rw [show (10 : Int32) = nI 10 from rfl, pk_mul, nI_add, show (48 : Int32) = nI 48 from rfl, pk_sub (by omega)]
  congr 1
  show _ = 10 * v10 T q k + (T (q + k) - 48)
  omega
theorem kdQ_w {T : Nat → Nat} {n q : Nat} (hq : q < n) (hl : ltr (T q) = true) : kdQ T n q = (if 8 < wde T n q - q then 1 else 2) ∧ enQ T n q = wde T n q := by
  exact ⟨by unfold kdQ; rw [if_neg (by omega), if_pos hl], by unfold enQ; rw [if_neg (by omega), if_pos hl]⟩
theorem upJ_o {J : MJ} {a K c k : Nat} {x : Int64} (h : ¬ (c = a ∧ k = K)) : upJ J a K x c k = J c k := if_neg h
set_option maxRecDepth 100000 in
theorem l_tkw {T : Nat → Nat} {n : Nat} {M : MI} (hT : TXM T n M) (h5 : M 100 5 = nI n) (r : MR) {J : MJ} {q : Nat} (hqn : q ≤ n) {x1 : Int32} (glt : q < n) (hl0 : ltr (T q) = true) : ∀ (f : Nat) (k : Nat) (Y : MI) (K : MJ) (_ : q + k + f = n) (_ : k ≤ n) (_ : Lm q M Y) (_ : JM J K) (_ : Y 100 7 = nI q) (_ : K 100 9 = lN (c8 T q (min k 8))) (_ : rlp ltr T n (q + k) = wde T n q), Wq MX12_token 78 [some (.ref 100), some (.int x1), some (.int (nI k))] [] Y r K (fun v Z r' K => v = none ∧ MFr M J Z K ∧ MLx T n q Z K ∧ r' = r) := by
  have hn := hT.1
  have hT8 := fun j hj => (hT.2 j hj).1
  intro f
  induction f with
  | zero =>
    intro k Y K hkf hkn hL hJM h7 hw hwd
    refine x_aload_n (q := 79) dX12_token_78 rfl rfl ?_
    refine x_iload_n (q := 80) dX12_token_79 rfl rfl ?_
    refine q_callV (ci := 12) (N := 79) (T := TX12) (As := [.int (nI k)]) (rest := []) (q := 83) dX12_token_80 rfl okX12_here tw_1344 rfl rfl (c_here hT h5 r K (k := k) hL hqn (by omega)) rfl rfl (Nat.le_of_ble_eq_true rfl) ⟨by decide, by decide⟩ ⟨rfl, rfl⟩ (fun rv_ I_ r_ J_ hv_ => ?_)
    obtain ⟨a1_, a2_, a3_, a4_⟩ := hv_
    rw [a1_, a2_, a3_, a4_]
    show Wq MX12_token 83 [some (.ref 100), some (.int x1), some (.int (nI k))] [.int (hrF T n (q + k))] Y r K _
    refine q_callS (As := [.int (hrF T n (q + k))]) (rest := []) (q := 86) dX12_token_83 rfl okX12_isLetter tw_1348 (c_misL (hrF T n (q + k)) _ r K) rfl rfl (Nat.le_of_ble_eq_true rfl) ⟨by decide, by decide⟩ ⟨rfl, rfl⟩ (fun rv_ I_ r_ J_ hv_ => ?_)
    obtain ⟨a1_, a2_, a3_, a4_⟩ := hv_
    rw [a1_, a2_, a3_, a4_]
    show Wq MX12_token 86 [some (.ref 100), some (.int x1), some (.int (nI k))] [.int (lI (hrF T n (q + k)))] Y r K _
    refine x_if_eq (t := 119) (q := 89) dX12_token_86 (by decide) rfl (fun c86 => ?_) (fun c86 => ?_)
    · have hnl : ¬ (q + k < n ∧ ltr (T (q + k)) = true) := fun z => absurd c86 ((hr_l hT8).mpr z)
      have ew : wde T n q = q + k := by
        rw [← hwd]
        by_cases z : q + k < n
        · exact rlp_0 z (fun y => hnl ⟨z, y⟩)
        · exact rlp_e (by omega)
      have hk0 := kdQ_w glt hl0
      refine x_aload_n (q := 120) dX12_token_119 rfl rfl ?_
      refine x_iload_n (q := 121) dX12_token_120 rfl rfl ?_
      refine x_bipush (8) (q := 123) dX12_token_121 rfl (by decide) ?_
      refine x_icmp_le (t := 130) (q := 126) dX12_token_123 (by decide) rfl (fun c123 => ?_) (fun c123 => ?_)
      · refine x_iconst (1) (q := 131) dX12_token_130 rfl (by decide) ?_
        refine q_pi (K := 6) (q := 134) dX12_token_131 rfl cl_12 (by decide) tw_1088 rfl rfl rfl rfl (fun I41 eI41 => ?_)
        refine x_goto (t := 237) dX12_token_134 (by decide) ?_
        refine l_tkE hT h5 r hqn (by rw [eI41]; exact hL.u (by decide)) hJM (by rw [eI41, ups (by decide)]; exact h7) ?_ (fun _ => by rw [hk0.2, ew]) (fun z => absurd z ?_) (fun z => ?_)
        · rw [eI41, upq, hk0.1, ew, show q + k - q = k by omega]
          first
          | (rw [if_pos ((nI_ltI (a := 8) (b := k) (by decide) (by omega)).mp (Int32.not_le.mp c123))]; rfl)
          | (rw [if_neg (fun w => absurd c123 (nI_ge (a := 8) w (by omega)))]; rfl)
        · rw [hk0.1]; by_cases w : 8 < wde T n q - q
          · rw [if_pos w]; decide
          · rw [if_neg w]; decide
        · have k8 := (kd2 z).2.2
          rw [hw, show min k 8 = k by omega]
          unfold w8Q
          rw [ew, show q + k - q = k by omega]
      · refine x_iconst (3) (q := 127) dX12_token_126 rfl (by decide) ?_
        refine x_goto (t := 131) dX12_token_127 (by decide) ?_
        refine q_pi (K := 6) (q := 134) dX12_token_131 rfl cl_12 (by decide) tw_1088 rfl rfl rfl rfl (fun I42 eI42 => ?_)
        refine x_goto (t := 237) dX12_token_134 (by decide) ?_
        refine l_tkE hT h5 r hqn (by rw [eI42]; exact hL.u (by decide)) hJM (by rw [eI42, ups (by decide)]; exact h7) ?_ (fun _ => by rw [hk0.2, ew]) (fun z => absurd z ?_) (fun z => ?_)
        · rw [eI42, upq, hk0.1, ew, show q + k - q = k by omega]
          first
          | (rw [if_pos ((nI_ltI (a := 8) (b := k) (by decide) (by omega)).mp (Int32.not_le.mp c123))]; rfl)
          | (rw [if_neg (fun w => absurd c123 (nI_ge (a := 8) w (by omega)))]; rfl)
        · rw [hk0.1]; by_cases w : 8 < wde T n q - q
          · rw [if_pos w]; decide
          · rw [if_neg w]; decide
        · have k8 := (kd2 z).2.2
          rw [hw, show min k 8 = k by omega]
          unfold w8Q
          rw [ew, show q + k - q = k by omega]
    · exact absurd ((hr_l hT8).mp c86).1 (by omega)
  | succ f ih =>
    intro k Y K hkf hkn hL hJM h7 hw hwd
    refine x_aload_n (q := 79) dX12_token_78 rfl rfl ?_
    refine x_iload_n (q := 80) dX12_token_79 rfl rfl ?_
    refine q_callV (ci := 12) (N := 79) (T := TX12) (As := [.int (nI k)]) (rest := []) (q := 83) dX12_token_80 rfl okX12_here tw_1344 rfl rfl (c_here hT h5 r K (k := k) hL hqn (by omega)) rfl rfl (Nat.le_of_ble_eq_true rfl) ⟨by decide, by decide⟩ ⟨rfl, rfl⟩ (fun rv_ I_ r_ J_ hv_ => ?_)
    obtain ⟨a1_, a2_, a3_, a4_⟩ := hv_
    rw [a1_, a2_, a3_, a4_]
    show Wq MX12_token 83 [some (.ref 100), some (.int x1), some (.int (nI k))] [.int (hrF T n (q + k))] Y r K _
    refine q_callS (As := [.int (hrF T n (q + k))]) (rest := []) (q := 86) dX12_token_83 rfl okX12_isLetter tw_1348 (c_misL (hrF T n (q + k)) _ r K) rfl rfl (Nat.le_of_ble_eq_true rfl) ⟨by decide, by decide⟩ ⟨rfl, rfl⟩ (fun rv_ I_ r_ J_ hv_ => ?_)
    obtain ⟨a1_, a2_, a3_, a4_⟩ := hv_
    rw [a1_, a2_, a3_, a4_]
    show Wq MX12_token 86 [some (.ref 100), some (.int x1), some (.int (nI k))] [.int (lI (hrF T n (q + k)))] Y r K _
    refine x_if_eq (t := 119) (q := 89) dX12_token_86 (by decide) rfl (fun c86 => ?_) (fun c86 => ?_)
    · have hnl : ¬ (q + k < n ∧ ltr (T (q + k)) = true) := fun z => absurd c86 ((hr_l hT8).mpr z)
      have ew : wde T n q = q + k := by
        rw [← hwd]
        by_cases z : q + k < n
        · exact rlp_0 z (fun y => hnl ⟨z, y⟩)
        · exact rlp_e (by omega)
      have hk0 := kdQ_w glt hl0
      refine x_aload_n (q := 120) dX12_token_119 rfl rfl ?_
      refine x_iload_n (q := 121) dX12_token_120 rfl rfl ?_
      refine x_bipush (8) (q := 123) dX12_token_121 rfl (by decide) ?_
      refine x_icmp_le (t := 130) (q := 126) dX12_token_123 (by decide) rfl (fun c123 => ?_) (fun c123 => ?_)
      · refine x_iconst (1) (q := 131) dX12_token_130 rfl (by decide) ?_
        refine q_pi (K := 6) (q := 134) dX12_token_131 rfl cl_12 (by decide) tw_1088 rfl rfl rfl rfl (fun I41 eI41 => ?_)
        refine x_goto (t := 237) dX12_token_134 (by decide) ?_
        refine l_tkE hT h5 r hqn (by rw [eI41]; exact hL.u (by decide)) hJM (by rw [eI41, ups (by decide)]; exact h7) ?_ (fun _ => by rw [hk0.2, ew]) (fun z => absurd z ?_) (fun z => ?_)
        · rw [eI41, upq, hk0.1, ew, show q + k - q = k by omega]
          first
          | (rw [if_pos ((nI_ltI (a := 8) (b := k) (by decide) (by omega)).mp (Int32.not_le.mp c123))]; rfl)
          | (rw [if_neg (fun w => absurd c123 (nI_ge (a := 8) w (by omega)))]; rfl)
        · rw [hk0.1]; by_cases w : 8 < wde T n q - q
          · rw [if_pos w]; decide
          · rw [if_neg w]; decide
        · have k8 := (kd2 z).2.2
          rw [hw, show min k 8 = k by omega]
          unfold w8Q
          rw [ew, show q + k - q = k by omega]
      · refine x_iconst (3) (q := 127) dX12_token_126 rfl (by decide) ?_
        refine x_goto (t := 131) dX12_token_127 (by decide) ?_
        refine q_pi (K := 6) (q := 134) dX12_token_131 rfl cl_12 (by decide) tw_1088 rfl rfl rfl rfl (fun I42 eI42 => ?_)
        refine x_goto (t := 237) dX12_token_134 (by decide) ?_
        refine l_tkE hT h5 r hqn (by rw [eI42]; exact hL.u (by decide)) hJM (by rw [eI42, ups (by decide)]; exact h7) ?_ (fun _ => by rw [hk0.2, ew]) (fun z => absurd z ?_) (fun z => ?_)
        · rw [eI42, upq, hk0.1, ew, show q + k - q = k by omega]
          first
          | (rw [if_pos ((nI_ltI (a := 8) (b := k) (by decide) (by omega)).mp (Int32.not_le.mp c123))]; rfl)
          | (rw [if_neg (fun w => absurd c123 (nI_ge (a := 8) w (by omega)))]; rfl)
        · rw [hk0.1]; by_cases w : 8 < wde T n q - q
          · rw [if_pos w]; decide
          · rw [if_neg w]; decide
        · have k8 := (kd2 z).2.2
          rw [hw, show min k 8 = k by omega]
          unfold w8Q
          rw [ew, show q + k - q = k by omega]
    · have hl : q + k < n ∧ ltr (T (q + k)) = true := (hr_l hT8).mp c86
      refine x_iload_n (q := 90) dX12_token_89 rfl rfl ?_
      refine x_bipush (8) (q := 92) dX12_token_90 rfl (by decide) ?_
      refine x_icmp_ge (t := 113) (q := 95) dX12_token_92 (by decide) rfl (fun c92 => ?_) (fun c92 => ?_)
      · obtain ⟨v61, ev61⟩ : ∃ y_ : Int32, y_ = (nI k) + 1 := ⟨_, rfl⟩
        refine x_iinc (v := v61) (L2 := [some (.ref 100), some (.int x1), some (.int v61)]) (q := 116) dX12_token_113 rfl (by decide) rfl rfl (by rw [ev61]; rfl) rfl ?_
        refine x_goto (t := 78) dX12_token_116 (by decide) ?_
        rw [show v61 = nI (k + 1) by rw [ev61, nI_p1]]
        refine ih (k + 1) Y _ (by omega) (by omega) hL ?_ h7 ?_ (by rw [show q + (k + 1) = q + k + 1 by omega, ← hwd]; exact (rlp_1 hl.1 hl.2).symm)
        · exact hJM
        · rw [hw]; congr 2; have : ¬ k < 8 := fun z => absurd c92 (nI_ge (b := 8) z (by decide)); omega
      · refine x_aload_n (q := 96) dX12_token_95 rfl rfl ?_
        refine x_aload_n (q := 97) dX12_token_96 rfl rfl ?_
        refine q_gl (K := 9) (q := 100) dX12_token_97 rfl cl_12 (by decide) tw_1091 rfl rfl ?_
        refine x_bipush (8) (q := 102) dX12_token_100 rfl (by decide) ?_
        refine x_lshl (q := 103) dX12_token_102 rfl ?_
        refine x_aload_n (q := 104) dX12_token_103 rfl rfl ?_
        refine x_iload_n (q := 105) dX12_token_104 rfl rfl ?_
        refine q_callV (ci := 12) (N := 79) (T := TX12) (As := [.int (nI k)]) (rest := [.long ((K 100 9) <<< ((8 : Int32).toInt64 &&& 63)), .ref 100]) (q := 108) dX12_token_105 rfl okX12_here tw_1344 rfl rfl (c_here hT h5 r K (k := k) hL hqn (by omega)) rfl rfl (Nat.le_of_ble_eq_true rfl) ⟨by decide, by decide⟩ ⟨rfl, rfl⟩ (fun rv_ I_ r_ J_ hv_ => ?_)
        obtain ⟨a1_, a2_, a3_, a4_⟩ := hv_
        rw [a1_, a2_, a3_, a4_]
        show Wq MX12_token 108 [some (.ref 100), some (.int x1), some (.int (nI k))] [.int (hrF T n (q + k)), .long ((K 100 9) <<< ((8 : Int32).toInt64 &&& 63)), .ref 100] Y r K _
        refine x_i2l (q := 109) dX12_token_108 rfl ?_
        refine x_lor (q := 110) dX12_token_109 rfl ?_
        refine q_pl (K := 9) (q := 113) dX12_token_110 rfl cl_12 (by decide) tw_1091 rfl rfl rfl rfl (fun J31 eJ31 => ?_)
        obtain ⟨v61, ev61⟩ : ∃ y_ : Int32, y_ = (nI k) + 1 := ⟨_, rfl⟩
        refine x_iinc (v := v61) (L2 := [some (.ref 100), some (.int x1), some (.int v61)]) (q := 116) dX12_token_113 rfl (by decide) rfl rfl (by rw [ev61]; rfl) rfl ?_
        refine x_goto (t := 78) dX12_token_116 (by decide) ?_
        rw [show v61 = nI (k + 1) by rw [ev61, nI_p1]]
        refine ih (k + 1) Y _ (by omega) (by omega) hL ?_ h7 ?_ (by rw [show q + (k + 1) = q + k + 1 by omega, ← hwd]; exact (rlp_1 hl.1 hl.2).symm)
        · exact fun c j e => by rw [eJ31, upJ_o e]; exact hJM c j e
        · rw [eJ31, upJq]
          have k8 : k < 8 := by
            by_cases z : k < 8
            · exact z
            · exact absurd (nI_le (a := 8) (by omega) (by omega)) c92
          have eh : hrF T n (q + k) = nI (T (q + k)) := if_pos hl.1
          rw [hw, eh, show min k 8 = k by omega, show min (k + 1) 8 = k + 1 by omega]
          exact wl8 hl.2
