theorem Lq.up {n q q' : Nat} {X Y : MI} (h : Lq n q X Y) : Lq n q' X (upI Y 55 3 (nI q')) := ⟨fun c e => by rw [upc e]; exact h.1 c e, by rw [ups (by decide)]; exact h.2.1, by rw [upq]⟩
theorem Lq.o {n q k : Nat} {x : Int32} {X Y : MI} (h : Lq n q X Y) (h2 : k ≠ 2) (h3 : k ≠ 3) : Lq n q X (upI Y 55 k x) := ⟨fun c e => by rw [upc e]; exact h.1 c e, by rw [ups (fun e => h2 e.symm)]; exact h.2.1, by rw [ups (fun e => h3 e.symm)]; exact h.2.2⟩
theorem tx_b {T : Nat → Nat} {n i : Nat} {X Y : MI} (hT : TX T n X) (h1 : Y 1 = X 1) (hi : i < n) : Y 1 i = bI (T i) := by rw [h1]; exact (hT.2 i hi).2
def scW (T : Nat → Nat) (n q : Nat) (X : MI) (J : MJ) (Y : MI) (K : MJ) : Prop := (∀ c, c ≠ 55 → Y c = X c) ∧ JL J K ∧ Y 55 2 = nI n ∧ Y 55 3 = nI (wde T n q) ∧ Y 55 4 = nI (if 8 < wde T n q - q then 1 else 2) ∧ Y 55 5 = nI q ∧ (wde T n q - q ≤ 8 → K 55 7 = lN (w5Q T n q)) ∧ Y 55 8 = kwI (if 8 < wde T n q - q then 20 else kg (w5Q T n q) 20 0)
theorem c5_lt {T : Nat → Nat} {q : Nat} : ∀ k, (∀ i, i < k → ltr (T (q + i)) = true) → c5 T q k < 32 ^ k := by
  intro k
  induction k with
  | zero => intro _; exact Nat.zero_lt_one
  | succ k ih =>
    intro h
    have h1 := ltr_lo (h k (by omega))
    have h2 := ih (fun i hi => h i (by omega))
    rw [Nat.pow_succ]
    unfold c5
    omega
theorem w5_63 {T : Nat → Nat} {n q : Nat} (h : wde T n q - q ≤ 8) : w5Q T n q < 2 ^ 63 := by
  have h1 := c5_lt (T := T) (q := q) (wde T n q - q) (fun i hi => rlp_in (n := n) (p := q) (by omega) (by unfold wde at hi; omega))
  have h2 : 32 ^ (wde T n q - q) ≤ 32 ^ 8 := Nat.pow_le_pow_right (by decide) h
  unfold w5Q
  omega
theorem wl_v {T : Nat → Nat} {q k : Nat} (h : ltr (T (q + k)) = true) : (lN (c5 T q k) <<< ((5 : Int32).toInt64 &&& 63)) ||| (bI (T (q + k)) - 97 + 1).toInt64 = lN (c5 T q (k + 1)) := by
  have h1 := ltr_lo h
  have e : (bI (T (q + k)) - 97 + 1).toInt64 = lN (T (q + k) - 96) := by
    rw [bI_lo _ (by omega), show (97 : Int32) = nI 97 from rfl, pk_sub (a := T (q + k)) (b := 97) (by omega), nI_p1, nI_l (by omega)]
    congr 1
    omega
  rw [e, w5s _ _ (by omega)]
  rfl
set_option maxRecDepth 100000 in
theorem l_scwE {T : Nat → Nat} {n : Nat} {X : MI} (hT : TX T n X) {r : MR} (h4 : r 4 = 1) {J : MJ} (hJ : RelJ J) {q : Nat} (hqn : q ≤ n) {Y : MI} {K : MJ} (hK : JL J K) (hL : Lq n (wde T n q) X Y) (h5 : Y 55 5 = nI q) (h8 : Y 55 8 = -1) (h7 : K 55 7 = lN (w5Q T n q)) : Wq MX6_scanWord 64 [some (.ref 55)] [] Y r K (Rq none (scW T n q X J) r) := by
  have hn := hT.1
  have hwb := rlp_b (g := ltr) (T := T) (n := n) (p := q) hqn
  have hw1 : q ≤ wde T n q ∧ wde T n q ≤ n := hwb
  have hJK : RelJ K := fun k hk => by rw [hK 56 k (by decide)]; exact hJ k hk
  refine x_aload_n (q := 65) dX6_scanWord_64 rfl rfl ?_
  refine x_aload_n (q := 66) dX6_scanWord_65 rfl rfl ?_
  refine q_gi (K := 3) (q := 69) dX6_scanWord_66 rfl cl_6 (by decide) tw_334 rfl rfl ?_
  refine x_aload_n (q := 70) dX6_scanWord_69 rfl rfl ?_
  refine q_gi (K := 5) (q := 73) dX6_scanWord_70 rfl cl_6 (by decide) tw_337 rfl rfl ?_
  refine x_isub (q := 74) dX6_scanWord_73 rfl ?_
  refine x_bipush (8) (q := 76) dX6_scanWord_74 rfl (by decide) ?_
  refine x_icmp_le (t := 83) (q := 79) dX6_scanWord_76 (by decide) rfl (fun c76 => ?_) (fun c76 => ?_)
  · refine x_iconst (2) (q := 84) dX6_scanWord_83 rfl (by decide) ?_
    have g8 : ¬ 8 < wde T n q - q := by
      rw [hL.2.2, h5, pk_sub (by omega)] at c76
      intro z
      exact absurd c76 (nI_ge (a := 8) z (by omega))
    refine q_pi (K := 4) (q := 87) dX6_scanWord_84 rfl cl_6 (by decide) tw_335 rfl rfl rfl rfl (fun I21 eI21 => ?_)
    refine x_aload_n (q := 88) dX6_scanWord_87 rfl rfl ?_
    refine q_gi (K := 4) (q := 91) dX6_scanWord_88 rfl cl_6 (by decide) tw_335 rfl rfl ?_
    refine x_iconst (2) (q := 92) dX6_scanWord_91 rfl (by decide) ?_
    refine x_icmp_ne (t := 107) (q := 95) dX6_scanWord_92 (by decide) rfl (fun c92 => absurd c92 (fun z => z (by rw [eI21, upq]))) (fun c92 => ?_)
    refine x_aload_n (q := 96) dX6_scanWord_95 rfl rfl ?_
    refine x_aload_n (q := 97) dX6_scanWord_96 rfl rfl ?_
    refine x_aload_n (q := 98) dX6_scanWord_97 rfl rfl ?_
    refine q_gl (K := 7) (q := 101) dX6_scanWord_98 rfl cl_6 (by decide) tw_341 rfl rfl ?_
    refine q_callV (ci := 6) (N := 9) (T := TX6) (As := [.long (K 55 7)]) (rest := [.ref 55]) (q := 104) dX6_scanWord_101 rfl okX6_keywordWith tw_650 rfl rfl (by rw [h7]; exact c_kww (w5_63 (by omega)) I21 r hJK) rfl rfl (Nat.le_of_ble_eq_true rfl) ⟨by decide, by decide⟩ ⟨rfl, rfl⟩ (fun rv_ I_ r_ J_ hv_ => ?_)
    obtain ⟨a1_, a2_, a3_, a4_⟩ := hv_
    rw [a1_, a2_, a3_, a4_]
    show Wq MX6_scanWord 104 [some (.ref 55)] [.int (kwI (kg (w5Q T n q) 20 0)), .ref 55] I21 r K _
    refine q_pi (K := 8) (q := 107) dX6_scanWord_104 rfl cl_6 (by decide) tw_343 rfl rfl rfl rfl (fun I22 eI22 => ?_)
    refine q_vret dX6_scanWord_107 rfl ?_
    refine ⟨rfl, ⟨?_, hK, ?_, ?_, ?_, ?_, fun _ => h7, ?_⟩, rfl⟩
    · intro c e; rw [eI22, upc e, eI21, upc e]; exact hL.1 c e
    · rw [eI22, ups (by decide), eI21, ups (by decide)]; exact hL.2.1
    · rw [eI22, ups (by decide), eI21, ups (by decide)]; exact hL.2.2
    · rw [eI22, ups (by decide), eI21, upq, if_neg g8]; rfl
    · rw [eI22, ups (by decide), eI21, ups (by decide)]; exact h5
    · rw [eI22, upq, if_neg g8]
  · refine x_iconst (1) (q := 80) dX6_scanWord_79 rfl (by decide) ?_
    refine x_goto (t := 84) dX6_scanWord_80 (by decide) ?_
    refine q_pi (K := 4) (q := 87) dX6_scanWord_84 rfl cl_6 (by decide) tw_335 rfl rfl rfl rfl (fun I21 eI21 => ?_)
    refine x_aload_n (q := 88) dX6_scanWord_87 rfl rfl ?_
    refine q_gi (K := 4) (q := 91) dX6_scanWord_88 rfl cl_6 (by decide) tw_335 rfl rfl ?_
    refine x_iconst (2) (q := 92) dX6_scanWord_91 rfl (by decide) ?_
    refine x_icmp_ne (t := 107) (q := 95) dX6_scanWord_92 (by decide) rfl (fun c92 => ?_) (fun c92 => absurd c92 (by rw [eI21, upq]; decide))
    refine q_vret dX6_scanWord_107 rfl ?_
    have g8 : 8 < wde T n q - q := by
      rw [hL.2.2, h5, pk_sub (by omega)] at c76
      by_cases z : 8 < wde T n q - q
      · exact z
      · exact absurd (nI_le (b := 8) (by omega) (by decide)) c76
    refine ⟨rfl, ⟨?_, hK, ?_, ?_, ?_, ?_, fun z => absurd z (by omega), ?_⟩, rfl⟩
    · intro c e; rw [eI21, upc e]; exact hL.1 c e
    · rw [eI21, ups (by decide)]; exact hL.2.1
    · rw [eI21, ups (by decide)]; exact hL.2.2
    · rw [eI21, upq, if_pos g8]; rfl
    · rw [eI21, ups (by decide)]; exact h5
    · rw [eI21, ups (by decide), if_pos g8]; exact h8
theorem upJc {J : MJ} {a K c k : Nat} {x : Int64} (h : c ≠ a) : upJ J a K x c k = J c k := by
  simp [upJ, h]
theorem upJq {J : MJ} {a K : Nat} {x : Int64} : upJ J a K x a K = x := by
  simp [upJ]
set_option maxRecDepth 100000 in
theorem l_scw {T : Nat → Nat} {n : Nat} {X : MI} (hT : TX T n X) {r : MR} (h4 : r 4 = 1) {J : MJ} (hJ : RelJ J) {q : Nat} (hqn : q ≤ n) : ∀ (f : Nat) (i : Nat) (Y : MI) (K : MJ) (_ : i + f = n) (_ : q ≤ i) (_ : JL J K) (_ : Lq n i X Y) (_ : Y 55 5 = nI q) (_ : Y 55 8 = -1) (_ : K 55 7 = lN (c5 T q (i - q))) (_ : rlp ltr T n i = wde T n q), Wq MX6_scanWord 5 [some (.ref 55)] [] Y r K (Rq none (scW T n q X J) r) := by
  intro f
  induction f with
  | zero =>
    intro i Y K hik hqi hK hL h5 h8 h7 hw
    have hn := hT.1
    have e3 := hL.2.2
    have e2 := hL.2.1
    refine x_aload_n (q := 6) dX6_scanWord_5 rfl rfl ?_
    refine q_gi (K := 3) (q := 9) dX6_scanWord_6 rfl cl_6 (by decide) tw_334 rfl rfl ?_
    refine x_aload_n (q := 10) dX6_scanWord_9 rfl rfl ?_
    refine q_gi (K := 2) (q := 13) dX6_scanWord_10 rfl cl_6 (by decide) tw_333 rfl rfl ?_
    refine x_icmp_ge (t := 64) (q := 16) dX6_scanWord_13 (by decide) rfl (fun c13 => ?_) (fun c13 => absurd c13 (fun z => z (by rw [e3, e2]; exact nI_le (by omega) (by omega))))
    have ew : wde T n q = i := by rw [← hw]; exact rlp_e (by omega)
    exact l_scwE hT h4 hJ hqn hK (by rw [show wde T n q = i from ew]; exact hL) h5 h8 (by rw [h7]; unfold w5Q; rw [show wde T n q = i from ew])
  | succ f ih =>
    intro i Y K hik hqi hK hL h5 h8 h7 hw
    have hn := hT.1
    have e3 := hL.2.2
    have e2 := hL.2.1
    have eb : Y 1 (Y 55 3).toNatClampNeg = bI (T i) := by rw [e3, nI_clamp (by omega)]; exact tx_b hT (hL.1 1 (by decide)) (by omega)
    have hT8 := (hT.2 i (by omega)).1
    refine x_aload_n (q := 6) dX6_scanWord_5 rfl rfl ?_
    refine q_gi (K := 3) (q := 9) dX6_scanWord_6 rfl cl_6 (by decide) tw_334 rfl rfl ?_
    refine x_aload_n (q := 10) dX6_scanWord_9 rfl rfl ?_
    refine q_gi (K := 2) (q := 13) dX6_scanWord_10 rfl cl_6 (by decide) tw_333 rfl rfl ?_
    refine x_icmp_ge (t := 64) (q := 16) dX6_scanWord_13 (by decide) rfl (fun c13 => absurd c13 (by rw [e3, e2]; exact nI_ge (by omega) (by omega))) (fun c13 => ?_)
    refine x_aload_n (q := 17) dX6_scanWord_16 rfl rfl ?_
    refine q_gr (K := 1) (b := 1) (q := 20) dX6_scanWord_17 rfl cl_6 (by decide) tw_332 rfl rfl (congrArg some h4) ?_
    refine x_aload_n (q := 21) dX6_scanWord_20 rfl rfl ?_
    refine q_gi (K := 3) (q := 24) dX6_scanWord_21 rfl cl_6 (by decide) tw_334 rfl rfl ?_
    refine q_bald (q := 25) dX6_scanWord_24 rfl rfl (by rw [e3]; exact vp_in_nI (by omega) (by decide)) ?_
    refine q_callS (As := [.int (Y 1 (Y 55 3).toNatClampNeg)]) (rest := []) (q := 28) dX6_scanWord_25 rfl okX6_isLetter tw_643 (by rw [eb]; exact c_isL (bI (T i)) Y r K) rfl rfl (Nat.le_of_ble_eq_true rfl) ⟨by decide, by decide⟩ ⟨rfl, rfl⟩ (fun rv_ I_ r_ J_ hv_ => ?_)
    obtain ⟨a1_, a2_, a3_, a4_⟩ := hv_
    rw [a1_, a2_, a3_, a4_]
    show Wq MX6_scanWord 28 [some (.ref 55)] [.int (lI (bI (T i)))] Y r K _
    refine x_if_eq (t := 64) (q := 31) dX6_scanWord_28 (by decide) rfl (fun c28 => ?_) (fun c28 => ?_)
    · rw [lI_b _ hT8] at c28
      have hl : ¬ ltr (T i) = true := fun z => by rw [z] at c28; exact absurd c28 (by decide)
      have ew : wde T n q = i := by rw [← hw]; exact rlp_0 (by omega) hl
      exact l_scwE hT h4 hJ hqn hK (by rw [show wde T n q = i from ew]; exact hL) h5 h8 (by rw [h7]; unfold w5Q; rw [show wde T n q = i from ew])
    · refine x_aload_n (q := 32) dX6_scanWord_31 rfl rfl ?_
      refine x_aload_n (q := 33) dX6_scanWord_32 rfl rfl ?_
      refine q_gl (K := 7) (q := 36) dX6_scanWord_33 rfl cl_6 (by decide) tw_341 rfl rfl ?_
      refine x_aload_n (q := 37) dX6_scanWord_36 rfl rfl ?_
      refine q_gr (K := 1) (b := 1) (q := 40) dX6_scanWord_37 rfl cl_6 (by decide) tw_332 rfl rfl (congrArg some h4) ?_
      refine x_aload_n (q := 41) dX6_scanWord_40 rfl rfl ?_
      refine q_gi (K := 3) (q := 44) dX6_scanWord_41 rfl cl_6 (by decide) tw_334 rfl rfl ?_
      refine q_bald (q := 45) dX6_scanWord_44 rfl rfl (by rw [e3]; exact vp_in_nI (by omega) (by decide)) ?_
      refine q_callS (As := [.long (K 55 7), .int (Y 1 (Y 55 3).toNatClampNeg)]) (rest := [.ref 55]) (q := 48) dX6_scanWord_45 rfl okX6_withLetter tw_328 (by rw [eb]; exact c_wl (K 55 7) (bI (T i)) Y r K) rfl rfl (Nat.le_of_ble_eq_true rfl) ⟨by decide, by decide⟩ ⟨rfl, rfl⟩ (fun rv_ I_ r_ J_ hv_ => ?_)
      obtain ⟨a1_, a2_, a3_, a4_⟩ := hv_
      rw [a1_, a2_, a3_, a4_]
      show Wq MX6_scanWord 48 [some (.ref 55)] [.long (((K 55 7) <<< ((5 : Int32).toInt64 &&& 63)) ||| (bI (T i) - 97 + 1).toInt64), .ref 55] Y r K _
      refine q_pl (K := 7) (q := 51) dX6_scanWord_48 rfl cl_6 (by decide) tw_341 rfl rfl rfl rfl (fun J1 eJ1 => ?_)
      refine x_aload_n (q := 52) dX6_scanWord_51 rfl rfl ?_
      refine x_dup (q := 53) dX6_scanWord_52 rfl rfl ?_
      refine q_gi (K := 3) (q := 56) dX6_scanWord_53 rfl cl_6 (by decide) tw_334 rfl rfl ?_
      refine x_iconst (1) (q := 57) dX6_scanWord_56 rfl (by decide) ?_
      refine x_iadd (q := 58) dX6_scanWord_57 rfl ?_
      refine q_pi (K := 3) (q := 61) dX6_scanWord_58 rfl cl_6 (by decide) tw_334 rfl rfl rfl rfl (fun I2 eI2 => ?_)
      refine x_goto (t := 5) dX6_scanWord_61 (by decide) ?_
      rw [lI_b _ hT8] at c28
      have hl : ltr (T i) = true := by
        cases z : ltr (T i)
        · rw [z] at c28; exact absurd rfl c28
        · rfl
      have hii : q + (i - q) = i := by omega
      rw [h7] at eJ1
      have hv := wl_v (T := T) (q := q) (k := i - q) (by rw [hii]; exact hl)
      rw [hii] at hv
      rw [hv] at eJ1
      rw [e3, nI_p1] at eI2
      rw [eI2, eJ1]
      refine ih (i + 1) _ _ (by omega) (by omega) (fun c k e => ?_) hL.up (by rw [ups (by decide)]; exact h5) (by rw [ups (by decide)]; exact h8) ?_ (by rw [← hw]; exact (rlp_1 (by omega) hl).symm)
      · rw [upJc e]; exact hK c k e
      · rw [upJq, show i + 1 - q = i - q + 1 by omega]
set_option maxRecDepth 100000 in
theorem c_scW {T : Nat → Nat} {n : Nat} {X : MI} (hT : TX T n X) {r : MR} (h4 : r 4 = 1) {J : MJ} (hJ : RelJ J) {q : Nat} (hqn : q ≤ n) {Y : MI} {K : MJ} (hK : JL J K) (hL : Lq n q X Y) (h5 : Y 55 5 = nI q) (h8 : Y 55 8 = -1) : Cq yX6_scanWord MX6_scanWord [.ref 55] Y r K (Rq none (scW T n q X J) r) := by
  refine cq_of [some (.ref 55)] 0 (by decide +kernel) rfl rfl (Nat.le_of_ble_eq_true rfl) rfl ?_
  refine x_aload_n (q := 1) dX6_scanWord_0 rfl rfl ?_
  refine x_lconst 0 (q := 2) dX6_scanWord_1 rfl (by decide) ?_
  refine q_pl (K := 7) (q := 5) dX6_scanWord_2 rfl cl_6 (by decide) tw_341 rfl rfl rfl rfl (fun J1 eJ1 => ?_)
  refine l_scw hT h4 hJ hqn (n - q) q Y _ (by omega) (Nat.le_refl _) (fun c k e => ?_) hL h5 h8 ?_ rfl
  · rw [eJ1, upJc e]; exact hK c k e
  · rw [eJ1, upJq, Nat.sub_self]; rfl
