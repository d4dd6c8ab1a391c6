def inF (x lo hi : Int32) : Int32 := if lo ≤ x ∧ x ≤ hi then 1 else 0
theorem inF_1 {x lo hi : Int32} (h : ¬ inF x lo hi = 0) : lo ≤ x ∧ x ≤ hi := by
  unfold inF at h
  by_cases q : lo ≤ x ∧ x ≤ hi
  · exact q
  · rw [if_neg q] at h
    exact absurd rfl h
theorem inF_0 {x lo hi : Int32} (h : inF x lo hi = 0) : ¬ (lo ≤ x ∧ x ≤ hi) := by
  unfold inF at h
  intro q
  rw [if_pos q] at h
  exact absurd h (by decide)
theorem c_isIn (x lo hi : Int32) (I : MI) (r : MR) (J : MJ) : Cq yX12_isIn MX12_isIn [.int x, .int lo, .int hi] I r J (Rt (some (.int (inF x lo hi))) I r J) := by
  unfold inF
  by_cases q : lo ≤ x ∧ x ≤ hi
  · rw [if_pos q]
    exact c_isIn_g I r J q.1 q.2
  · rw [if_neg q]
    exact c_isIn_b I r J q
def lkF (I : MI) (b hn y k s : Nat) (Y : MI) : Prop := ∃ G, Y = gPut I 92 G ∧ ∀ l, l < laN I b y → G l = warmAt I b y hn (I (b + 8) k) s l
theorem GE_begX {I : MI} {b y la : Nat} {G : GT} (h5 : la ≤ 5) : GE la (beginG (I (b + 10 + 2 * y + 1)) G) (begG I b y) := by
  have e : b + 10 + 2 * y + 1 = b + 11 + 2 * y := by omega
  refine ⟨fun j hj => ?_, fun j j1 j2 => ?_⟩
  · unfold beginG begG
    rw [if_pos (by omega), if_pos (by omega), e]
  · unfold beginG begG
    rw [if_neg (by omega), if_pos j2, if_neg (by omega)]
set_option maxRecDepth 100000 in
theorem l_look {I : MI} {b yn hn y k s : Nat} (hL : LOk I b yn hn) (hy : y < yn) (hk : k < 7) (hsh : ShOk (I (b + 8) k)) (hs : s ≤ 72) (r : MR) (J : MJ) : ∀ (f i : Nat) (_ : i + f = s), Wq MX2_lookBack 20 [some (.ref 88), some (.ref b), some (.int (nI y)), some (.int (nI k)), some (.int (nI s)), some (.ref (b + 10 + 2 * y)), some (.int (nI i))] [] (gPut I 92 (trajY I b y hn (I (b + 8) k) 0 i (beginG (I (b + 10 + 2 * y + 1)) (gGet I 92)))) r J (Rp none (lkF I b hn y k s) r J) := by
  have h8 : yn ≤ 8 := hL.2.2.1
  have h5 := (la5 hL hy).2
  have hb28 := sh_L1 hL.1
  have hG : GB (laN I b y) 0 (beginG (I (b + 10 + 2 * y + 1)) (gGet I 92)) := GB_GE (GE_begX h5) (GB_beg hL hy)
  intro f
  induction f with
  | zero =>
    intro i hik
    refine x_iload (q := 22) dX2_lookBack_20 rfl rfl ?_
    refine x_iload (q := 24) dX2_lookBack_22 rfl rfl ?_
    refine x_icmp_ge (t := 51) (q := 27) dX2_lookBack_24 (by decide) rfl (fun c24 => ?_) (fun c24 => absurd c24 (fun q => q (nI_le (by omega) (by omega))))
    refine q_vret dX2_lookBack_51 rfl ?_
    rw [show i = s by omega]
    exact ⟨rfl, ⟨_, rfl, fun l hl => (GE_traj hL hy (GE_begX h5) s).1 l hl⟩, rfl, rfl⟩
  | succ f ih =>
    intro i hik
    refine x_iload (q := 22) dX2_lookBack_20 rfl rfl ?_
    refine x_iload (q := 24) dX2_lookBack_22 rfl rfl ?_
    refine x_icmp_ge (t := 51) (q := 27) dX2_lookBack_24 (by decide) rfl (fun c24 => absurd c24 (nI_ge (by omega) (by omega))) (fun c24 => ?_)
    refine x_aload_n (q := 28) dX2_lookBack_27 rfl rfl ?_
    refine q_gr (K := 4) (b := 92) (q := 31) dX2_lookBack_28 rfl cl_2 (by decide) tw_538 rfl rfl rfl ?_
    refine x_aload (q := 33) dX2_lookBack_31 rfl rfl ?_
    refine x_aload_n (q := 34) dX2_lookBack_33 rfl rfl ?_
    refine x_iload (q := 36) dX2_lookBack_34 rfl rfl ?_
    refine x_aload_n (q := 37) dX2_lookBack_36 rfl rfl ?_
    refine q_gr (K := 10) (b := (b + 8)) (q := 40) dX2_lookBack_37 rfl cl_5 (by decide) tw_203 hL.1 rfl (lr_w hL.1 _).2.2.2.2.2.2.2.1 ?_
    refine x_iload_n (q := 41) dX2_lookBack_40 rfl rfl ?_
    refine q_iald (q := 42) dX2_lookBack_41 rfl (ls_w hL.1).2.2.2.2.2.2.2.1 (vp_in_nI (by omega) (by decide)) ?_
    rw [nI_clamp (by omega), gPut_o _ _ _ _ _ (by omega) (by omega)]
    refine q_callV (ci := 4) (N := 5) (T := TX4) (As := [.ref (b + 10 + 2 * y), .ref b, .int (nI i), .int (I (b + 8) k)]) (rest := []) (q := 45) dX2_lookBack_42 rfl okX4_goStep tw_1004 rfl rfl (by have q := c_stepY (g := 92) rfl (s := 0 + i) (n := 0 + i) hL hy hsh (by omega) (by omega) (GB_traj hL hy hsh 0 hG i (by omega)) r J; rw [Nat.zero_add] at q; exact q) rfl rfl (Nat.le_of_ble_eq_true rfl) ⟨by decide, by decide⟩ ⟨rfl, rfl⟩ (fun rv_ I_ r_ J_ hv_ => ?_)
    obtain ⟨a1_, a2_, a3_, a4_⟩ := hv_
    rw [show stepY I b y hn (I (b + 8) k) i (trajY I b y hn (I (b + 8) k) 0 i (beginG (I (b + 10 + 2 * y + 1)) (gGet I 92))) = (trajY I b y hn (I (b + 8) k) 0 (i + 1) (beginG (I (b + 10 + 2 * y + 1)) (gGet I 92))) by show _ = stepY I b y hn (I (b + 8) k) (0 + i) _; rw [Nat.zero_add]] at a2_
    rw [a1_, a2_, a3_, a4_]
    show Wq MX2_lookBack 45 [some (.ref 88), some (.ref b), some (.int (nI y)), some (.int (nI k)), some (.int (nI s)), some (.ref (b + 10 + 2 * y)), some (.int (nI i))] [] (gPut I 92 (trajY I b y hn (I (b + 8) k) 0 (i + 1) (beginG (I (b + 10 + 2 * y + 1)) (gGet I 92)))) r J _
    obtain ⟨v1, ev1⟩ : ∃ y : Int32, y = (nI i) + 1 := ⟨_, rfl⟩
    refine x_iinc (v := v1) (L2 := [some (.ref 88), some (.ref b), some (.int (nI y)), some (.int (nI k)), some (.int (nI s)), some (.ref (b + 10 + 2 * y)), some (.int v1)]) (q := 48) dX2_lookBack_45 rfl (by decide) rfl rfl (by rw [ev1]; rfl) rfl ?_
    refine x_goto (t := 20) dX2_lookBack_48 (by decide) ?_
    rw [show v1 = nI (i + 1) by rw [ev1, nI_p1]]
    exact ih (i + 1) (by omega)
set_option maxRecDepth 100000 in
theorem c_look {I : MI} {b yn hn y k s : Nat} (hL : LOk I b yn hn) (hy : y < yn) (hk : k < 7) (hsh : ShOk (I (b + 8) k)) (hs : s ≤ 72) (r : MR) (J : MJ) : Cq yX2_lookBack MX2_lookBack [.ref 88, .ref b, .int (nI y), .int (nI k), .int (nI s)] I r J (Rp none (lkF I b hn y k s) r J) := by
  have h8 : yn ≤ 8 := hL.2.2.1
  have h5 := (la5 hL hy).2
  have hb28 := sh_L1 hL.1
  have hG : GB (laN I b y) 0 (beginG (I (b + 10 + 2 * y + 1)) (gGet I 92)) := GB_GE (GE_begX h5) (GB_beg hL hy)
  refine cq_of [some (.ref 88), some (.ref b), some (.int (nI y)), some (.int (nI k)), some (.int (nI s)), none, none] 2 (by decide +kernel) rfl rfl (Nat.le_of_ble_eq_true rfl) rfl ?_
  refine x_aload_n (q := 1) dX2_lookBack_0 rfl rfl ?_
  refine q_gr (K := 0) (b := (b + 1)) (q := 4) dX2_lookBack_1 rfl cl_5 (by decide) tw_162 hL.1 rfl (lr_w hL.1 _).1 ?_
  refine x_iload_n (q := 5) dX2_lookBack_4 rfl rfl ?_
  refine q_aald4 (b := (b + 10 + 2 * y)) (q := 6) dX2_lookBack_5 rfl (ls_w hL.1).1 (vp_in_nI (by omega) (by decide)) (by rw [nI_clamp (by omega)]; exact (ly_w hL.1 (by omega) _).1) ?_
  refine x_astore (L2 := [some (.ref 88), some (.ref b), some (.int (nI y)), some (.int (nI k)), some (.int (nI s)), some (.ref (b + 10 + 2 * y)), none]) (q := 8) dX2_lookBack_6 rfl (by decide) rfl rfl ?_
  refine x_aload_n (q := 9) dX2_lookBack_8 rfl rfl ?_
  refine q_gr (K := 4) (b := 92) (q := 12) dX2_lookBack_9 rfl cl_2 (by decide) tw_538 rfl rfl rfl ?_
  refine x_aload (q := 14) dX2_lookBack_12 rfl rfl ?_
  refine q_callV (ci := 4) (N := 5) (T := TX4) (As := [.ref (b + 10 + 2 * y)]) (rest := []) (q := 17) dX2_lookBack_14 rfl okX4_begin tw_1003 rfl rfl (by have q := c_begin (g := 92) (t := b + 10 + 2 * y) rfl (ly_w hL.1 (by omega) r).2 I (gGet I 92) r J; rw [gPut_get] at q; exact q) rfl rfl (Nat.le_of_ble_eq_true rfl) ⟨by decide, by decide⟩ ⟨rfl, rfl⟩ (fun rv_ I_ r_ J_ hv_ => ?_)
  obtain ⟨a1_, a2_, a3_, a4_⟩ := hv_
  rw [a1_, a2_, a3_, a4_]
  show Wq MX2_lookBack 17 [some (.ref 88), some (.ref b), some (.int (nI y)), some (.int (nI k)), some (.int (nI s)), some (.ref (b + 10 + 2 * y)), none] [] (gPut I 92 (beginG (I (b + 10 + 2 * y + 1)) (gGet I 92))) r J _
  refine x_iconst (0) (q := 18) dX2_lookBack_17 rfl (by decide) ?_
  refine x_istore (L2 := [some (.ref 88), some (.ref b), some (.int (nI y)), some (.int (nI k)), some (.int (nI s)), some (.ref (b + 10 + 2 * y)), some (.int 0)]) (q := 20) dX2_lookBack_18 rfl (by decide) rfl rfl ?_
  exact l_look hL hy hk hsh hs r J s 0 (by omega)
set_option maxRecDepth 100000 in
theorem c_shown {l : Nat} (hl : l < 5) (I : MI) (r : MR) (J : MJ) : Cq yX2_shown MX2_shown [.ref 88, .int (nI l)] I r J (Rt (some (.int (I 93 l))) I r J) := by
  refine cq_of [some (.ref 88), some (.int (nI l))] 0 (by decide +kernel) rfl rfl (Nat.le_of_ble_eq_true rfl) rfl ?_
  refine x_aload_n (q := 1) dX2_shown_0 rfl rfl ?_
  refine q_gr (K := 4) (b := 92) (q := 4) dX2_shown_1 rfl cl_2 (by decide) tw_538 rfl rfl rfl ?_
  refine q_gr (K := 0) (b := 93) (q := 7) dX2_shown_4 rfl cl_4 (by decide) tw_397 rfl rfl rfl ?_
  refine x_iload_n (q := 8) dX2_shown_7 rfl rfl ?_
  refine q_iald (q := 9) dX2_shown_8 rfl rfl (vp_in_nI (by omega) (by decide)) ?_
  refine q_iret dX2_shown_9 rfl ?_
  rw [nI_clamp (by omega)]
  exact ⟨rfl, rfl, rfl, rfl⟩
set_option maxRecDepth 100000 in
theorem c_add {I : MI} {gn : Nat} (g1 : gn < 30) (g2 : I 88 3 = nI gn) (t z : Int32) (r : MR) (J : MJ) : Cq yX2_add MX2_add [.ref 88, .int t, .int z] I r J (Rt (some (.int (nI gn))) (upI (upI (upI (upI I 89 gn t) 90 gn (-1)) 91 gn z) 88 3 (nI (gn + 1))) r J) := by
  refine cq_of [some (.ref 88), some (.int t), some (.int z)] 0 (by decide +kernel) rfl rfl (Nat.le_of_ble_eq_true rfl) rfl ?_
  refine x_aload_n (q := 1) dX2_add_0 rfl rfl ?_
  refine q_gi (K := 3) (q := 4) dX2_add_1 rfl cl_2 (by decide) tw_536 rfl rfl ?_
  refine x_bipush (30) (q := 6) dX2_add_4 rfl (by decide) ?_
  refine x_icmp_lt (t := 11) (q := 9) dX2_add_6 (by decide) rfl (fun c6 => ?_) (fun c6 => absurd c6 (fun q => q (by rw [g2]; exact nI_lt (b := 30) (by omega) (by decide))))
  refine x_aload_n (q := 12) dX2_add_11 rfl rfl ?_
  refine q_gr (K := 0) (b := 89) (q := 15) dX2_add_12 rfl cl_2 (by decide) tw_533 rfl rfl rfl ?_
  refine x_aload_n (q := 16) dX2_add_15 rfl rfl ?_
  refine q_gi (K := 3) (q := 19) dX2_add_16 rfl cl_2 (by decide) tw_536 rfl rfl ?_
  refine x_iload_n (q := 20) dX2_add_19 rfl rfl ?_
  refine q_iast (q := 21) dX2_add_20 rfl rfl (by first | (rw [g2]; exact vp_in_nI (by omega) (by decide)) | (subst_vars; simp only [upcj (show 88 ≠ 89 by decide), upcj (show 88 ≠ 90 by decide)]; rw [g2]; exact vp_in_nI (by omega) (by decide))) (fun I1 eI1 => ?_)
  refine x_aload_n (q := 22) dX2_add_21 rfl rfl ?_
  refine q_gr (K := 1) (b := 90) (q := 25) dX2_add_22 rfl cl_2 (by decide) tw_534 rfl rfl rfl ?_
  refine x_aload_n (q := 26) dX2_add_25 rfl rfl ?_
  refine q_gi (K := 3) (q := 29) dX2_add_26 rfl cl_2 (by decide) tw_536 rfl rfl ?_
  refine x_iconst (-1) (q := 30) dX2_add_29 rfl (by decide) ?_
  refine q_iast (q := 31) dX2_add_30 rfl rfl (by first | (rw [g2]; exact vp_in_nI (by omega) (by decide)) | (subst_vars; simp only [upcj (show 88 ≠ 89 by decide), upcj (show 88 ≠ 90 by decide)]; rw [g2]; exact vp_in_nI (by omega) (by decide))) (fun I2 eI2 => ?_)
  refine x_aload_n (q := 32) dX2_add_31 rfl rfl ?_
  refine q_gr (K := 2) (b := 91) (q := 35) dX2_add_32 rfl cl_2 (by decide) tw_535 rfl rfl rfl ?_
  refine x_aload_n (q := 36) dX2_add_35 rfl rfl ?_
  refine q_gi (K := 3) (q := 39) dX2_add_36 rfl cl_2 (by decide) tw_536 rfl rfl ?_
  refine x_iload_n (q := 40) dX2_add_39 rfl rfl ?_
  refine q_iast (q := 41) dX2_add_40 rfl rfl (by first | (rw [g2]; exact vp_in_nI (by omega) (by decide)) | (subst_vars; simp only [upcj (show 88 ≠ 89 by decide), upcj (show 88 ≠ 90 by decide)]; rw [g2]; exact vp_in_nI (by omega) (by decide))) (fun I3 eI3 => ?_)
  refine x_aload_n (q := 42) dX2_add_41 rfl rfl ?_
  refine x_dup (q := 43) dX2_add_42 rfl rfl ?_
  refine q_gi (K := 3) (q := 46) dX2_add_43 rfl cl_2 (by decide) tw_536 rfl rfl ?_
  refine x_iconst (1) (q := 47) dX2_add_46 rfl (by decide) ?_
  refine x_iadd (q := 48) dX2_add_47 rfl ?_
  refine q_pi (K := 3) (q := 51) dX2_add_48 rfl cl_2 (by decide) tw_536 rfl rfl rfl rfl (fun I4 eI4 => ?_)
  refine x_aload_n (q := 52) dX2_add_51 rfl rfl ?_
  refine q_gi (K := 3) (q := 55) dX2_add_52 rfl cl_2 (by decide) tw_536 rfl rfl ?_
  refine x_iconst (1) (q := 56) dX2_add_55 rfl (by decide) ?_
  refine x_isub (q := 57) dX2_add_56 rfl ?_
  refine q_iret dX2_add_57 rfl ?_
  have hcg : (nI gn).toNatClampNeg = gn := nI_clamp (by omega)
  rw [g2, hcg] at eI1
  have q1 : I1 88 3 = nI gn := by rw [eI1, upcj (by decide), g2]
  rw [q1, hcg] at eI2
  have q2 : I2 88 3 = nI gn := by rw [eI2, upcj (by decide), q1]
  rw [q2, hcg] at eI3
  have q3 : I3 88 3 = nI gn := by rw [eI3, upcj (by decide), q2]
  rw [q3, nI_p1] at eI4
  refine ⟨?_, ?_, rfl, rfl⟩
  · rw [eI4, upq, nI_m1 (by omega)]
    rfl
  · rw [eI4, eI3, eI2, eI1]
def rdOk (gn : Nat) (sp wm sm : Int32) : Prop := gn < 30 ∧ (0 ≤ sp ∧ sp ≤ 72) ∧ ((-999) ≤ wm ∧ wm ≤ 999) ∧ (0 ≤ sm ∧ sm ≤ 99)
theorem gn30 {gn : Nat} (g1 : gn ≤ 30) (h : ¬ gn < 30) : gn = 30 := by omega
set_option maxRecDepth 100000 in
theorem l_Xread {I : MI} {b yn wn hn sn st : Nat} {r : MR} (J : MJ) (hr : RefOk r b) (h : RelL I b yn wn hn sn st) {gn : Nat} (g2 : I 88 3 = nI gn) (hgn : gn < 30) {y l s : Nat} (hy : y < yn) (hl : l < laN I b y) (hs : s ≤ 72) (wm sm : Int32) : ∀ (f : Nat) (i : Nat) (X : MI) (_ : i + f = sn) (_ : Kp I X), Wq MX11_read 69 [some (.ref 0), some (.int (nI y)), some (.int (nI l)), some (.int (nI s)), some (.int wm), some (.int sm), some (.int (nI (bitsN (fitB I b hn y l s wm sm) i))), some (.int (nI i))] [] X r J (Rp (some (.int (nI gn))) (fun Y => ∃ X, Kp I X ∧ Y = upI (upI (upI (upI X 89 gn (I 0 11)) 90 gn (-1)) 91 gn (nI (bitsN (fitB I b hn y l s wm sm) sn))) 88 3 (nI (gn + 1))) r J) := by
  have hb28 := (refs_L hr).2
  have h8 : yn ≤ 8 := h.1.2.2.1
  have h5 := (la5 h.1 hy).2
  have hs7 : sn ≤ 7 := h.2.1.2.2.2.1
  intro f
  induction f with
  | zero =>
    intro i X hik hX
    have hLX := RelL_k hX hb28 h
    have ecX : X b 12 = nI sn := hLX.2.1.2.2.1
    refine x_iload (q := 71) dX11_read_69 rfl rfl ?_
    refine x_aload_n (q := 72) dX11_read_71 rfl rfl ?_
    refine q_gr (K := 2) (b := b) (q := 75) dX11_read_72 rfl cl_11 (by decide) tw_569 rfl rfl (by rw [← hr.1]; rfl) ?_
    refine q_gi (K := 12) (q := 78) dX11_read_75 rfl cl_5 (by decide) tw_214 h.1.1 rfl ?_
    refine x_icmp_ge (t := 130) (q := 81) dX11_read_78 (by decide) rfl (fun c78 => ?_) (fun c78 => absurd c78 (fun q => q (by rw [ecX]; exact nI_le (by omega) (by omega))))
    refine x_aload_n (q := 131) dX11_read_130 rfl rfl ?_
    refine q_gr (K := 10) (b := 88) (q := 134) dX11_read_131 rfl cl_11 (by decide) tw_577 rfl rfl rfl ?_
    refine x_aload_n (q := 135) dX11_read_134 rfl rfl ?_
    refine q_gi (K := 11) (q := 138) dX11_read_135 rfl cl_11 (by decide) tw_578 rfl rfl ?_
    refine x_iload (q := 140) dX11_read_138 rfl rfl ?_
    refine q_callV (ci := 2) (N := 9) (T := TX2) (As := [.int (X 0 11), .int (nI (bitsN (fitB I b hn y l s wm sm) i))]) (rest := []) (q := 143) dX11_read_140 rfl okX2_add tw_1012 rfl rfl (c_add hgn (by rw [hX 88 3 (by unfold scr; omega)]; exact g2) _ _ r J) rfl rfl (Nat.le_of_ble_eq_true rfl) ⟨by decide, by decide⟩ ⟨rfl, rfl⟩ (fun rv_ I_ r_ J_ hv_ => ?_)
    obtain ⟨a1_, a2_, a3_, a4_⟩ := hv_
    rw [a1_, a2_, a3_, a4_]
    show Wq MX11_read 143 [some (.ref 0), some (.int (nI y)), some (.int (nI l)), some (.int (nI s)), some (.int wm), some (.int sm), some (.int (nI (bitsN (fitB I b hn y l s wm sm) i))), some (.int (nI i))] [.int (nI gn)] (upI (upI (upI (upI X 89 gn (X 0 11)) 90 gn (-1)) 91 gn (nI (bitsN (fitB I b hn y l s wm sm) i))) 88 3 (nI (gn + 1))) r J _
    refine q_iret dX11_read_143 rfl ?_
    rw [show i = sn by omega, hX 0 11 (by unfold scr; omega)]
    exact ⟨rfl, ⟨X, hX, rfl⟩, rfl, rfl⟩
  | succ f ih =>
    intro i X hik hX
    have hLX := RelL_k hX hb28 h
    have ecX : X b 12 = nI sn := hLX.2.1.2.2.1
    have hsX : ∀ c, regL b c → X c = I c := hX.L hb28
    have hshX : ShOk (X (b + 8) i) := ((hLX.2.1.2.2.2.2.1 i (by omega)).1)
    refine x_iload (q := 71) dX11_read_69 rfl rfl ?_
    refine x_aload_n (q := 72) dX11_read_71 rfl rfl ?_
    refine q_gr (K := 2) (b := b) (q := 75) dX11_read_72 rfl cl_11 (by decide) tw_569 rfl rfl (by rw [← hr.1]; rfl) ?_
    refine q_gi (K := 12) (q := 78) dX11_read_75 rfl cl_5 (by decide) tw_214 h.1.1 rfl ?_
    refine x_icmp_ge (t := 130) (q := 81) dX11_read_78 (by decide) rfl (fun c78 => absurd c78 (by rw [ecX]; exact nI_ge (by omega) (by omega))) (fun c78 => ?_)
    refine x_aload_n (q := 82) dX11_read_81 rfl rfl ?_
    refine q_gr (K := 10) (b := 88) (q := 85) dX11_read_82 rfl cl_11 (by decide) tw_577 rfl rfl rfl ?_
    refine x_aload_n (q := 86) dX11_read_85 rfl rfl ?_
    refine q_gr (K := 2) (b := b) (q := 89) dX11_read_86 rfl cl_11 (by decide) tw_569 rfl rfl (by rw [← hr.1]; rfl) ?_
    refine x_iload_n (q := 90) dX11_read_89 rfl rfl ?_
    refine x_iload (q := 92) dX11_read_90 rfl rfl ?_
    refine x_iload_n (q := 93) dX11_read_92 rfl rfl ?_
    refine q_callV (ci := 2) (N := 9) (T := TX2) (As := [.ref b, .int (nI y), .int (nI i), .int (nI s)]) (rest := []) (q := 96) dX11_read_93 rfl okX2_lookBack tw_999 rfl rfl (c_look (k := i) hLX.1 hy (by omega) hshX hs r J) rfl rfl (Nat.le_of_ble_eq_true rfl) ⟨by decide, by decide⟩ ⟨rfl, rfl⟩ (fun rv_ Y r_ J_ hv_ => ?_)
    obtain ⟨a1_, ⟨Gy, eY, hGy⟩, a3_, a4_⟩ := hv_
    rw [a1_, a3_, a4_]
    show Wq MX11_read 96 [some (.ref 0), some (.int (nI y)), some (.int (nI l)), some (.int (nI s)), some (.int wm), some (.int sm), some (.int (nI (bitsN (fitB I b hn y l s wm sm) i))), some (.int (nI i))] [] Y r J _
    refine x_aload_n (q := 97) dX11_read_96 rfl rfl ?_
    refine q_gr (K := 10) (b := 88) (q := 100) dX11_read_97 rfl cl_11 (by decide) tw_577 rfl rfl rfl ?_
    refine x_iload_n (q := 101) dX11_read_100 rfl rfl ?_
    refine q_callV (ci := 2) (N := 9) (T := TX2) (As := [.int (nI l)]) (rest := []) (q := 104) dX11_read_101 rfl okX2_shown tw_1005 rfl rfl (c_shown (by omega) Y r J) rfl rfl (Nat.le_of_ble_eq_true rfl) ⟨by decide, by decide⟩ ⟨rfl, rfl⟩ (fun rv_ I_ r_ J_ hv_ => ?_)
    obtain ⟨a1_, a2_, a3_, a4_⟩ := hv_
    rw [a1_, a2_, a3_, a4_]
    show Wq MX11_read 104 [some (.ref 0), some (.int (nI y)), some (.int (nI l)), some (.int (nI s)), some (.int wm), some (.int sm), some (.int (nI (bitsN (fitB I b hn y l s wm sm) i))), some (.int (nI i))] [.int (Y 93 l)] Y r J _
    refine x_iload (q := 106) dX11_read_104 rfl rfl ?_
    refine x_isub (q := 107) dX11_read_106 rfl ?_
    refine x_abs (q := 110) dX11_read_107 rfl tw_1009 mm_abs_s mm_i mm_abs_c (by decide) (Nat.le_of_ble_eq_true rfl) (by decide) (by decide) ?_
    refine x_iload (q := 112) dX11_read_110 rfl rfl ?_
    refine x_icmp_gt (t := 124) (q := 115) dX11_read_112 (by decide) rfl (fun c112 => ?_) (fun c112 => ?_)
    · obtain ⟨v1, ev1⟩ : ∃ y : Int32, y = (nI i) + 1 := ⟨_, rfl⟩
      refine x_iinc (v := v1) (L2 := [some (.ref 0), some (.int (nI y)), some (.int (nI l)), some (.int (nI s)), some (.int wm), some (.int sm), some (.int (nI (bitsN (fitB I b hn y l s wm sm) i))), some (.int v1)]) (q := 127) dX11_read_124 rfl (by decide) rfl rfl (by rw [ev1]; rfl) rfl ?_
      refine x_goto (t := 69) dX11_read_127 (by decide) ?_
      have hKY : Kp I Y := hX.tr (by rw [eY]; exact Kp_92 Gy)
      have eV : Y 93 l = warmAt I b y hn (I (b + 8) i) s l := by
        rw [eY]
        show gPut X 92 Gy (92 + 1) l = _
        rw [gPut_w _ _ _ _ (by omega), hGy l (by rw [laN_c hsX (by omega)]; exact hl)]
        unfold warmAt begG
        rw [hsX (b + 8) ⟨by omega, by omega⟩, hsX (b + 11 + 2 * y) ⟨by omega, by omega⟩, trajY_c hsX (by omega)]
      rw [eV] at c112
      rw [show v1 = nI (i + 1) by rw [ev1, nI_p1]]
      have ef : (fitB I b hn y l s wm sm) i = false := decide_eq_false (Int32.not_le.mpr c112)
      have e9 : bitsN (fitB I b hn y l s wm sm) (i + 1) = bitsN (fitB I b hn y l s wm sm) i := by rw [bitsN_s, ef]; rfl
      rw [← e9]
      exact ih (i + 1) Y (by omega) hKY
    · refine x_iload (q := 117) dX11_read_115 rfl rfl ?_
      refine x_iconst (1) (q := 118) dX11_read_117 rfl (by decide) ?_
      refine x_iload (q := 120) dX11_read_118 rfl rfl ?_
      refine x_ishl (q := 121) dX11_read_120 rfl ?_
      refine x_ior (q := 122) dX11_read_121 rfl ?_
      refine x_nmi (fun v2 ev2 => ?_)
      refine x_istore (L2 := [some (.ref 0), some (.int (nI y)), some (.int (nI l)), some (.int (nI s)), some (.int wm), some (.int sm), some (.int v2), some (.int (nI i))]) (q := 124) dX11_read_122 rfl (by decide) rfl rfl ?_
      obtain ⟨v3, ev3⟩ : ∃ y : Int32, y = (nI i) + 1 := ⟨_, rfl⟩
      refine x_iinc (v := v3) (L2 := [some (.ref 0), some (.int (nI y)), some (.int (nI l)), some (.int (nI s)), some (.int wm), some (.int sm), some (.int v2), some (.int v3)]) (q := 127) dX11_read_124 rfl (by decide) rfl rfl (by rw [ev3]; rfl) rfl ?_
      refine x_goto (t := 69) dX11_read_127 (by decide) ?_
      have hKY : Kp I Y := hX.tr (by rw [eY]; exact Kp_92 Gy)
      have eV : Y 93 l = warmAt I b y hn (I (b + 8) i) s l := by
        rw [eY]
        show gPut X 92 Gy (92 + 1) l = _
        rw [gPut_w _ _ _ _ (by omega), hGy l (by rw [laN_c hsX (by omega)]; exact hl)]
        unfold warmAt begG
        rw [hsX (b + 8) ⟨by omega, by omega⟩, hsX (b + 11 + 2 * y) ⟨by omega, by omega⟩, trajY_c hsX (by omega)]
      rw [eV] at c112
      rw [show v3 = nI (i + 1) by rw [ev3, nI_p1]]
      have ef : (fitB I b hn y l s wm sm) i = true := decide_eq_true (Int32.not_lt.mp c112)
      have e9 : v2 = nI (bitsN (fitB I b hn y l s wm sm) (i + 1)) := by
        rw [ev2, sh1 (by omega), nI_or, bitsN_1 _ i (2 ^ i) (by rw [ef]; rfl)]
      rw [e9]
      exact ih (i + 1) Y (by omega) hKY
set_option maxRecDepth 100000 in
theorem c_Xread_g {I : MI} {b yn wn hn sn st : Nat} {r : MR} (J : MJ) (hr : RefOk r b) (h : RelL I b yn wn hn sn st) {gn : Nat} (g2 : I 88 3 = nI gn) (hgn : gn < 30) {y l s : Nat} (hy : y < yn) (hl : l < laN I b y) (hs : s ≤ 72) (wm sm : Int32) (hw : (-999) ≤ wm ∧ wm ≤ 999) (hm : 0 ≤ sm ∧ sm ≤ 99) : Cq yX11_read MX11_read [.ref 0, .int (nI y), .int (nI l), .int (nI s), .int wm, .int sm] I r J (Rp (some (.int (nI gn))) (fun Y => ∃ X, Kp I X ∧ Y = upI (upI (upI (upI X 89 gn (I 0 11)) 90 gn (-1)) 91 gn (nI (bitsN (fitB I b hn y l s wm sm) sn))) 88 3 (nI (gn + 1))) r J) := by
  have hb28 := (refs_L hr).2
  have h8 : yn ≤ 8 := h.1.2.2.1
  have h5 := (la5 h.1 hy).2
  have hs7 : sn ≤ 7 := h.2.1.2.2.2.1
  refine cq_of [some (.ref 0), some (.int (nI y)), some (.int (nI l)), some (.int (nI s)), some (.int wm), some (.int sm), none, none] 2 (by decide +kernel) rfl rfl (Nat.le_of_ble_eq_true rfl) rfl ?_
  refine x_aload_n (q := 1) dX11_read_0 rfl rfl ?_
  refine x_iload_n (q := 2) dX11_read_1 rfl rfl ?_
  refine x_iload_n (q := 3) dX11_read_2 rfl rfl ?_
  refine q_callV (ci := 11) (N := 14) (T := TX11) (As := [.int (nI y), .int (nI l)]) (rest := []) (q := 6) dX11_read_3 rfl okX11_isLayer tw_835 rfl rfl (c_isLayer_g J hr h hy hl) rfl rfl (Nat.le_of_ble_eq_true rfl) ⟨by decide, by decide⟩ ⟨rfl, rfl⟩ (fun rv_ I_ r_ J_ hv_ => ?_)
  obtain ⟨a1_, a2_, a3_, a4_⟩ := hv_
  rw [a1_, a2_, a3_, a4_]
  show Wq MX11_read 6 [some (.ref 0), some (.int (nI y)), some (.int (nI l)), some (.int (nI s)), some (.int wm), some (.int sm), none, none] [.int 1] I r J _
  refine x_if_eq (t := 31) (q := 9) dX11_read_6 (by decide) rfl (fun c6 => absurd c6 ((by decide))) (fun c6 => ?_)
  refine x_iload_n (q := 10) dX11_read_9 rfl rfl ?_
  refine x_if_lt (t := 31) (q := 13) dX11_read_10 (by decide) rfl (fun c10 => absurd c10 (nI_pos (by omega))) (fun c10 => ?_)
  refine x_iload_n (q := 14) dX11_read_13 rfl rfl ?_
  refine x_bipush (72) (q := 16) dX11_read_14 rfl (by decide) ?_
  refine x_icmp_gt (t := 31) (q := 19) dX11_read_16 (by decide) rfl (fun c16 => absurd c16 (fun q => absurd ((nI_ltI (a := 72) (by omega) (by omega)).mp q) (by omega))) (fun c16 => ?_)
  refine x_aload_n (q := 20) dX11_read_19 rfl rfl ?_
  refine q_gr (K := 10) (b := 88) (q := 23) dX11_read_20 rfl cl_11 (by decide) tw_577 rfl rfl rfl ?_
  refine q_gi (K := 3) (q := 26) dX11_read_23 rfl cl_2 (by decide) tw_537 rfl rfl ?_
  refine x_bipush (30) (q := 28) dX11_read_26 rfl (by decide) ?_
  refine x_icmp_lt (t := 33) (q := 31) dX11_read_28 (by decide) rfl (fun c28 => ?_) (fun c28 => absurd c28 (fun q => q (by rw [g2]; exact nI_lt (b := 30) (by omega) (by decide))))
  refine x_iload (q := 35) dX11_read_33 rfl rfl ?_
  refine x_sipush (-999) (q := 38) dX11_read_35 rfl (by decide) ?_
  refine x_icmp_lt (t := 61) (q := 41) dX11_read_38 (by decide) rfl (fun c38 => absurd c38 (Int32.not_lt.mpr hw.1)) (fun c38 => ?_)
  refine x_iload (q := 43) dX11_read_41 rfl rfl ?_
  refine x_sipush (999) (q := 46) dX11_read_43 rfl (by decide) ?_
  refine x_icmp_gt (t := 61) (q := 49) dX11_read_46 (by decide) rfl (fun c46 => absurd c46 (Int32.not_lt.mpr hw.2)) (fun c46 => ?_)
  refine x_iload (q := 51) dX11_read_49 rfl rfl ?_
  refine x_if_lt (t := 61) (q := 54) dX11_read_51 (by decide) rfl (fun c51 => absurd c51 (Int32.not_lt.mpr hm.1)) (fun c51 => ?_)
  refine x_iload (q := 56) dX11_read_54 rfl rfl ?_
  refine x_bipush (99) (q := 58) dX11_read_56 rfl (by decide) ?_
  refine x_icmp_le (t := 63) (q := 61) dX11_read_58 (by decide) rfl (fun c58 => ?_) (fun c58 => absurd c58 (fun q => q hm.2))
  refine x_iconst (0) (q := 64) dX11_read_63 rfl (by decide) ?_
  refine x_istore (L2 := [some (.ref 0), some (.int (nI y)), some (.int (nI l)), some (.int (nI s)), some (.int wm), some (.int sm), some (.int 0), none]) (q := 66) dX11_read_64 rfl (by decide) rfl rfl ?_
  refine x_iconst (0) (q := 67) dX11_read_66 rfl (by decide) ?_
  refine x_istore (L2 := [some (.ref 0), some (.int (nI y)), some (.int (nI l)), some (.int (nI s)), some (.int wm), some (.int sm), some (.int 0), some (.int 0)]) (q := 69) dX11_read_67 rfl (by decide) rfl rfl ?_
  exact l_Xread J hr h g2 hgn hy hl hs wm sm sn 0 I (by omega) Kp.rfl'
set_option maxRecDepth 100000 in
theorem c_Xread_1 {I : MI} {b yn wn hn sn st : Nat} {r : MR} (J : MJ) (hr : RefOk r b) (h : RelL I b yn wn hn sn st) {x z sp wm sm : Int32} (hno : ¬ ∃ k, k < yn ∧ x = nI k) : Cq yX11_read MX11_read [.ref 0, .int x, .int z, .int sp, .int wm, .int sm] I r J (Rt (some (.int (-1))) I r J) := by
  refine cq_of [some (.ref 0), some (.int x), some (.int z), some (.int sp), some (.int wm), some (.int sm), none, none] 2 (by decide +kernel) rfl rfl (Nat.le_of_ble_eq_true rfl) rfl ?_
  refine x_aload_n (q := 1) dX11_read_0 rfl rfl ?_
  refine x_iload_n (q := 2) dX11_read_1 rfl rfl ?_
  refine x_iload_n (q := 3) dX11_read_2 rfl rfl ?_
  refine q_callV (ci := 11) (N := 14) (T := TX11) (As := [.int x, .int z]) (rest := []) (q := 6) dX11_read_3 rfl okX11_isLayer tw_835 rfl rfl (c_isLayer_1 J hr h hno) rfl rfl (Nat.le_of_ble_eq_true rfl) ⟨by decide, by decide⟩ ⟨rfl, rfl⟩ (fun rv_ I_ r_ J_ hv_ => ?_)
  obtain ⟨a1_, a2_, a3_, a4_⟩ := hv_
  rw [a1_, a2_, a3_, a4_]
  show Wq MX11_read 6 [some (.ref 0), some (.int x), some (.int z), some (.int sp), some (.int wm), some (.int sm), none, none] [.int 0] I r J _
  refine x_if_eq (t := 31) (q := 9) dX11_read_6 (by decide) rfl (fun c6 => ?_) (fun c6 => absurd c6 ((by decide)))
  refine x_iconst (-1) (q := 32) dX11_read_31 rfl (by decide) ?_
  refine q_iret dX11_read_32 rfl ?_
  exact ⟨rfl, rfl, rfl, rfl⟩
set_option maxRecDepth 100000 in
theorem c_Xread_2 {I : MI} {b yn wn hn sn st : Nat} {r : MR} (J : MJ) (hr : RefOk r b) (h : RelL I b yn wn hn sn st) {y : Nat} (hy : y < yn) {z sp wm sm : Int32} (hno : ¬ ∃ k, k < laN I b y ∧ z = nI k) : Cq yX11_read MX11_read [.ref 0, .int (nI y), .int z, .int sp, .int wm, .int sm] I r J (Rt (some (.int (-1))) I r J) := by
  refine cq_of [some (.ref 0), some (.int (nI y)), some (.int z), some (.int sp), some (.int wm), some (.int sm), none, none] 2 (by decide +kernel) rfl rfl (Nat.le_of_ble_eq_true rfl) rfl ?_
  refine x_aload_n (q := 1) dX11_read_0 rfl rfl ?_
  refine x_iload_n (q := 2) dX11_read_1 rfl rfl ?_
  refine x_iload_n (q := 3) dX11_read_2 rfl rfl ?_
  refine q_callV (ci := 11) (N := 14) (T := TX11) (As := [.int (nI y), .int z]) (rest := []) (q := 6) dX11_read_3 rfl okX11_isLayer tw_835 rfl rfl (c_isLayer_2 J hr h hy hno) rfl rfl (Nat.le_of_ble_eq_true rfl) ⟨by decide, by decide⟩ ⟨rfl, rfl⟩ (fun rv_ I_ r_ J_ hv_ => ?_)
  obtain ⟨a1_, a2_, a3_, a4_⟩ := hv_
  rw [a1_, a2_, a3_, a4_]
  show Wq MX11_read 6 [some (.ref 0), some (.int (nI y)), some (.int z), some (.int sp), some (.int wm), some (.int sm), none, none] [.int 0] I r J _
  refine x_if_eq (t := 31) (q := 9) dX11_read_6 (by decide) rfl (fun c6 => ?_) (fun c6 => absurd c6 ((by decide)))
  refine x_iconst (-1) (q := 32) dX11_read_31 rfl (by decide) ?_
  refine q_iret dX11_read_32 rfl ?_
  exact ⟨rfl, rfl, rfl, rfl⟩
set_option maxRecDepth 100000 in
theorem c_Xread_3 {I : MI} {b yn wn hn sn st : Nat} {r : MR} (J : MJ) (hr : RefOk r b) (h : RelL I b yn wn hn sn st) {gn : Nat} (g1 : gn ≤ 30) (g2 : I 88 3 = nI gn) (g3 : I 100 72 = nI gn) {y l : Nat} (hy : y < yn) (hl : l < laN I b y) {sp wm sm : Int32} (hno : ¬ rdOk gn sp wm sm) : Cq yX11_read MX11_read [.ref 0, .int (nI y), .int (nI l), .int sp, .int wm, .int sm] I r J (Rt (some (.int (-1))) I r J) := by
  refine cq_of [some (.ref 0), some (.int (nI y)), some (.int (nI l)), some (.int sp), some (.int wm), some (.int sm), none, none] 2 (by decide +kernel) rfl rfl (Nat.le_of_ble_eq_true rfl) rfl ?_
  refine x_aload_n (q := 1) dX11_read_0 rfl rfl ?_
  refine x_iload_n (q := 2) dX11_read_1 rfl rfl ?_
  refine x_iload_n (q := 3) dX11_read_2 rfl rfl ?_
  refine q_callV (ci := 11) (N := 14) (T := TX11) (As := [.int (nI y), .int (nI l)]) (rest := []) (q := 6) dX11_read_3 rfl okX11_isLayer tw_835 rfl rfl (c_isLayer_g J hr h hy hl) rfl rfl (Nat.le_of_ble_eq_true rfl) ⟨by decide, by decide⟩ ⟨rfl, rfl⟩ (fun rv_ I_ r_ J_ hv_ => ?_)
  obtain ⟨a1_, a2_, a3_, a4_⟩ := hv_
  rw [a1_, a2_, a3_, a4_]
  show Wq MX11_read 6 [some (.ref 0), some (.int (nI y)), some (.int (nI l)), some (.int sp), some (.int wm), some (.int sm), none, none] [.int 1] I r J _
  refine x_if_eq (t := 31) (q := 9) dX11_read_6 (by decide) rfl (fun c6 => absurd c6 ((by decide))) (fun c6 => ?_)
  refine x_iload_n (q := 10) dX11_read_9 rfl rfl ?_
  refine x_if_lt (t := 31) (q := 13) dX11_read_10 (by decide) rfl (fun c10 => ?_) (fun c10 => ?_)
  · refine x_iconst (-1) (q := 32) dX11_read_31 rfl (by decide) ?_
    refine q_iret dX11_read_32 rfl ?_
    exact ⟨rfl, rfl, rfl, rfl⟩
  · refine x_iload_n (q := 14) dX11_read_13 rfl rfl ?_
    refine x_bipush (72) (q := 16) dX11_read_14 rfl (by decide) ?_
    refine x_icmp_gt (t := 31) (q := 19) dX11_read_16 (by decide) rfl (fun c16 => ?_) (fun c16 => ?_)
    · refine x_iconst (-1) (q := 32) dX11_read_31 rfl (by decide) ?_
      refine q_iret dX11_read_32 rfl ?_
      exact ⟨rfl, rfl, rfl, rfl⟩
    · refine x_aload_n (q := 20) dX11_read_19 rfl rfl ?_
      refine q_gr (K := 10) (b := 88) (q := 23) dX11_read_20 rfl cl_11 (by decide) tw_577 rfl rfl rfl ?_
      refine q_gi (K := 3) (q := 26) dX11_read_23 rfl cl_2 (by decide) tw_537 rfl rfl ?_
      refine x_bipush (30) (q := 28) dX11_read_26 rfl (by decide) ?_
      refine x_icmp_lt (t := 33) (q := 31) dX11_read_28 (by decide) rfl (fun c28 => ?_) (fun c28 => ?_)
      · refine x_iload (q := 35) dX11_read_33 rfl rfl ?_
        refine x_sipush (-999) (q := 38) dX11_read_35 rfl (by decide) ?_
        refine x_icmp_lt (t := 61) (q := 41) dX11_read_38 (by decide) rfl (fun c38 => ?_) (fun c38 => ?_)
        · refine x_iconst (-1) (q := 62) dX11_read_61 rfl (by decide) ?_
          refine q_iret dX11_read_62 rfl ?_
          exact ⟨rfl, rfl, rfl, rfl⟩
        · refine x_iload (q := 43) dX11_read_41 rfl rfl ?_
          refine x_sipush (999) (q := 46) dX11_read_43 rfl (by decide) ?_
          refine x_icmp_gt (t := 61) (q := 49) dX11_read_46 (by decide) rfl (fun c46 => ?_) (fun c46 => ?_)
          · refine x_iconst (-1) (q := 62) dX11_read_61 rfl (by decide) ?_
            refine q_iret dX11_read_62 rfl ?_
            exact ⟨rfl, rfl, rfl, rfl⟩
          · refine x_iload (q := 51) dX11_read_49 rfl rfl ?_
            refine x_if_lt (t := 61) (q := 54) dX11_read_51 (by decide) rfl (fun c51 => ?_) (fun c51 => ?_)
            · refine x_iconst (-1) (q := 62) dX11_read_61 rfl (by decide) ?_
              refine q_iret dX11_read_62 rfl ?_
              exact ⟨rfl, rfl, rfl, rfl⟩
            · refine x_iload (q := 56) dX11_read_54 rfl rfl ?_
              refine x_bipush (99) (q := 58) dX11_read_56 rfl (by decide) ?_
              refine x_icmp_le (t := 63) (q := 61) dX11_read_58 (by decide) rfl (fun c58 => ?_) (fun c58 => ?_)
              · exfalso
                refine hno ⟨?_, ⟨Int32.not_lt.mp c10, Int32.not_lt.mp c16⟩, ⟨Int32.not_lt.mp c38, Int32.not_lt.mp c46⟩, ⟨Int32.not_lt.mp c51, c58⟩⟩
                rw [g2] at c28
                exact (nI_ltI (b := 30) (by omega) (by omega)).mp c28
              · refine x_iconst (-1) (q := 62) dX11_read_61 rfl (by decide) ?_
                refine q_iret dX11_read_62 rfl ?_
                exact ⟨rfl, rfl, rfl, rfl⟩
      · refine x_iconst (-1) (q := 32) dX11_read_31 rfl (by decide) ?_
        refine q_iret dX11_read_32 rfl ?_
        exact ⟨rfl, rfl, rfl, rfl⟩
theorem la_w {I : MI} {b yn hn y : Nat} (h : LOk I b yn hn) (hy : y < yn) : I (b + 10 + 2 * y) 4 = nI (laN I b y) := by
  obtain ⟨so, la, q1, q2, q3, q4, q5, q6, q7, q8⟩ := h.2.2.2.2.2.1 y hy
  rw [la_of (so := so) q3 q5]
  exact q3
set_option maxRecDepth 100000 in
theorem c_Mread_h {I : MI} (r : MR) (J : MJ) {gn yn y l la s : Nat} (g3 : I 100 72 = nI gn) (hgn : gn < 30) (em : I 100 41 = nI yn) (h8 : yn ≤ 8) (hy : y < yn) (em4 : I 117 y = nI la) (q5 : la ≤ 5) (hl : l < la) (hs : s ≤ 72) {wm sm : Int32} (hw : (-999) ≤ wm ∧ wm ≤ 999) (hm : 0 ≤ sm ∧ sm ≤ 99) : Cq yX12_read MX12_read [.ref 100, .int (nI y), .int (nI l), .int (nI s), .int wm, .int sm] I r J (Rt (some (.int (nI gn))) (upI (upI (upI (upI (upI (upI (upI (upI I 134 gn (nI y)) 135 gn (nI l)) 136 gn (nI s)) 137 gn wm) 138 gn sm) 139 gn (I 100 73)) 140 gn (-1)) 100 72 (nI (gn + 1))) r J) := by
  have hcy : (nI y).toNatClampNeg = y := nI_clamp (by omega)
  refine cq_of [some (.ref 100), some (.int (nI y)), some (.int (nI l)), some (.int (nI s)), some (.int wm), some (.int sm)] 0 (by decide +kernel) rfl rfl (Nat.le_of_ble_eq_true rfl) rfl ?_
  refine x_aload_n (q := 1) dX12_read_0 rfl rfl ?_
  refine x_iload_n (q := 2) dX12_read_1 rfl rfl ?_
  refine q_callV (ci := 12) (N := 79) (T := TX12) (As := [.int (nI y)]) (rest := []) (q := 5) dX12_read_2 rfl okX12_isYard tw_1485 rfl rfl (c_mYard_g I r J em h8 hy) rfl rfl (Nat.le_of_ble_eq_true rfl) ⟨by decide, by decide⟩ ⟨rfl, rfl⟩ (fun rv_ I_ r_ J_ hv_ => ?_)
  obtain ⟨a1_, a2_, a3_, a4_⟩ := hv_
  rw [a1_, a2_, a3_, a4_]
  show Wq MX12_read 5 [some (.ref 100), some (.int (nI y)), some (.int (nI l)), some (.int (nI s)), some (.int wm), some (.int sm)] [.int 1] I r J _
  refine x_if_eq (t := 68) (q := 8) dX12_read_5 (by decide) rfl (fun c5 => absurd c5 ((by decide))) (fun c5 => ?_)
  refine x_iload_n (q := 9) dX12_read_8 rfl rfl ?_
  refine x_iconst (0) (q := 10) dX12_read_9 rfl (by decide) ?_
  refine x_aload_n (q := 11) dX12_read_10 rfl rfl ?_
  refine q_gr (K := 25) (b := 117) (q := 14) dX12_read_11 rfl cl_12 (by decide) tw_1107 rfl rfl rfl ?_
  refine x_iload_n (q := 15) dX12_read_14 rfl rfl ?_
  refine q_iald (q := 16) dX12_read_15 rfl rfl (vp_in_nI (by omega) (by decide)) ?_
  refine x_iconst (1) (q := 17) dX12_read_16 rfl (by decide) ?_
  refine x_isub (q := 18) dX12_read_17 rfl ?_
  refine q_callS (As := [.int (nI l), .int 0, .int ((I 117 (nI y).toNatClampNeg) - 1)]) (rest := []) (q := 21) dX12_read_18 rfl okX12_isIn tw_1450 (c_isIn_g I r J (nI_pos' (by omega)) (by rw [hcy, em4, nI_m1 (by omega)]; exact nI_le (by omega) (by omega))) rfl rfl (Nat.le_of_ble_eq_true rfl) ⟨by decide, by decide⟩ ⟨rfl, rfl⟩ (fun rv_ I_ r_ J_ hv_ => ?_)
  obtain ⟨a1_, a2_, a3_, a4_⟩ := hv_
  rw [a1_, a2_, a3_, a4_]
  show Wq MX12_read 21 [some (.ref 100), some (.int (nI y)), some (.int (nI l)), some (.int (nI s)), some (.int wm), some (.int sm)] [.int 1] I r J _
  refine x_if_eq (t := 68) (q := 24) dX12_read_21 (by decide) rfl (fun c21 => absurd c21 ((by decide))) (fun c21 => ?_)
  refine x_iload_n (q := 25) dX12_read_24 rfl rfl ?_
  refine x_iconst (0) (q := 26) dX12_read_25 rfl (by decide) ?_
  refine x_bipush (72) (q := 28) dX12_read_26 rfl (by decide) ?_
  refine q_callS (As := [.int (nI s), .int 0, .int 72]) (rest := []) (q := 31) dX12_read_28 rfl okX12_isIn tw_1450 (c_isIn_g I r J (nI_pos' (by omega)) (nI_le (b := 72) (by omega) (by decide))) rfl rfl (Nat.le_of_ble_eq_true rfl) ⟨by decide, by decide⟩ ⟨rfl, rfl⟩ (fun rv_ I_ r_ J_ hv_ => ?_)
  obtain ⟨a1_, a2_, a3_, a4_⟩ := hv_
  rw [a1_, a2_, a3_, a4_]
  show Wq MX12_read 31 [some (.ref 100), some (.int (nI y)), some (.int (nI l)), some (.int (nI s)), some (.int wm), some (.int sm)] [.int 1] I r J _
  refine x_if_eq (t := 68) (q := 34) dX12_read_31 (by decide) rfl (fun c31 => absurd c31 ((by decide))) (fun c31 => ?_)
  refine x_iload (q := 36) dX12_read_34 rfl rfl ?_
  refine x_sipush (-999) (q := 39) dX12_read_36 rfl (by decide) ?_
  refine x_sipush (999) (q := 42) dX12_read_39 rfl (by decide) ?_
  refine q_callS (As := [.int wm, .int (-999), .int 999]) (rest := []) (q := 45) dX12_read_42 rfl okX12_isIn tw_1450 (c_isIn_g I r J hw.1 hw.2) rfl rfl (Nat.le_of_ble_eq_true rfl) ⟨by decide, by decide⟩ ⟨rfl, rfl⟩ (fun rv_ I_ r_ J_ hv_ => ?_)
  obtain ⟨a1_, a2_, a3_, a4_⟩ := hv_
  rw [a1_, a2_, a3_, a4_]
  show Wq MX12_read 45 [some (.ref 100), some (.int (nI y)), some (.int (nI l)), some (.int (nI s)), some (.int wm), some (.int sm)] [.int 1] I r J _
  refine x_if_eq (t := 68) (q := 48) dX12_read_45 (by decide) rfl (fun c45 => absurd c45 ((by decide))) (fun c45 => ?_)
  refine x_iload (q := 50) dX12_read_48 rfl rfl ?_
  refine x_iconst (0) (q := 51) dX12_read_50 rfl (by decide) ?_
  refine x_bipush (99) (q := 53) dX12_read_51 rfl (by decide) ?_
  refine q_callS (As := [.int sm, .int 0, .int 99]) (rest := []) (q := 56) dX12_read_53 rfl okX12_isIn tw_1450 (c_isIn_g I r J hm.1 hm.2) rfl rfl (Nat.le_of_ble_eq_true rfl) ⟨by decide, by decide⟩ ⟨rfl, rfl⟩ (fun rv_ I_ r_ J_ hv_ => ?_)
  obtain ⟨a1_, a2_, a3_, a4_⟩ := hv_
  rw [a1_, a2_, a3_, a4_]
  show Wq MX12_read 56 [some (.ref 100), some (.int (nI y)), some (.int (nI l)), some (.int (nI s)), some (.int wm), some (.int sm)] [.int 1] I r J _
  refine x_if_eq (t := 68) (q := 59) dX12_read_56 (by decide) rfl (fun c56 => absurd c56 ((by decide))) (fun c56 => ?_)
  refine x_aload_n (q := 60) dX12_read_59 rfl rfl ?_
  refine q_gi (K := 72) (q := 63) dX12_read_60 rfl cl_12 (by decide) tw_1154 rfl rfl ?_
  refine x_bipush (30) (q := 65) dX12_read_63 rfl (by decide) ?_
  refine x_icmp_ne (t := 70) (q := 68) dX12_read_65 (by decide) rfl (fun c65 => ?_) (fun c65 => absurd c65 (by rw [g3]; exact fun z => absurd ((nI_eq (b := 30) (by omega) (by decide)).mp z) (by omega)))
  refine x_aload_n (q := 71) dX12_read_70 rfl rfl ?_
  refine q_gr (K := 65) (b := 134) (q := 74) dX12_read_71 rfl cl_12 (by decide) tw_1147 rfl rfl rfl ?_
  refine x_aload_n (q := 75) dX12_read_74 rfl rfl ?_
  refine q_gi (K := 72) (q := 78) dX12_read_75 rfl cl_12 (by decide) tw_1154 rfl rfl ?_
  refine x_iload_n (q := 79) dX12_read_78 rfl rfl ?_
  refine q_iast (q := 80) dX12_read_79 rfl rfl (by first | (rw [g3]; exact vp_in_nI (by omega) (by decide)) | (subst_vars; simp only [upcj (show 100 ≠ 134 by decide), upcj (show 100 ≠ 135 by decide), upcj (show 100 ≠ 136 by decide), upcj (show 100 ≠ 137 by decide), upcj (show 100 ≠ 138 by decide), upcj (show 100 ≠ 139 by decide)]; rw [g3]; exact vp_in_nI (by omega) (by decide))) (fun I1 eI1 => ?_)
  refine x_aload_n (q := 81) dX12_read_80 rfl rfl ?_
  refine q_gr (K := 66) (b := 135) (q := 84) dX12_read_81 rfl cl_12 (by decide) tw_1148 rfl rfl rfl ?_
  refine x_aload_n (q := 85) dX12_read_84 rfl rfl ?_
  refine q_gi (K := 72) (q := 88) dX12_read_85 rfl cl_12 (by decide) tw_1154 rfl rfl ?_
  refine x_iload_n (q := 89) dX12_read_88 rfl rfl ?_
  refine q_iast (q := 90) dX12_read_89 rfl rfl (by first | (rw [g3]; exact vp_in_nI (by omega) (by decide)) | (subst_vars; simp only [upcj (show 100 ≠ 134 by decide), upcj (show 100 ≠ 135 by decide), upcj (show 100 ≠ 136 by decide), upcj (show 100 ≠ 137 by decide), upcj (show 100 ≠ 138 by decide), upcj (show 100 ≠ 139 by decide)]; rw [g3]; exact vp_in_nI (by omega) (by decide))) (fun I2 eI2 => ?_)
  refine x_aload_n (q := 91) dX12_read_90 rfl rfl ?_
  refine q_gr (K := 67) (b := 136) (q := 94) dX12_read_91 rfl cl_12 (by decide) tw_1149 rfl rfl rfl ?_
  refine x_aload_n (q := 95) dX12_read_94 rfl rfl ?_
  refine q_gi (K := 72) (q := 98) dX12_read_95 rfl cl_12 (by decide) tw_1154 rfl rfl ?_
  refine x_iload_n (q := 99) dX12_read_98 rfl rfl ?_
  refine q_iast (q := 100) dX12_read_99 rfl rfl (by first | (rw [g3]; exact vp_in_nI (by omega) (by decide)) | (subst_vars; simp only [upcj (show 100 ≠ 134 by decide), upcj (show 100 ≠ 135 by decide), upcj (show 100 ≠ 136 by decide), upcj (show 100 ≠ 137 by decide), upcj (show 100 ≠ 138 by decide), upcj (show 100 ≠ 139 by decide)]; rw [g3]; exact vp_in_nI (by omega) (by decide))) (fun I3 eI3 => ?_)
  refine x_aload_n (q := 101) dX12_read_100 rfl rfl ?_
  refine q_gr (K := 68) (b := 137) (q := 104) dX12_read_101 rfl cl_12 (by decide) tw_1150 rfl rfl rfl ?_
  refine x_aload_n (q := 105) dX12_read_104 rfl rfl ?_
  refine q_gi (K := 72) (q := 108) dX12_read_105 rfl cl_12 (by decide) tw_1154 rfl rfl ?_
  refine x_iload (q := 110) dX12_read_108 rfl rfl ?_
  refine q_iast (q := 111) dX12_read_110 rfl rfl (by first | (rw [g3]; exact vp_in_nI (by omega) (by decide)) | (subst_vars; simp only [upcj (show 100 ≠ 134 by decide), upcj (show 100 ≠ 135 by decide), upcj (show 100 ≠ 136 by decide), upcj (show 100 ≠ 137 by decide), upcj (show 100 ≠ 138 by decide), upcj (show 100 ≠ 139 by decide)]; rw [g3]; exact vp_in_nI (by omega) (by decide))) (fun I4 eI4 => ?_)
  refine x_aload_n (q := 112) dX12_read_111 rfl rfl ?_
  refine q_gr (K := 69) (b := 138) (q := 115) dX12_read_112 rfl cl_12 (by decide) tw_1151 rfl rfl rfl ?_
  refine x_aload_n (q := 116) dX12_read_115 rfl rfl ?_
  refine q_gi (K := 72) (q := 119) dX12_read_116 rfl cl_12 (by decide) tw_1154 rfl rfl ?_
  refine x_iload (q := 121) dX12_read_119 rfl rfl ?_
  refine q_iast (q := 122) dX12_read_121 rfl rfl (by first | (rw [g3]; exact vp_in_nI (by omega) (by decide)) | (subst_vars; simp only [upcj (show 100 ≠ 134 by decide), upcj (show 100 ≠ 135 by decide), upcj (show 100 ≠ 136 by decide), upcj (show 100 ≠ 137 by decide), upcj (show 100 ≠ 138 by decide), upcj (show 100 ≠ 139 by decide)]; rw [g3]; exact vp_in_nI (by omega) (by decide))) (fun I5 eI5 => ?_)
  refine x_aload_n (q := 123) dX12_read_122 rfl rfl ?_
  refine q_gr (K := 70) (b := 139) (q := 126) dX12_read_123 rfl cl_12 (by decide) tw_1152 rfl rfl rfl ?_
  refine x_aload_n (q := 127) dX12_read_126 rfl rfl ?_
  refine q_gi (K := 72) (q := 130) dX12_read_127 rfl cl_12 (by decide) tw_1154 rfl rfl ?_
  refine x_aload_n (q := 131) dX12_read_130 rfl rfl ?_
  refine q_gi (K := 73) (q := 134) dX12_read_131 rfl cl_12 (by decide) tw_1155 rfl rfl ?_
  refine q_iast (q := 135) dX12_read_134 rfl rfl (by first | (rw [g3]; exact vp_in_nI (by omega) (by decide)) | (subst_vars; simp only [upcj (show 100 ≠ 134 by decide), upcj (show 100 ≠ 135 by decide), upcj (show 100 ≠ 136 by decide), upcj (show 100 ≠ 137 by decide), upcj (show 100 ≠ 138 by decide), upcj (show 100 ≠ 139 by decide)]; rw [g3]; exact vp_in_nI (by omega) (by decide))) (fun I6 eI6 => ?_)
  refine x_aload_n (q := 136) dX12_read_135 rfl rfl ?_
  refine q_gr (K := 71) (b := 140) (q := 139) dX12_read_136 rfl cl_12 (by decide) tw_1153 rfl rfl rfl ?_
  refine x_aload_n (q := 140) dX12_read_139 rfl rfl ?_
  refine q_gi (K := 72) (q := 143) dX12_read_140 rfl cl_12 (by decide) tw_1154 rfl rfl ?_
  refine x_iconst (-1) (q := 144) dX12_read_143 rfl (by decide) ?_
  refine q_iast (q := 145) dX12_read_144 rfl rfl (by first | (rw [g3]; exact vp_in_nI (by omega) (by decide)) | (subst_vars; simp only [upcj (show 100 ≠ 134 by decide), upcj (show 100 ≠ 135 by decide), upcj (show 100 ≠ 136 by decide), upcj (show 100 ≠ 137 by decide), upcj (show 100 ≠ 138 by decide), upcj (show 100 ≠ 139 by decide)]; rw [g3]; exact vp_in_nI (by omega) (by decide))) (fun I7 eI7 => ?_)
  refine x_aload_n (q := 146) dX12_read_145 rfl rfl ?_
  refine x_dup (q := 147) dX12_read_146 rfl rfl ?_
  refine q_gi (K := 72) (q := 150) dX12_read_147 rfl cl_12 (by decide) tw_1154 rfl rfl ?_
  refine x_iconst (1) (q := 151) dX12_read_150 rfl (by decide) ?_
  refine x_iadd (q := 152) dX12_read_151 rfl ?_
  refine q_pi (K := 72) (q := 155) dX12_read_152 rfl cl_12 (by decide) tw_1154 rfl rfl rfl rfl (fun I8 eI8 => ?_)
  refine x_aload_n (q := 156) dX12_read_155 rfl rfl ?_
  refine q_gi (K := 72) (q := 159) dX12_read_156 rfl cl_12 (by decide) tw_1154 rfl rfl ?_
  refine x_iconst (1) (q := 160) dX12_read_159 rfl (by decide) ?_
  refine x_isub (q := 161) dX12_read_160 rfl ?_
  refine q_iret dX12_read_161 rfl ?_
  have hcg : (nI gn).toNatClampNeg = gn := nI_clamp (by omega)
  rw [g3, hcg] at eI1
  have w1 : I1 100 72 = nI gn := by rw [eI1, upcj (by decide), g3]
  rw [w1, hcg] at eI2
  have w2 : I2 100 72 = nI gn := by rw [eI2, upcj (by decide), w1]
  rw [w2, hcg] at eI3
  have w3 : I3 100 72 = nI gn := by rw [eI3, upcj (by decide), w2]
  rw [w3, hcg] at eI4
  have w4 : I4 100 72 = nI gn := by rw [eI4, upcj (by decide), w3]
  rw [w4, hcg] at eI5
  have w5 : I5 100 72 = nI gn := by rw [eI5, upcj (by decide), w4]
  rw [w5, hcg] at eI6
  have w6 : I6 100 72 = nI gn := by rw [eI6, upcj (by decide), w5]
  rw [w6, hcg] at eI7
  have w7 : I7 100 72 = nI gn := by rw [eI7, upcj (by decide), w6]
  rw [w7, nI_p1] at eI8
  have t5 : I5 100 73 = I 100 73 := by rw [eI5, upcj (by decide), eI4, upcj (by decide), eI3, upcj (by decide), eI2, upcj (by decide), eI1, upcj (by decide)]
  rw [t5] at eI6
  refine ⟨?_, ?_, rfl, rfl⟩
  · rw [eI8, upq, nI_m1 (by omega)]
    rfl
  · rw [eI8, eI7, eI6, eI5, eI4, eI3, eI2, eI1]
set_option maxRecDepth 100000 in
theorem c_Mread_1 {I : MI} {b yn wn hn sn st : Nat} {r : MR} (J : MJ) (hr : RefOk r b) (h : RelL I b yn wn hn sn st) {x z sp wm sm : Int32} (hno : ¬ ∃ k, k < yn ∧ x = nI k) : Cq yX12_read MX12_read [.ref 100, .int x, .int z, .int sp, .int wm, .int sm] I r J (Rt (some (.int (-1))) I r J) := by
  have hb28 := (refs_L hr).2
  have h8 : yn ≤ 8 := h.1.2.2.1
  have em : I 100 41 = nI yn := h.2.2.1.1
  refine cq_of [some (.ref 100), some (.int x), some (.int z), some (.int sp), some (.int wm), some (.int sm)] 0 (by decide +kernel) rfl rfl (Nat.le_of_ble_eq_true rfl) rfl ?_
  refine x_aload_n (q := 1) dX12_read_0 rfl rfl ?_
  refine x_iload_n (q := 2) dX12_read_1 rfl rfl ?_
  refine q_callV (ci := 12) (N := 79) (T := TX12) (As := [.int x]) (rest := []) (q := 5) dX12_read_2 rfl okX12_isYard tw_1485 rfl rfl (c_mYard_b I r J em h8 hno) rfl rfl (Nat.le_of_ble_eq_true rfl) ⟨by decide, by decide⟩ ⟨rfl, rfl⟩ (fun rv_ I_ r_ J_ hv_ => ?_)
  obtain ⟨a1_, a2_, a3_, a4_⟩ := hv_
  rw [a1_, a2_, a3_, a4_]
  show Wq MX12_read 5 [some (.ref 100), some (.int x), some (.int z), some (.int sp), some (.int wm), some (.int sm)] [.int 0] I r J _
  refine x_if_eq (t := 68) (q := 8) dX12_read_5 (by decide) rfl (fun c5 => ?_) (fun c5 => absurd c5 ((by decide)))
  refine x_iconst (-1) (q := 69) dX12_read_68 rfl (by decide) ?_
  refine q_iret dX12_read_69 rfl ?_
  exact ⟨rfl, rfl, rfl, rfl⟩
set_option maxRecDepth 100000 in
theorem c_Mread_2 {I : MI} {b yn wn hn sn st : Nat} {r : MR} (J : MJ) (hr : RefOk r b) (h : RelL I b yn wn hn sn st) {y : Nat} (hy : y < yn) {z sp wm sm : Int32} (hno : ¬ ∃ k, k < laN I b y ∧ z = nI k) : Cq yX12_read MX12_read [.ref 100, .int (nI y), .int z, .int sp, .int wm, .int sm] I r J (Rt (some (.int (-1))) I r J) := by
  have hb28 := (refs_L hr).2
  have h8 : yn ≤ 8 := h.1.2.2.1
  have em : I 100 41 = nI yn := h.2.2.1.1
  have hcy : (nI y).toNatClampNeg = y := nI_clamp (by omega)
  obtain ⟨so, la, q1, q2, q3, q4, q5, q6, q7, q8⟩ := h.1.2.2.2.2.2.1 y hy
  have ela : laN I b y = la := la_of (so := so) q3 q5
  have em4 : I 117 y = nI la := by rw [(h.2.2.1.2.2.1 y hy).2.2.2.1]; exact q3
  refine cq_of [some (.ref 100), some (.int (nI y)), some (.int z), some (.int sp), some (.int wm), some (.int sm)] 0 (by decide +kernel) rfl rfl (Nat.le_of_ble_eq_true rfl) rfl ?_
  refine x_aload_n (q := 1) dX12_read_0 rfl rfl ?_
  refine x_iload_n (q := 2) dX12_read_1 rfl rfl ?_
  refine q_callV (ci := 12) (N := 79) (T := TX12) (As := [.int (nI y)]) (rest := []) (q := 5) dX12_read_2 rfl okX12_isYard tw_1485 rfl rfl (c_mYard_g I r J em h8 hy) rfl rfl (Nat.le_of_ble_eq_true rfl) ⟨by decide, by decide⟩ ⟨rfl, rfl⟩ (fun rv_ I_ r_ J_ hv_ => ?_)
  obtain ⟨a1_, a2_, a3_, a4_⟩ := hv_
  rw [a1_, a2_, a3_, a4_]
  show Wq MX12_read 5 [some (.ref 100), some (.int (nI y)), some (.int z), some (.int sp), some (.int wm), some (.int sm)] [.int 1] I r J _
  refine x_if_eq (t := 68) (q := 8) dX12_read_5 (by decide) rfl (fun c5 => absurd c5 ((by decide))) (fun c5 => ?_)
  refine x_iload_n (q := 9) dX12_read_8 rfl rfl ?_
  refine x_iconst (0) (q := 10) dX12_read_9 rfl (by decide) ?_
  refine x_aload_n (q := 11) dX12_read_10 rfl rfl ?_
  refine q_gr (K := 25) (b := 117) (q := 14) dX12_read_11 rfl cl_12 (by decide) tw_1107 rfl rfl rfl ?_
  refine x_iload_n (q := 15) dX12_read_14 rfl rfl ?_
  refine q_iald (q := 16) dX12_read_15 rfl rfl (vp_in_nI (by omega) (by decide)) ?_
  refine x_iconst (1) (q := 17) dX12_read_16 rfl (by decide) ?_
  refine x_isub (q := 18) dX12_read_17 rfl ?_
  refine q_callS (As := [.int z, .int 0, .int ((I 117 (nI y).toNatClampNeg) - 1)]) (rest := []) (q := 21) dX12_read_18 rfl okX12_isIn tw_1450 (c_isIn_b I r J (by rw [hcy, em4]; exact in_no (by omega) (fun q => hno (by rw [ela]; exact q)))) rfl rfl (Nat.le_of_ble_eq_true rfl) ⟨by decide, by decide⟩ ⟨rfl, rfl⟩ (fun rv_ I_ r_ J_ hv_ => ?_)
  obtain ⟨a1_, a2_, a3_, a4_⟩ := hv_
  rw [a1_, a2_, a3_, a4_]
  show Wq MX12_read 21 [some (.ref 100), some (.int (nI y)), some (.int z), some (.int sp), some (.int wm), some (.int sm)] [.int 0] I r J _
  refine x_if_eq (t := 68) (q := 24) dX12_read_21 (by decide) rfl (fun c21 => ?_) (fun c21 => absurd c21 ((by decide)))
  refine x_iconst (-1) (q := 69) dX12_read_68 rfl (by decide) ?_
  refine q_iret dX12_read_69 rfl ?_
  exact ⟨rfl, rfl, rfl, rfl⟩
set_option maxRecDepth 100000 in
theorem c_Mread_3 {I : MI} {b yn wn hn sn st : Nat} {r : MR} (J : MJ) (hr : RefOk r b) (h : RelL I b yn wn hn sn st) {gn : Nat} (g1 : gn ≤ 30) (g2 : I 88 3 = nI gn) (g3 : I 100 72 = nI gn) {y l : Nat} (hy : y < yn) (hl : l < laN I b y) {sp wm sm : Int32} (hno : ¬ rdOk gn sp wm sm) : Cq yX12_read MX12_read [.ref 100, .int (nI y), .int (nI l), .int sp, .int wm, .int sm] I r J (Rt (some (.int (-1))) I r J) := by
  have hb28 := (refs_L hr).2
  have h8 : yn ≤ 8 := h.1.2.2.1
  have em : I 100 41 = nI yn := h.2.2.1.1
  have hcy : (nI y).toNatClampNeg = y := nI_clamp (by omega)
  obtain ⟨so, la, q1, q2, q3, q4, q5, q6, q7, q8⟩ := h.1.2.2.2.2.2.1 y hy
  have ela : laN I b y = la := la_of (so := so) q3 q5
  have em4 : I 117 y = nI la := by rw [(h.2.2.1.2.2.1 y hy).2.2.2.1]; exact q3
  refine cq_of [some (.ref 100), some (.int (nI y)), some (.int (nI l)), some (.int sp), some (.int wm), some (.int sm)] 0 (by decide +kernel) rfl rfl (Nat.le_of_ble_eq_true rfl) rfl ?_
  refine x_aload_n (q := 1) dX12_read_0 rfl rfl ?_
  refine x_iload_n (q := 2) dX12_read_1 rfl rfl ?_
  refine q_callV (ci := 12) (N := 79) (T := TX12) (As := [.int (nI y)]) (rest := []) (q := 5) dX12_read_2 rfl okX12_isYard tw_1485 rfl rfl (c_mYard_g I r J em h8 hy) rfl rfl (Nat.le_of_ble_eq_true rfl) ⟨by decide, by decide⟩ ⟨rfl, rfl⟩ (fun rv_ I_ r_ J_ hv_ => ?_)
  obtain ⟨a1_, a2_, a3_, a4_⟩ := hv_
  rw [a1_, a2_, a3_, a4_]
  show Wq MX12_read 5 [some (.ref 100), some (.int (nI y)), some (.int (nI l)), some (.int sp), some (.int wm), some (.int sm)] [.int 1] I r J _
  refine x_if_eq (t := 68) (q := 8) dX12_read_5 (by decide) rfl (fun c5 => absurd c5 ((by decide))) (fun c5 => ?_)
  refine x_iload_n (q := 9) dX12_read_8 rfl rfl ?_
  refine x_iconst (0) (q := 10) dX12_read_9 rfl (by decide) ?_
  refine x_aload_n (q := 11) dX12_read_10 rfl rfl ?_
  refine q_gr (K := 25) (b := 117) (q := 14) dX12_read_11 rfl cl_12 (by decide) tw_1107 rfl rfl rfl ?_
  refine x_iload_n (q := 15) dX12_read_14 rfl rfl ?_
  refine q_iald (q := 16) dX12_read_15 rfl rfl (vp_in_nI (by omega) (by decide)) ?_
  refine x_iconst (1) (q := 17) dX12_read_16 rfl (by decide) ?_
  refine x_isub (q := 18) dX12_read_17 rfl ?_
  refine q_callS (As := [.int (nI l), .int 0, .int ((I 117 (nI y).toNatClampNeg) - 1)]) (rest := []) (q := 21) dX12_read_18 rfl okX12_isIn tw_1450 (c_isIn_g I r J (nI_pos' (by omega)) (by rw [hcy, em4, nI_m1 (by omega)]; exact nI_le (by omega) (by omega))) rfl rfl (Nat.le_of_ble_eq_true rfl) ⟨by decide, by decide⟩ ⟨rfl, rfl⟩ (fun rv_ I_ r_ J_ hv_ => ?_)
  obtain ⟨a1_, a2_, a3_, a4_⟩ := hv_
  rw [a1_, a2_, a3_, a4_]
  show Wq MX12_read 21 [some (.ref 100), some (.int (nI y)), some (.int (nI l)), some (.int sp), some (.int wm), some (.int sm)] [.int 1] I r J _
  refine x_if_eq (t := 68) (q := 24) dX12_read_21 (by decide) rfl (fun c21 => absurd c21 ((by decide))) (fun c21 => ?_)
  refine x_iload_n (q := 25) dX12_read_24 rfl rfl ?_
  refine x_iconst (0) (q := 26) dX12_read_25 rfl (by decide) ?_
  refine x_bipush (72) (q := 28) dX12_read_26 rfl (by decide) ?_
  refine q_callS (As := [.int sp, .int 0, .int 72]) (rest := []) (q := 31) dX12_read_28 rfl okX12_isIn tw_1450 (c_isIn _ _ _ _ r J) rfl rfl (Nat.le_of_ble_eq_true rfl) ⟨by decide, by decide⟩ ⟨rfl, rfl⟩ (fun rv_ I_ r_ J_ hv_ => ?_)
  obtain ⟨a1_, a2_, a3_, a4_⟩ := hv_
  rw [a1_, a2_, a3_, a4_]
  show Wq MX12_read 31 [some (.ref 100), some (.int (nI y)), some (.int (nI l)), some (.int sp), some (.int wm), some (.int sm)] [.int (inF sp 0 72)] I r J _
  refine x_if_eq (t := 68) (q := 34) dX12_read_31 (by decide) rfl (fun c31 => ?_) (fun c31 => ?_)
  · refine x_iconst (-1) (q := 69) dX12_read_68 rfl (by decide) ?_
    refine q_iret dX12_read_69 rfl ?_
    exact ⟨rfl, rfl, rfl, rfl⟩
  · refine x_iload (q := 36) dX12_read_34 rfl rfl ?_
    refine x_sipush (-999) (q := 39) dX12_read_36 rfl (by decide) ?_
    refine x_sipush (999) (q := 42) dX12_read_39 rfl (by decide) ?_
    refine q_callS (As := [.int wm, .int (-999), .int 999]) (rest := []) (q := 45) dX12_read_42 rfl okX12_isIn tw_1450 (c_isIn _ _ _ _ r J) rfl rfl (Nat.le_of_ble_eq_true rfl) ⟨by decide, by decide⟩ ⟨rfl, rfl⟩ (fun rv_ I_ r_ J_ hv_ => ?_)
    obtain ⟨a1_, a2_, a3_, a4_⟩ := hv_
    rw [a1_, a2_, a3_, a4_]
    show Wq MX12_read 45 [some (.ref 100), some (.int (nI y)), some (.int (nI l)), some (.int sp), some (.int wm), some (.int sm)] [.int (inF wm (-999) 999)] I r J _
    refine x_if_eq (t := 68) (q := 48) dX12_read_45 (by decide) rfl (fun c45 => ?_) (fun c45 => ?_)
    · refine x_iconst (-1) (q := 69) dX12_read_68 rfl (by decide) ?_
      refine q_iret dX12_read_69 rfl ?_
      exact ⟨rfl, rfl, rfl, rfl⟩
    · refine x_iload (q := 50) dX12_read_48 rfl rfl ?_
      refine x_iconst (0) (q := 51) dX12_read_50 rfl (by decide) ?_
      refine x_bipush (99) (q := 53) dX12_read_51 rfl (by decide) ?_
      refine q_callS (As := [.int sm, .int 0, .int 99]) (rest := []) (q := 56) dX12_read_53 rfl okX12_isIn tw_1450 (c_isIn _ _ _ _ r J) rfl rfl (Nat.le_of_ble_eq_true rfl) ⟨by decide, by decide⟩ ⟨rfl, rfl⟩ (fun rv_ I_ r_ J_ hv_ => ?_)
      obtain ⟨a1_, a2_, a3_, a4_⟩ := hv_
      rw [a1_, a2_, a3_, a4_]
      show Wq MX12_read 56 [some (.ref 100), some (.int (nI y)), some (.int (nI l)), some (.int sp), some (.int wm), some (.int sm)] [.int (inF sm 0 99)] I r J _
      refine x_if_eq (t := 68) (q := 59) dX12_read_56 (by decide) rfl (fun c56 => ?_) (fun c56 => ?_)
      · refine x_iconst (-1) (q := 69) dX12_read_68 rfl (by decide) ?_
        refine q_iret dX12_read_69 rfl ?_
        exact ⟨rfl, rfl, rfl, rfl⟩
      · refine x_aload_n (q := 60) dX12_read_59 rfl rfl ?_
        refine q_gi (K := 72) (q := 63) dX12_read_60 rfl cl_12 (by decide) tw_1154 rfl rfl ?_
        refine x_bipush (30) (q := 65) dX12_read_63 rfl (by decide) ?_
        refine x_icmp_ne (t := 70) (q := 68) dX12_read_65 (by decide) rfl (fun c65 => ?_) (fun c65 => ?_)
        · exfalso
          refine hno ⟨?_, inF_1 c31, inF_1 c45, inF_1 c56⟩
          rw [g3] at c65
          by_cases z : gn = 30
          · subst z
            exact absurd rfl c65
          · omega
        · refine x_iconst (-1) (q := 69) dX12_read_68 rfl (by decide) ?_
          refine q_iret dX12_read_69 rfl ?_
          exact ⟨rfl, rfl, rfl, rfl⟩
theorem ti_in {x lo hi : Int32} (h : lo ≤ x ∧ x ≤ hi) {a c : Int} (ha : lo.toInt = a) (hc : hi.toInt = c) : Ib x a c := ⟨by rw [← ha]; exact Int32.le_iff_toInt_le.mp h.1, by rw [← hc]; exact Int32.le_iff_toInt_le.mp h.2⟩
theorem op_read (x z sp wm sm : Int32) : OpOk yX11_read MX11_read yX12_read MX12_read [.int x, .int z, .int sp, .int wm, .int sm] := by
  intro I r J hrel
  have hre2 := hrel
  obtain ⟨b, yn, wn, hn, sn, st, hr, hl, hR, hJ⟩ := hrel
  have hb := (refs_L hr).2
  have h8 : yn ≤ 8 := hl.1.2.2.1
  obtain ⟨gn, g1, g2, g3, g4⟩ := hl.2.2.2.2.2.1
  by_cases h1 : ∃ k, k < yn ∧ x = nI k
  · obtain ⟨y, hy, rfl⟩ := h1
    by_cases h2 : ∃ k, k < laN I b y ∧ z = nI k
    · obtain ⟨l, hll, rfl⟩ := h2
      by_cases h3 : rdOk gn sp wm sm
      · obtain ⟨hgn, hsp, hw, hm⟩ := h3
        obtain ⟨s, hs, rfl⟩ := st_of (N := 72) (by decide) hsp
        refine op_of (res := nI gn) (c_Xread_g J hr hl g2 hgn hy hll hs wm sm hw hm) (fun v I1 r1 J1 hp => ?_)
        obtain ⟨e1, ⟨X, hX, e2⟩, e3, e4⟩ := hp
        subst e3
        subst e4
        have fr1 : ∀ c j, ¬ scr c j → ¬ (c = 88 ∧ j = 3) → ¬ (89 ≤ c ∧ c ≤ 91 ∧ j = gn) → I1 c j = I c j := fun c j q1 q2 q3 => by
          rw [e2]
          unfold upI
          rw [if_neg q2, if_neg (fun w => q3 ⟨by omega, by omega, w.2⟩), if_neg (fun w => q3 ⟨by omega, by omega, w.2⟩), if_neg (fun w => q3 ⟨by omega, by omega, w.2⟩), hX c j q1]
        have hLc : ∀ c, regL b c → I1 c = I c := fun c q => funext fun j => fr1 c j (by unfold regL at q; unfold scr; omega) (by unfold regL at q; omega) (by unfold regL at q; omega)
        have hMc : ∀ c, regM c → I1 c = I c := fun c q => funext fun j => fr1 c j (by unfold regM at q; unfold scr; omega) (by unfold regM at q; omega) (by unfold regM at q; omega)
        have m72 : I1 100 72 = nI gn := by rw [fr1 100 72 (by unfold scr; omega) (by omega) (by omega)]; exact g3
        have m41 : I1 100 41 = nI yn := by rw [fr1 100 41 (by unfold scr; omega) (by omega) (by omega)]; exact hl.2.2.1.1
        have m117 : I1 117 y = I (b + 10 + 2 * y) 4 := by rw [fr1 117 y (by unfold scr; omega) (by omega) (by omega)]; exact (hl.2.2.1.2.2.1 y hy).2.2.2.1
        refine ⟨e1, cq_mono (fun v2 I2 r2 J2 hq => ?_) (c_Mread_h (I := I1) r1 J1 m72 hgn m41 h8 hy (la := laN I b y) (by rw [m117]; exact (la_w hl.1 hy)) (la5 hl.1 hy).2 hll hs hw hm)⟩
        obtain ⟨f1, f2, f3, f4⟩ := hq
        subst f3
        subst f4
        have mt : I1 100 73 = I 0 11 := by rw [fr1 100 73 (by unfold scr; omega) (by omega) (by omega)]; exact hR.2.2.1.1
        rw [mt] at f2
        have fr : ∀ c j, ¬ scr c j → ¬ (c = 88 ∧ j = 3) → ¬ (89 ≤ c ∧ c ≤ 91 ∧ j = gn) → ¬ (134 ≤ c ∧ c ≤ 140 ∧ j = gn) → ¬ (c = 100 ∧ j = 72) → I2 c j = I c j := fun c j q1 q2 q3 q4 q5 => by
          rw [f2]
          unfold upI
          rw [if_neg q5, if_neg (fun w => q4 ⟨by omega, by omega, w.2⟩), if_neg (fun w => q4 ⟨by omega, by omega, w.2⟩), if_neg (fun w => q4 ⟨by omega, by omega, w.2⟩), if_neg (fun w => q4 ⟨by omega, by omega, w.2⟩), if_neg (fun w => q4 ⟨by omega, by omega, w.2⟩), if_neg (fun w => q4 ⟨by omega, by omega, w.2⟩), if_neg (fun w => q4 ⟨by omega, by omega, w.2⟩)]
          exact fr1 c j q1 q2 q3
        have lowv : ∀ c j, ¬ (134 ≤ c ∧ c ≤ 140) → ¬ (c = 100 ∧ j = 72) → I2 c j = I1 c j := fun c j q4 q5 => by
          rw [f2]
          unfold upI
          rw [if_neg q5, if_neg (fun w => q4 ⟨by omega, by omega⟩), if_neg (fun w => q4 ⟨by omega, by omega⟩), if_neg (fun w => q4 ⟨by omega, by omega⟩), if_neg (fun w => q4 ⟨by omega, by omega⟩), if_neg (fun w => q4 ⟨by omega, by omega⟩), if_neg (fun w => q4 ⟨by omega, by omega⟩), if_neg (fun w => q4 ⟨by omega, by omega⟩)]
        have hL2 : ∀ c, regL b c → I2 c = I c := fun c q => funext fun j => fr c j (by unfold regL at q; unfold scr; omega) (by unfold regL at q; omega) (by unfold regL at q; omega) (by unfold regL at q; omega) (by unfold regL at q; omega)
        refine ⟨f1, b, yn, wn, hn, sn, st, hr, RelL_g (fun c w1 w2 => funext fun j => fr c j (by unfold regL regM at w2; unfold scr; omega) (by unfold regL regM at w2; omega) (by unfold regL regM at w2; omega) (by unfold regL regM at w2; omega) (by omega)) (fun j hj => fr 100 j (by unfold scr; omega) (by omega) (by omega) (by omega) (by omega)) hb ⟨gn + 1, by omega, ?_, ?_, fun g hg => ?_⟩ hl, ?_, hJ⟩
        · rw [lowv 88 3 (by omega) (by omega), e2, upq]
        · rw [f2, upq]
        · by_cases e : g = gn
          · subst e
            have u89 : I2 89 g = I 0 11 := by rw [lowv 89 g (by omega) (by omega), e2, upcj (by decide), upcj (by decide), upcj (by decide), upq]
            have u90 : I2 90 g = -1 := by rw [lowv 90 g (by omega) (by omega), e2, upcj (by decide), upcj (by decide), upq]
            have u91 : I2 91 g = nI (bitsN (fitB I b hn y l s wm sm) sn) := by rw [lowv 91 g (by omega) (by omega), e2, upcj (by decide), upq]
            have u134 : I2 134 g = nI y := by rw [f2, upcj (by decide), upcj (by decide), upcj (by decide), upcj (by decide), upcj (by decide), upcj (by decide), upcj (by decide), upq]
            have u135 : I2 135 g = nI l := by rw [f2, upcj (by decide), upcj (by decide), upcj (by decide), upcj (by decide), upcj (by decide), upcj (by decide), upq]
            have u136 : I2 136 g = nI s := by rw [f2, upcj (by decide), upcj (by decide), upcj (by decide), upcj (by decide), upcj (by decide), upq]
            have u137 : I2 137 g = wm := by rw [f2, upcj (by decide), upcj (by decide), upcj (by decide), upcj (by decide), upq]
            have u138 : I2 138 g = sm := by rw [f2, upcj (by decide), upcj (by decide), upcj (by decide), upq]
            have u139 : I2 139 g = I 0 11 := by rw [f2, upcj (by decide), upcj (by decide), upq]
            have u140 : I2 140 g = -1 := by rw [f2, upcj (by decide), upq]
            rw [u89, u90, u91, u134, u135, u136, u137, u138, u139, u140]
            refine ⟨rfl, rfl, Or.inl rfl, y, l, s, hy, by rw [laN_c hL2 (by omega)]; exact hll, hs, rfl, rfl, rfl, ti_in hw (by decide) (by decide), ti_in hm (by decide) (by decide), ?_⟩
            have ef : fitB I2 b hn y l s wm sm = fitB I b hn y l s wm sm := by
              funext k
              unfold fitB warmAt begG
              rw [hL2 (b + 8) ⟨by omega, by omega⟩, hL2 (b + 11 + 2 * y) ⟨by omega, by omega⟩, trajY_c hL2 (by omega)]
            rw [ef]
          · exact Gl1_c (I := I) hL2 (fun c q1 q2 => fr c g (by unfold scr; omega) (by omega) (by omega) (by omega) (by omega)) (fun c q1 q2 => fr c g (by unfold scr; omega) (by omega) (by omega) (by omega) (by omega)) h8 (g4 g (by omega))
        · exact RelR_c (fr 0 1 (by unfold scr; omega) (by omega) (by omega) (by omega) (by omega)) (fr 0 11 (by unfold scr; omega) (by omega) (by omega) (by omega) (by omega)) (funext fun j => fr 1 j (by unfold scr; omega) (by omega) (by omega) (by omega) (by omega)) (funext fun j => fr 54 j (by unfold scr; omega) (by omega) (by omega) (by omega) (by omega)) (fr 80 4 (by unfold scr; omega) (by omega) (by omega) (by omega) (by omega)) (funext fun j => fr 84 j (by unfold scr; omega) (by omega) (by omega) (by omega) (by omega)) (funext fun j => fr 101 j (by unfold scr; omega) (by omega) (by omega) (by omega) (by omega)) (funext fun j => fr 130 j (by unfold scr; omega) (by omega) (by omega) (by omega) (by omega)) (fun j hj => fr 100 j (by unfold scr; omega) (by omega) (by omega) (by omega) (by omega)) hR
      · exact op_put (c_Xread_3 J hr hl g1 g2 g3 hy hll h3) (c_Mread_3 J hr hl g1 g2 g3 hy hll h3) hre2
    · exact op_put (c_Xread_2 J hr hl hy h2) (c_Mread_2 J hr hl hy h2) hre2
  · exact op_put (c_Xread_1 J hr hl h1) (c_Mread_1 J hr hl h1) hre2
