theorem st_of {x : Int32} {N : Nat} (hN : N ≤ 1000000) (h : (0 : Int32) ≤ x ∧ x ≤ nI N) : ∃ n, n ≤ N ∧ x = nI n := by
  obtain ⟨j, hj, rfl⟩ := nI_of (Int32.not_lt.mpr h.1)
  refine ⟨j, ?_, rfl⟩
  have := Int32.le_iff_toInt_le.mp h.2
  rw [nI_toInt hj, nI_toInt (by omega)] at this
  omega
theorem GE_traj {I : MI} {b yn hn y : Nat} (h : LOk I b yn hn) (hy : y < yn) {sh : Int32} {s : Nat} {G G' : GT} (hg : GE (laN I b y) G G') : ∀ k, GE (laN I b y) (trajY I b y hn sh s k G) (trajY I b y hn sh s k G') := by
  intro k
  induction k with
  | zero => exact hg
  | succ k ih => exact GE_stepY h hy ih
set_option maxRecDepth 100000 in
theorem l_snow {I : MI} {b yn wn hn sn st : Nat} {r : MR} (J : MJ) (hr : RefOk r b) (h : RelL I b yn wn hn sn st) {y : Nat} (hy : y < yn) {sh : Int32} (hs : (-50 : Int32) ≤ sh ∧ sh ≤ 50) {G : GT} (hG : GB (laN I b y) st G) {s : Nat} (hs72 : s ≤ 73) : ∀ (k i : Nat), i + k = s → Wq MX7_snowBehind 16 [some (.ref 76), some (.ref 58), some (.int (nI y)), some (.int sh), some (.int (nI s)), some (.int (nI i))] [] (gPut I 77 (trajY I b y hn sh st i G)) r J (Rs ((trajY I b y hn sh st s G) 6) I 77 r J) := by
  have hb28 := (refs_L hr).2
  have h8 : yn ≤ 8 := h.1.2.2.1
  have hb := (refs_L hr).1
  have hy8 : y < 8 := by omega
  have hr3 : r 3 = b := hr.2.1
  have est := h.2.2.2.2.1.1
  have hst := h.2.2.2.2.1.2.2.1
  have e58 : ∀ F, gPut I 77 F 58 2 = nI st := fun F => by rw [gO77 (by decide) (by decide)]; exact est
  intro k
  induction k with
  | zero =>
    intro i hik
    refine x_iload (q := 18) dX7_snowBehind_16 rfl rfl ?_
    refine x_iload (q := 20) dX7_snowBehind_18 rfl rfl ?_
    refine x_icmp_ge (t := 57) (q := 23) dX7_snowBehind_20 (by decide) rfl (fun c20 => ?_) (fun c20 => absurd c20 (fun q => q (nI_le (by omega) (by omega))))
    refine x_aload_n (q := 58) dX7_snowBehind_57 rfl rfl ?_
    refine q_gr (K := 0) (b := 77) (q := 61) dX7_snowBehind_58 rfl cl_7 (by decide) tw_455 rfl rfl rfl ?_
    refine q_gi (K := 2) (q := 64) dX7_snowBehind_61 rfl cl_4 (by decide) tw_402 rfl rfl ?_
    refine q_iret dX7_snowBehind_64 rfl ?_
    rw [gPut_f _ _ _ _ (by decide), show i = s by omega]
    exact ⟨rfl, ⟨_, rfl⟩, rfl, rfl⟩
  | succ k ih =>
    intro i hik
    refine x_iload (q := 18) dX7_snowBehind_16 rfl rfl ?_
    refine x_iload (q := 20) dX7_snowBehind_18 rfl rfl ?_
    refine x_icmp_ge (t := 57) (q := 23) dX7_snowBehind_20 (by decide) rfl (fun c20 => absurd c20 (nI_ge (by omega) (by omega))) (fun c20 => ?_)
    refine x_aload_n (q := 24) dX7_snowBehind_23 rfl rfl ?_
    refine q_gr (K := 0) (b := 77) (q := 27) dX7_snowBehind_24 rfl cl_7 (by decide) tw_455 rfl rfl rfl ?_
    refine x_aload_n (q := 28) dX7_snowBehind_27 rfl rfl ?_
    refine q_gr (K := 0) (b := b) (q := 31) dX7_snowBehind_28 rfl cl_1 (by decide) tw_422 rfl rfl (by rw [← hr3]; rfl) ?_
    refine q_gr (K := 0) (b := (b + 1)) (q := 34) dX7_snowBehind_31 rfl cl_5 (by decide) tw_160 hb rfl (lr_w hb _).1 ?_
    refine x_iload_n (q := 35) dX7_snowBehind_34 rfl rfl ?_
    refine q_aald4 (b := (b + 10 + 2 * y)) (q := 36) dX7_snowBehind_35 rfl (ls_w hb).1 (vp_in_nI hy8 (by decide)) (by rw [nI_clamp (by omega)]; exact (ly_w hb hy8 _).1) ?_
    refine x_aload_n (q := 37) dX7_snowBehind_36 rfl rfl ?_
    refine q_gr (K := 0) (b := b) (q := 40) dX7_snowBehind_37 rfl cl_1 (by decide) tw_422 rfl rfl (by rw [← hr3]; rfl) ?_
    refine x_aload_n (q := 41) dX7_snowBehind_40 rfl rfl ?_
    refine q_gi (K := 2) (q := 44) dX7_snowBehind_41 rfl cl_1 (by decide) tw_430 rfl rfl ?_
    refine x_iload (q := 46) dX7_snowBehind_44 rfl rfl ?_
    refine x_iadd (q := 47) dX7_snowBehind_46 rfl ?_
    rw [e58, nI_add]
    refine x_iload_n (q := 48) dX7_snowBehind_47 rfl rfl ?_
    refine q_callV (ci := 4) (N := 5) (T := TX4) (As := [.ref (b + 10 + 2 * y), .ref b, .int (nI (st + i)), .int sh]) (rest := []) (q := 51) dX7_snowBehind_48 rfl okX4_goStep tw_856 rfl rfl (c_stepY (s := st + i) (n := st + i) rfl h.1 hy (shOk_iff.mpr hs) (by omega) (by omega) (G := (trajY I b y hn sh st i G)) (GB_traj h.1 hy (shOk_iff.mpr hs) st hG i (by omega)) r J) rfl rfl (Nat.le_of_ble_eq_true rfl) ⟨by decide, by decide⟩ ⟨rfl, rfl⟩ (fun rv_ I_ r_ J_ hv_ => ?_)
    obtain ⟨a1_, a2_, a3_, a4_⟩ := hv_
    rw [a1_, a2_, a3_, a4_]
    show Wq MX7_snowBehind 51 [some (.ref 76), some (.ref 58), some (.int (nI y)), some (.int sh), some (.int (nI s)), some (.int (nI i))] [] (gPut I 77 (trajY I b y hn sh st (i + 1) G)) r J _
    obtain ⟨v1, ev1⟩ : ∃ y : Int32, y = (nI i) + 1 := ⟨_, rfl⟩
    refine x_iinc (v := v1) (L2 := [some (.ref 76), some (.ref 58), some (.int (nI y)), some (.int sh), some (.int (nI s)), some (.int v1)]) (q := 54) dX7_snowBehind_51 rfl (by decide) rfl rfl (by rw [ev1]; rfl) rfl ?_
    refine x_goto (t := 16) dX7_snowBehind_54 (by decide) ?_
    rw [show v1 = nI (i + 1) by rw [ev1, nI_p1]]
    exact ih (i + 1) (by omega)
theorem GB_copy {la n : Nat} {G F : GT} (h5 : la ≤ 5) (h : GB la n G) : GB la n (copyG G F) := by
  obtain ⟨hW, a5, a6, a7, as, a8, a8'⟩ := h
  refine ⟨fun j hj => ?_, a5, a6, a7, as, a8, a8'⟩
  have : j < 9 := by omega
  simp only [copyG, this, if_true]
  exact hW j hj
set_option maxRecDepth 100000 in
theorem c_snow {I : MI} {b yn wn hn sn st : Nat} {r : MR} (J : MJ) (hr : RefOk r b) (h : RelL I b yn wn hn sn st) {y : Nat} (hy : y < yn) {sh : Int32} (hs : (-50 : Int32) ≤ sh ∧ sh ≤ 50) {s : Nat} (hs72 : s ≤ 73) : Cq yX7_snowBehind MX7_snowBehind [.ref 76, .ref 58, .int (nI y), .int sh, .int (nI s)] I r J (Rs (trajY I b y hn sh st s (yGet I y) 6) I 77 r J) := by
  have hb28 := (refs_L hr).2
  have h8 : yn ≤ 8 := h.1.2.2.1
  have hb := (refs_L hr).1
  have hy8 : y < 8 := by omega
  have hr3 : r 3 = b := hr.2.1
  have est := h.2.2.2.2.1.1
  have hst := h.2.2.2.2.1.2.2.1
  refine cq_of [some (.ref 76), some (.ref 58), some (.int (nI y)), some (.int sh), some (.int (nI s)), none] 1 (by decide +kernel) rfl rfl (Nat.le_of_ble_eq_true rfl) rfl ?_
  refine x_aload_n (q := 1) dX7_snowBehind_0 rfl rfl ?_
  refine q_gr (K := 0) (b := 77) (q := 4) dX7_snowBehind_1 rfl cl_7 (by decide) tw_455 rfl rfl rfl ?_
  refine x_aload_n (q := 5) dX7_snowBehind_4 rfl rfl ?_
  refine q_gr (K := 1) (b := 59) (q := 8) dX7_snowBehind_5 rfl cl_1 (by decide) tw_427 rfl rfl rfl ?_
  refine x_iload_n (q := 9) dX7_snowBehind_8 rfl rfl ?_
  refine q_aald5 (b := (60 + 2 * y)) (q := 10) dX7_snowBehind_9 rfl rfl (vp_in_nI hy8 (by decide)) (by rw [nI_clamp (by omega)]; exact (gy_w hy8 _).1) ?_
  refine q_callV (ci := 4) (N := 5) (T := TX4) (As := [.ref (60 + 2 * y)]) (rest := []) (q := 13) dX7_snowBehind_10 rfl okX4_copy tw_852 rfl rfl (by have k := c_copy (g := 77) rfl (gy_w hy8 r).2 (by omega) (by omega) I (gGet I 77) r J; rw [gPut_get] at k; exact k) rfl rfl (Nat.le_of_ble_eq_true rfl) ⟨by decide, by decide⟩ ⟨rfl, rfl⟩ (fun rv_ I_ r_ J_ hv_ => ?_)
  obtain ⟨a1_, a2_, a3_, a4_⟩ := hv_
  rw [a1_, a2_, a3_, a4_]
  show Wq MX7_snowBehind 13 [some (.ref 76), some (.ref 58), some (.int (nI y)), some (.int sh), some (.int (nI s)), none] [] (gPut I 77 (copyG (gGet I (60 + 2 * y)) (gGet I 77))) r J _
  refine x_iconst (0) (q := 14) dX7_snowBehind_13 rfl (by decide) ?_
  refine x_istore (L2 := [some (.ref 76), some (.ref 58), some (.int (nI y)), some (.int sh), some (.int (nI s)), some (.int 0)]) (q := 16) dX7_snowBehind_14 rfl (by decide) rfl rfl ?_
  have k9 := l_snow J hr h hy hs (GB_copy (F := gGet I 77) (la5 h.1 hy).2 (day_GC h hy).1.1) hs72 s 0 (by omega)
  have e9 : trajY I b y hn sh st s (copyG (gGet I (60 + 2 * y)) (gGet I 77)) 6 = (trajY I b y hn sh st s (yGet I y) 6) := by
    rw [(GE_traj h.1 hy (GE_copy (la5 h.1 hy).2) s).2 6 (by decide) (by decide), (GE_traj h.1 hy (day_GC h hy).2.2 s).2 6 (by decide) (by decide)]
  rw [e9] at k9
  exact k9
set_option maxRecDepth 100000 in
theorem l_Mdeep {I : MI} {b yn wn hn sn st : Nat} {r : MR} (J : MJ) (hr : RefOk r b) (h : RelL I b yn wn hn sn st) {y : Nat} (hy : y < yn) {sh : Int32} (hs : (-50 : Int32) ≤ sh ∧ sh ≤ 50) {G : GT} (hG : GB (laN I b y) st G) {s : Nat} (hs72 : s ≤ 73) : ∀ (k i : Nat), i + k = s → Wq MX12_deep 35 [some (.ref 100), some (.int (nI y)), some (.int sh), some (.int (nI s)), some (.int (nI i))] [] (mPut I (trajY I b y hn sh st i G)) r J (Rm ((trajY I b y hn sh st s G) 6) I r J) := by
  have hb28 := (refs_L hr).2
  have h8 : yn ≤ 8 := h.1.2.2.1
  have hb := (refs_L hr).1
  have hy8 : y < 8 := by omega
  have hr3 : r 3 = b := hr.2.1
  have est := h.2.2.2.2.1.1
  have hst := h.2.2.2.2.1.2.2.1
  have e55 : ∀ F, mPut I F 100 55 = nI st := fun F => by rw [mPut_h _ _ _ (by decide)]; exact h.2.2.2.2.1.2.1
  intro k
  induction k with
  | zero =>
    intro i hik
    refine x_iload (q := 37) dX12_deep_35 rfl rfl ?_
    refine x_iload_n (q := 38) dX12_deep_37 rfl rfl ?_
    refine x_icmp_ge (t := 60) (q := 41) dX12_deep_38 (by decide) rfl (fun c38 => ?_) (fun c38 => absurd c38 (fun q => q (nI_le (by omega) (by omega))))
    refine x_aload_n (q := 61) dX12_deep_60 rfl rfl ?_
    refine q_gi (K := 50) (q := 64) dX12_deep_61 rfl cl_12 (by decide) tw_1132 rfl rfl ?_
    refine q_iret dX12_deep_64 rfl ?_
    rw [mPut_50, show i = s by omega]
    exact ⟨rfl, ⟨_, rfl⟩, rfl, rfl⟩
  | succ k ih =>
    intro i hik
    refine x_iload (q := 37) dX12_deep_35 rfl rfl ?_
    refine x_iload_n (q := 38) dX12_deep_37 rfl rfl ?_
    refine x_icmp_ge (t := 60) (q := 41) dX12_deep_38 (by decide) rfl (fun c38 => absurd c38 (nI_ge (by omega) (by omega))) (fun c38 => ?_)
    refine x_aload_n (q := 42) dX12_deep_41 rfl rfl ?_
    refine x_iload_n (q := 43) dX12_deep_42 rfl rfl ?_
    refine x_aload_n (q := 44) dX12_deep_43 rfl rfl ?_
    refine q_gi (K := 55) (q := 47) dX12_deep_44 rfl cl_12 (by decide) tw_1137 rfl rfl ?_
    refine x_iload (q := 49) dX12_deep_47 rfl rfl ?_
    refine x_iadd (q := 50) dX12_deep_49 rfl ?_
    rw [e55, nI_add]
    refine x_iload_n (q := 51) dX12_deep_50 rfl rfl ?_
    refine q_callV (ci := 12) (N := 79) (T := TX12) (As := [.int (nI y), .int (nI (st + i)), .int sh]) (rest := []) (q := 54) dX12_deep_51 rfl okX12_goOn tw_1457 rfl rfl (c_mstep (s := st + i) (n := st + i) h.1 h.2.2.1 hy (shOk_iff.mpr hs) (by omega) (by omega) (G := (trajY I b y hn sh st i G)) (GB_traj h.1 hy (shOk_iff.mpr hs) st hG i (by omega)) r J) rfl rfl (Nat.le_of_ble_eq_true rfl) ⟨by decide, by decide⟩ ⟨rfl, rfl⟩ (fun rv_ I_ r_ J_ hv_ => ?_)
    obtain ⟨a1_, a2_, a3_, a4_⟩ := hv_
    rw [a1_, a2_, a3_, a4_]
    show Wq MX12_deep 54 [some (.ref 100), some (.int (nI y)), some (.int sh), some (.int (nI s)), some (.int (nI i))] [] (mPut I (trajY I b y hn sh st (i + 1) G)) r J _
    obtain ⟨v1, ev1⟩ : ∃ y : Int32, y = (nI i) + 1 := ⟨_, rfl⟩
    refine x_iinc (v := v1) (L2 := [some (.ref 100), some (.int (nI y)), some (.int sh), some (.int (nI s)), some (.int v1)]) (q := 57) dX12_deep_54 rfl (by decide) rfl rfl (by rw [ev1]; rfl) rfl ?_
    refine x_goto (t := 35) dX12_deep_57 (by decide) ?_
    rw [show v1 = nI (i + 1) by rw [ev1, nI_p1]]
    exact ih (i + 1) (by omega)
set_option maxRecDepth 100000 in
theorem c_Xdeep_g {I : MI} {b yn wn hn sn st : Nat} {r : MR} (J : MJ) (hr : RefOk r b) (h : RelL I b yn wn hn sn st) {y : Nat} (hy : y < yn) {sh : Int32} (hs : (-50 : Int32) ≤ sh ∧ sh ≤ 50) {s : Nat} (hs72 : s ≤ 72) : Cq yX11_deep MX11_deep [.ref 0, .int (nI y), .int sh, .int (nI s)] I r J (Rs (trajY I b y hn sh st s (yGet I y) 6) I 77 r J) := by
  have hb0 : SH (r 0) = (15, 18) := by rw [hr.1]; exact (refs_L hr).1
  have h8 : yn ≤ 8 := h.1.2.2.1
  have ey : I (r 0) 1 = nI yn := by rw [hr.1]; exact h.1.2.1
  have em : I 100 41 = nI yn := h.2.2.1.1
  refine cq_of [some (.ref 0), some (.int (nI y)), some (.int sh), some (.int (nI s))] 0 (by decide +kernel) rfl rfl (Nat.le_of_ble_eq_true rfl) rfl ?_
  refine x_aload_n (q := 1) dX11_deep_0 rfl rfl ?_
  refine x_iload_n (q := 2) dX11_deep_1 rfl rfl ?_
  refine q_callV (ci := 11) (N := 14) (T := TX11) (As := [.int (nI y)]) (rest := []) (q := 5) dX11_deep_2 rfl okX11_isYard tw_811 rfl rfl (c_isYard_g I r J hb0 ey h8 hy) rfl rfl (Nat.le_of_ble_eq_true rfl) ⟨by decide, by decide⟩ ⟨rfl, rfl⟩ (fun rv_ I_ r_ J_ hv_ => ?_)
  obtain ⟨a1_, a2_, a3_, a4_⟩ := hv_
  rw [a1_, a2_, a3_, a4_]
  show Wq MX11_deep 5 [some (.ref 0), some (.int (nI y)), some (.int sh), some (.int (nI s))] [.int 1] I r J _
  refine x_if_eq (t := 25) (q := 8) dX11_deep_5 (by decide) rfl (fun c5 => absurd c5 ((by decide))) (fun c5 => ?_)
  refine x_iload_n (q := 9) dX11_deep_8 rfl rfl ?_
  refine q_callS (As := [.int sh]) (rest := []) (q := 12) dX11_deep_9 rfl okX11_isShift tw_803 (c_isShift_g I r J hs.1 hs.2) rfl rfl (Nat.le_of_ble_eq_true rfl) ⟨by decide, by decide⟩ ⟨rfl, rfl⟩ (fun rv_ I_ r_ J_ hv_ => ?_)
  obtain ⟨a1_, a2_, a3_, a4_⟩ := hv_
  rw [a1_, a2_, a3_, a4_]
  show Wq MX11_deep 12 [some (.ref 0), some (.int (nI y)), some (.int sh), some (.int (nI s))] [.int 1] I r J _
  refine x_if_eq (t := 25) (q := 15) dX11_deep_12 (by decide) rfl (fun c12 => absurd c12 ((by decide))) (fun c12 => ?_)
  refine x_iload_n (q := 16) dX11_deep_15 rfl rfl ?_
  refine x_if_lt (t := 25) (q := 19) dX11_deep_16 (by decide) rfl (fun c16 => absurd c16 (nI_pos (by omega))) (fun c16 => ?_)
  refine x_iload_n (q := 20) dX11_deep_19 rfl rfl ?_
  refine x_bipush (72) (q := 22) dX11_deep_20 rfl (by decide) ?_
  refine x_icmp_le (t := 27) (q := 25) dX11_deep_22 (by decide) rfl (fun c22 => ?_) (fun c22 => absurd c22 (fun q => q (nI_le (b := 72) (by omega) (by omega))))
  refine x_aload_n (q := 28) dX11_deep_27 rfl rfl ?_
  refine q_gr (K := 6) (b := 76) (q := 31) dX11_deep_28 rfl cl_11 (by decide) tw_573 rfl rfl rfl ?_
  refine x_aload_n (q := 32) dX11_deep_31 rfl rfl ?_
  refine q_gr (K := 5) (b := 58) (q := 35) dX11_deep_32 rfl cl_11 (by decide) tw_572 rfl rfl rfl ?_
  refine x_iload_n (q := 36) dX11_deep_35 rfl rfl ?_
  refine x_iload_n (q := 37) dX11_deep_36 rfl rfl ?_
  refine x_iload_n (q := 38) dX11_deep_37 rfl rfl ?_
  refine q_callV (ci := 7) (N := 1) (T := TX7) (As := [.ref 58, .int (nI y), .int sh, .int (nI s)]) (rest := []) (q := 41) dX11_deep_38 rfl okX7_snowBehind tw_862 rfl rfl (c_snow J hr h hy hs (s := s) (by omega)) rfl rfl (Nat.le_of_ble_eq_true rfl) ⟨by decide, by decide⟩ ⟨rfl, rfl⟩ (fun rv_ I_ r_ J_ hv_ => ?_)
  obtain ⟨a1_, ⟨Gx, a2_⟩, a3_, a4_⟩ := hv_
  rw [a1_, a2_, a3_, a4_]
  show Wq MX11_deep 41 [some (.ref 0), some (.int (nI y)), some (.int sh), some (.int (nI s))] [.int (trajY I b y hn sh st s (yGet I y) 6)] (gPut I 77 Gx) r J _
  refine q_iret dX11_deep_41 rfl ?_
  exact ⟨rfl, ⟨_, rfl⟩, rfl, rfl⟩
set_option maxRecDepth 100000 in
theorem c_Mdeep_g {I : MI} {b yn wn hn sn st : Nat} {r : MR} (J : MJ) (hr : RefOk r b) (h : RelL I b yn wn hn sn st) {y : Nat} (hy : y < yn) {sh : Int32} (hs : (-50 : Int32) ≤ sh ∧ sh ≤ 50) {s : Nat} (hs72 : s ≤ 72) : Cq yX12_deep MX12_deep [.ref 100, .int (nI y), .int sh, .int (nI s)] I r J (Rm (trajY I b y hn sh st s (yGet I y) 6) I r J) := by
  have hb0 : SH (r 0) = (15, 18) := by rw [hr.1]; exact (refs_L hr).1
  have h8 : yn ≤ 8 := h.1.2.2.1
  have ey : I (r 0) 1 = nI yn := by rw [hr.1]; exact h.1.2.1
  have em : I 100 41 = nI yn := h.2.2.1.1
  refine cq_of [some (.ref 100), some (.int (nI y)), some (.int sh), some (.int (nI s)), none] 1 (by decide +kernel) rfl rfl (Nat.le_of_ble_eq_true rfl) rfl ?_
  refine x_aload_n (q := 1) dX12_deep_0 rfl rfl ?_
  refine x_iload_n (q := 2) dX12_deep_1 rfl rfl ?_
  refine q_callV (ci := 12) (N := 79) (T := TX12) (As := [.int (nI y)]) (rest := []) (q := 5) dX12_deep_2 rfl okX12_isYard tw_1485 rfl rfl (c_mYard_g I r J em h8 hy) rfl rfl (Nat.le_of_ble_eq_true rfl) ⟨by decide, by decide⟩ ⟨rfl, rfl⟩ (fun rv_ I_ r_ J_ hv_ => ?_)
  obtain ⟨a1_, a2_, a3_, a4_⟩ := hv_
  rw [a1_, a2_, a3_, a4_]
  show Wq MX12_deep 5 [some (.ref 100), some (.int (nI y)), some (.int sh), some (.int (nI s)), none] [.int 1] I r J _
  refine x_if_eq (t := 25) (q := 8) dX12_deep_5 (by decide) rfl (fun c5 => absurd c5 ((by decide))) (fun c5 => ?_)
  refine x_iload_n (q := 9) dX12_deep_8 rfl rfl ?_
  refine q_callS (As := [.int sh]) (rest := []) (q := 12) dX12_deep_9 rfl okX12_isShift tw_1509 (c_mShift_g I r J hs.1 hs.2) rfl rfl (Nat.le_of_ble_eq_true rfl) ⟨by decide, by decide⟩ ⟨rfl, rfl⟩ (fun rv_ I_ r_ J_ hv_ => ?_)
  obtain ⟨a1_, a2_, a3_, a4_⟩ := hv_
  rw [a1_, a2_, a3_, a4_]
  show Wq MX12_deep 12 [some (.ref 100), some (.int (nI y)), some (.int sh), some (.int (nI s)), none] [.int 1] I r J _
  refine x_if_eq (t := 25) (q := 15) dX12_deep_12 (by decide) rfl (fun c12 => absurd c12 ((by decide))) (fun c12 => ?_)
  refine x_iload_n (q := 16) dX12_deep_15 rfl rfl ?_
  refine x_iconst (0) (q := 17) dX12_deep_16 rfl (by decide) ?_
  refine x_bipush (72) (q := 19) dX12_deep_17 rfl (by decide) ?_
  refine q_callS (As := [.int (nI s), .int 0, .int 72]) (rest := []) (q := 22) dX12_deep_19 rfl okX12_isIn tw_1450 (c_isIn_g I r J (nI_pos' (by omega)) (nI_le (b := 72) (by omega) (by omega))) rfl rfl (Nat.le_of_ble_eq_true rfl) ⟨by decide, by decide⟩ ⟨rfl, rfl⟩ (fun rv_ I_ r_ J_ hv_ => ?_)
  obtain ⟨a1_, a2_, a3_, a4_⟩ := hv_
  rw [a1_, a2_, a3_, a4_]
  show Wq MX12_deep 22 [some (.ref 100), some (.int (nI y)), some (.int sh), some (.int (nI s)), none] [.int 1] I r J _
  refine x_if_ne (t := 27) (q := 25) dX12_deep_22 (by decide) rfl (fun c22 => ?_) (fun c22 => absurd c22 ((by decide)))
  refine x_aload_n (q := 28) dX12_deep_27 rfl rfl ?_
  refine x_iload_n (q := 29) dX12_deep_28 rfl rfl ?_
  refine q_callV (ci := 12) (N := 79) (T := TX12) (As := [.int (nI y)]) (rest := []) (q := 32) dX12_deep_29 rfl okX12_bring tw_1453 rfl rfl (by have k := c_bring y (by omega) I (mGet I) r J; rw [mPut_get] at k; exact k) rfl rfl (Nat.le_of_ble_eq_true rfl) ⟨by decide, by decide⟩ ⟨rfl, rfl⟩ (fun rv_ I_ r_ J_ hv_ => ?_)
  obtain ⟨a1_, a2_, a3_, a4_⟩ := hv_
  rw [a1_, a2_, a3_, a4_]
  show Wq MX12_deep 32 [some (.ref 100), some (.int (nI y)), some (.int sh), some (.int (nI s)), none] [] (mPut I (yGet I y)) r J _
  refine x_iconst (0) (q := 33) dX12_deep_32 rfl (by decide) ?_
  refine x_istore (L2 := [some (.ref 100), some (.int (nI y)), some (.int sh), some (.int (nI s)), some (.int 0)]) (q := 35) dX12_deep_33 rfl (by decide) rfl rfl ?_
  exact l_Mdeep J hr h hy hs (day_GC h hy).2.1.1 (s := s) (by omega) s 0 (by omega)
set_option maxRecDepth 100000 in
theorem c_Xdeep_1 {I : MI} {b yn wn hn sn st : Nat} {r : MR} (J : MJ) (hr : RefOk r b) (h : RelL I b yn wn hn sn st) {x sh z : Int32} (hno : ¬ ∃ k, k < yn ∧ x = nI k) : Cq yX11_deep MX11_deep [.ref 0, .int x, .int sh, .int z] I r J (Rs (-1) I 77 r J) := by
  have hb0 : SH (r 0) = (15, 18) := by rw [hr.1]; exact (refs_L hr).1
  have h8 : yn ≤ 8 := h.1.2.2.1
  have ey : I (r 0) 1 = nI yn := by rw [hr.1]; exact h.1.2.1
  have em : I 100 41 = nI yn := h.2.2.1.1
  refine cq_of [some (.ref 0), some (.int x), some (.int sh), some (.int z)] 0 (by decide +kernel) rfl rfl (Nat.le_of_ble_eq_true rfl) rfl ?_
  refine x_aload_n (q := 1) dX11_deep_0 rfl rfl ?_
  refine x_iload_n (q := 2) dX11_deep_1 rfl rfl ?_
  refine q_callV (ci := 11) (N := 14) (T := TX11) (As := [.int x]) (rest := []) (q := 5) dX11_deep_2 rfl okX11_isYard tw_811 rfl rfl (c_isYard_b I r J hb0 ey h8 hno) rfl rfl (Nat.le_of_ble_eq_true rfl) ⟨by decide, by decide⟩ ⟨rfl, rfl⟩ (fun rv_ I_ r_ J_ hv_ => ?_)
  obtain ⟨a1_, a2_, a3_, a4_⟩ := hv_
  rw [a1_, a2_, a3_, a4_]
  show Wq MX11_deep 5 [some (.ref 0), some (.int x), some (.int sh), some (.int z)] [.int 0] I r J _
  refine x_if_eq (t := 25) (q := 8) dX11_deep_5 (by decide) rfl (fun c5 => ?_) (fun c5 => absurd c5 ((by decide)))
  refine x_iconst (-1) (q := 26) dX11_deep_25 rfl (by decide) ?_
  refine q_iret dX11_deep_26 rfl ?_
  exact Rs_same
set_option maxRecDepth 100000 in
theorem c_Mdeep_1 {I : MI} {b yn wn hn sn st : Nat} {r : MR} (J : MJ) (hr : RefOk r b) (h : RelL I b yn wn hn sn st) {x sh z : Int32} (hno : ¬ ∃ k, k < yn ∧ x = nI k) : Cq yX12_deep MX12_deep [.ref 100, .int x, .int sh, .int z] I r J (Rm (-1) I r J) := by
  have hb0 : SH (r 0) = (15, 18) := by rw [hr.1]; exact (refs_L hr).1
  have h8 : yn ≤ 8 := h.1.2.2.1
  have ey : I (r 0) 1 = nI yn := by rw [hr.1]; exact h.1.2.1
  have em : I 100 41 = nI yn := h.2.2.1.1
  refine cq_of [some (.ref 100), some (.int x), some (.int sh), some (.int z), none] 1 (by decide +kernel) rfl rfl (Nat.le_of_ble_eq_true rfl) rfl ?_
  refine x_aload_n (q := 1) dX12_deep_0 rfl rfl ?_
  refine x_iload_n (q := 2) dX12_deep_1 rfl rfl ?_
  refine q_callV (ci := 12) (N := 79) (T := TX12) (As := [.int x]) (rest := []) (q := 5) dX12_deep_2 rfl okX12_isYard tw_1485 rfl rfl (c_mYard_b I r J em h8 hno) rfl rfl (Nat.le_of_ble_eq_true rfl) ⟨by decide, by decide⟩ ⟨rfl, rfl⟩ (fun rv_ I_ r_ J_ hv_ => ?_)
  obtain ⟨a1_, a2_, a3_, a4_⟩ := hv_
  rw [a1_, a2_, a3_, a4_]
  show Wq MX12_deep 5 [some (.ref 100), some (.int x), some (.int sh), some (.int z), none] [.int 0] I r J _
  refine x_if_eq (t := 25) (q := 8) dX12_deep_5 (by decide) rfl (fun c5 => ?_) (fun c5 => absurd c5 ((by decide)))
  refine x_iconst (-1) (q := 26) dX12_deep_25 rfl (by decide) ?_
  refine q_iret dX12_deep_26 rfl ?_
  exact Rm_same
set_option maxRecDepth 100000 in
theorem c_Xdeep_2 {I : MI} {b yn wn hn sn st : Nat} {r : MR} (J : MJ) (hr : RefOk r b) (h : RelL I b yn wn hn sn st) {y : Nat} (hy : y < yn) {sh z : Int32} (hno : ¬ ((-50 : Int32) ≤ sh ∧ sh ≤ 50)) : Cq yX11_deep MX11_deep [.ref 0, .int (nI y), .int sh, .int z] I r J (Rs (-1) I 77 r J) := by
  have hb0 : SH (r 0) = (15, 18) := by rw [hr.1]; exact (refs_L hr).1
  have h8 : yn ≤ 8 := h.1.2.2.1
  have ey : I (r 0) 1 = nI yn := by rw [hr.1]; exact h.1.2.1
  have em : I 100 41 = nI yn := h.2.2.1.1
  refine cq_of [some (.ref 0), some (.int (nI y)), some (.int sh), some (.int z)] 0 (by decide +kernel) rfl rfl (Nat.le_of_ble_eq_true rfl) rfl ?_
  refine x_aload_n (q := 1) dX11_deep_0 rfl rfl ?_
  refine x_iload_n (q := 2) dX11_deep_1 rfl rfl ?_
  refine q_callV (ci := 11) (N := 14) (T := TX11) (As := [.int (nI y)]) (rest := []) (q := 5) dX11_deep_2 rfl okX11_isYard tw_811 rfl rfl (c_isYard_g I r J hb0 ey h8 hy) rfl rfl (Nat.le_of_ble_eq_true rfl) ⟨by decide, by decide⟩ ⟨rfl, rfl⟩ (fun rv_ I_ r_ J_ hv_ => ?_)
  obtain ⟨a1_, a2_, a3_, a4_⟩ := hv_
  rw [a1_, a2_, a3_, a4_]
  show Wq MX11_deep 5 [some (.ref 0), some (.int (nI y)), some (.int sh), some (.int z)] [.int 1] I r J _
  refine x_if_eq (t := 25) (q := 8) dX11_deep_5 (by decide) rfl (fun c5 => absurd c5 ((by decide))) (fun c5 => ?_)
  refine x_iload_n (q := 9) dX11_deep_8 rfl rfl ?_
  refine q_callS (As := [.int sh]) (rest := []) (q := 12) dX11_deep_9 rfl okX11_isShift tw_803 (c_isShift_b I r J hno) rfl rfl (Nat.le_of_ble_eq_true rfl) ⟨by decide, by decide⟩ ⟨rfl, rfl⟩ (fun rv_ I_ r_ J_ hv_ => ?_)
  obtain ⟨a1_, a2_, a3_, a4_⟩ := hv_
  rw [a1_, a2_, a3_, a4_]
  show Wq MX11_deep 12 [some (.ref 0), some (.int (nI y)), some (.int sh), some (.int z)] [.int 0] I r J _
  refine x_if_eq (t := 25) (q := 15) dX11_deep_12 (by decide) rfl (fun c12 => ?_) (fun c12 => absurd c12 ((by decide)))
  refine x_iconst (-1) (q := 26) dX11_deep_25 rfl (by decide) ?_
  refine q_iret dX11_deep_26 rfl ?_
  exact Rs_same
set_option maxRecDepth 100000 in
theorem c_Mdeep_2 {I : MI} {b yn wn hn sn st : Nat} {r : MR} (J : MJ) (hr : RefOk r b) (h : RelL I b yn wn hn sn st) {y : Nat} (hy : y < yn) {sh z : Int32} (hno : ¬ ((-50 : Int32) ≤ sh ∧ sh ≤ 50)) : Cq yX12_deep MX12_deep [.ref 100, .int (nI y), .int sh, .int z] I r J (Rm (-1) I r J) := by
  have hb0 : SH (r 0) = (15, 18) := by rw [hr.1]; exact (refs_L hr).1
  have h8 : yn ≤ 8 := h.1.2.2.1
  have ey : I (r 0) 1 = nI yn := by rw [hr.1]; exact h.1.2.1
  have em : I 100 41 = nI yn := h.2.2.1.1
  refine cq_of [some (.ref 100), some (.int (nI y)), some (.int sh), some (.int z), none] 1 (by decide +kernel) rfl rfl (Nat.le_of_ble_eq_true rfl) rfl ?_
  refine x_aload_n (q := 1) dX12_deep_0 rfl rfl ?_
  refine x_iload_n (q := 2) dX12_deep_1 rfl rfl ?_
  refine q_callV (ci := 12) (N := 79) (T := TX12) (As := [.int (nI y)]) (rest := []) (q := 5) dX12_deep_2 rfl okX12_isYard tw_1485 rfl rfl (c_mYard_g I r J em h8 hy) rfl rfl (Nat.le_of_ble_eq_true rfl) ⟨by decide, by decide⟩ ⟨rfl, rfl⟩ (fun rv_ I_ r_ J_ hv_ => ?_)
  obtain ⟨a1_, a2_, a3_, a4_⟩ := hv_
  rw [a1_, a2_, a3_, a4_]
  show Wq MX12_deep 5 [some (.ref 100), some (.int (nI y)), some (.int sh), some (.int z), none] [.int 1] I r J _
  refine x_if_eq (t := 25) (q := 8) dX12_deep_5 (by decide) rfl (fun c5 => absurd c5 ((by decide))) (fun c5 => ?_)
  refine x_iload_n (q := 9) dX12_deep_8 rfl rfl ?_
  refine q_callS (As := [.int sh]) (rest := []) (q := 12) dX12_deep_9 rfl okX12_isShift tw_1509 (c_mShift_b I r J hno) rfl rfl (Nat.le_of_ble_eq_true rfl) ⟨by decide, by decide⟩ ⟨rfl, rfl⟩ (fun rv_ I_ r_ J_ hv_ => ?_)
  obtain ⟨a1_, a2_, a3_, a4_⟩ := hv_
  rw [a1_, a2_, a3_, a4_]
  show Wq MX12_deep 12 [some (.ref 100), some (.int (nI y)), some (.int sh), some (.int z), none] [.int 0] I r J _
  refine x_if_eq (t := 25) (q := 15) dX12_deep_12 (by decide) rfl (fun c12 => ?_) (fun c12 => absurd c12 ((by decide)))
  refine x_iconst (-1) (q := 26) dX12_deep_25 rfl (by decide) ?_
  refine q_iret dX12_deep_26 rfl ?_
  exact Rm_same
set_option maxRecDepth 100000 in
theorem c_Xdeep_3 {I : MI} {b yn wn hn sn st : Nat} {r : MR} (J : MJ) (hr : RefOk r b) (h : RelL I b yn wn hn sn st) {y : Nat} (hy : y < yn) {sh : Int32} (hs : (-50 : Int32) ≤ sh ∧ sh ≤ 50) {z : Int32} (hno : ¬ ((0 : Int32) ≤ z ∧ z ≤ 72)) : Cq yX11_deep MX11_deep [.ref 0, .int (nI y), .int sh, .int z] I r J (Rs (-1) I 77 r J) := by
  have hb0 : SH (r 0) = (15, 18) := by rw [hr.1]; exact (refs_L hr).1
  have h8 : yn ≤ 8 := h.1.2.2.1
  have ey : I (r 0) 1 = nI yn := by rw [hr.1]; exact h.1.2.1
  have em : I 100 41 = nI yn := h.2.2.1.1
  refine cq_of [some (.ref 0), some (.int (nI y)), some (.int sh), some (.int z)] 0 (by decide +kernel) rfl rfl (Nat.le_of_ble_eq_true rfl) rfl ?_
  refine x_aload_n (q := 1) dX11_deep_0 rfl rfl ?_
  refine x_iload_n (q := 2) dX11_deep_1 rfl rfl ?_
  refine q_callV (ci := 11) (N := 14) (T := TX11) (As := [.int (nI y)]) (rest := []) (q := 5) dX11_deep_2 rfl okX11_isYard tw_811 rfl rfl (c_isYard_g I r J hb0 ey h8 hy) rfl rfl (Nat.le_of_ble_eq_true rfl) ⟨by decide, by decide⟩ ⟨rfl, rfl⟩ (fun rv_ I_ r_ J_ hv_ => ?_)
  obtain ⟨a1_, a2_, a3_, a4_⟩ := hv_
  rw [a1_, a2_, a3_, a4_]
  show Wq MX11_deep 5 [some (.ref 0), some (.int (nI y)), some (.int sh), some (.int z)] [.int 1] I r J _
  refine x_if_eq (t := 25) (q := 8) dX11_deep_5 (by decide) rfl (fun c5 => absurd c5 ((by decide))) (fun c5 => ?_)
  refine x_iload_n (q := 9) dX11_deep_8 rfl rfl ?_
  refine q_callS (As := [.int sh]) (rest := []) (q := 12) dX11_deep_9 rfl okX11_isShift tw_803 (c_isShift_g I r J hs.1 hs.2) rfl rfl (Nat.le_of_ble_eq_true rfl) ⟨by decide, by decide⟩ ⟨rfl, rfl⟩ (fun rv_ I_ r_ J_ hv_ => ?_)
  obtain ⟨a1_, a2_, a3_, a4_⟩ := hv_
  rw [a1_, a2_, a3_, a4_]
  show Wq MX11_deep 12 [some (.ref 0), some (.int (nI y)), some (.int sh), some (.int z)] [.int 1] I r J _
  refine x_if_eq (t := 25) (q := 15) dX11_deep_12 (by decide) rfl (fun c12 => absurd c12 ((by decide))) (fun c12 => ?_)
  refine x_iload_n (q := 16) dX11_deep_15 rfl rfl ?_
  refine x_if_lt (t := 25) (q := 19) dX11_deep_16 (by decide) rfl (fun c16 => ?_) (fun c16 => ?_)
  · refine x_iconst (-1) (q := 26) dX11_deep_25 rfl (by decide) ?_
    refine q_iret dX11_deep_26 rfl ?_
    exact Rs_same
  · refine x_iload_n (q := 20) dX11_deep_19 rfl rfl ?_
    refine x_bipush (72) (q := 22) dX11_deep_20 rfl (by decide) ?_
    refine x_icmp_le (t := 27) (q := 25) dX11_deep_22 (by decide) rfl (fun c22 => ?_) (fun c22 => ?_)
    · exact absurd ⟨Int32.not_lt.mp c16, c22⟩ hno
    · refine x_iconst (-1) (q := 26) dX11_deep_25 rfl (by decide) ?_
      refine q_iret dX11_deep_26 rfl ?_
      exact Rs_same
set_option maxRecDepth 100000 in
theorem c_Mdeep_3 {I : MI} {b yn wn hn sn st : Nat} {r : MR} (J : MJ) (hr : RefOk r b) (h : RelL I b yn wn hn sn st) {y : Nat} (hy : y < yn) {sh : Int32} (hs : (-50 : Int32) ≤ sh ∧ sh ≤ 50) {z : Int32} (hno : ¬ ((0 : Int32) ≤ z ∧ z ≤ 72)) : Cq yX12_deep MX12_deep [.ref 100, .int (nI y), .int sh, .int z] I r J (Rm (-1) I r J) := by
  have hb0 : SH (r 0) = (15, 18) := by rw [hr.1]; exact (refs_L hr).1
  have h8 : yn ≤ 8 := h.1.2.2.1
  have ey : I (r 0) 1 = nI yn := by rw [hr.1]; exact h.1.2.1
  have em : I 100 41 = nI yn := h.2.2.1.1
  refine cq_of [some (.ref 100), some (.int (nI y)), some (.int sh), some (.int z), none] 1 (by decide +kernel) rfl rfl (Nat.le_of_ble_eq_true rfl) rfl ?_
  refine x_aload_n (q := 1) dX12_deep_0 rfl rfl ?_
  refine x_iload_n (q := 2) dX12_deep_1 rfl rfl ?_
  refine q_callV (ci := 12) (N := 79) (T := TX12) (As := [.int (nI y)]) (rest := []) (q := 5) dX12_deep_2 rfl okX12_isYard tw_1485 rfl rfl (c_mYard_g I r J em h8 hy) rfl rfl (Nat.le_of_ble_eq_true rfl) ⟨by decide, by decide⟩ ⟨rfl, rfl⟩ (fun rv_ I_ r_ J_ hv_ => ?_)
  obtain ⟨a1_, a2_, a3_, a4_⟩ := hv_
  rw [a1_, a2_, a3_, a4_]
  show Wq MX12_deep 5 [some (.ref 100), some (.int (nI y)), some (.int sh), some (.int z), none] [.int 1] I r J _
  refine x_if_eq (t := 25) (q := 8) dX12_deep_5 (by decide) rfl (fun c5 => absurd c5 ((by decide))) (fun c5 => ?_)
  refine x_iload_n (q := 9) dX12_deep_8 rfl rfl ?_
  refine q_callS (As := [.int sh]) (rest := []) (q := 12) dX12_deep_9 rfl okX12_isShift tw_1509 (c_mShift_g I r J hs.1 hs.2) rfl rfl (Nat.le_of_ble_eq_true rfl) ⟨by decide, by decide⟩ ⟨rfl, rfl⟩ (fun rv_ I_ r_ J_ hv_ => ?_)
  obtain ⟨a1_, a2_, a3_, a4_⟩ := hv_
  rw [a1_, a2_, a3_, a4_]
  show Wq MX12_deep 12 [some (.ref 100), some (.int (nI y)), some (.int sh), some (.int z), none] [.int 1] I r J _
  refine x_if_eq (t := 25) (q := 15) dX12_deep_12 (by decide) rfl (fun c12 => absurd c12 ((by decide))) (fun c12 => ?_)
  refine x_iload_n (q := 16) dX12_deep_15 rfl rfl ?_
  refine x_iconst (0) (q := 17) dX12_deep_16 rfl (by decide) ?_
  refine x_bipush (72) (q := 19) dX12_deep_17 rfl (by decide) ?_
  refine q_callS (As := [.int z, .int 0, .int 72]) (rest := []) (q := 22) dX12_deep_19 rfl okX12_isIn tw_1450 (c_isIn_b I r J hno) rfl rfl (Nat.le_of_ble_eq_true rfl) ⟨by decide, by decide⟩ ⟨rfl, rfl⟩ (fun rv_ I_ r_ J_ hv_ => ?_)
  obtain ⟨a1_, a2_, a3_, a4_⟩ := hv_
  rw [a1_, a2_, a3_, a4_]
  show Wq MX12_deep 22 [some (.ref 100), some (.int (nI y)), some (.int sh), some (.int z), none] [.int 0] I r J _
  refine x_if_ne (t := 27) (q := 25) dX12_deep_22 (by decide) rfl (fun c22 => absurd c22 ((by decide))) (fun c22 => ?_)
  refine x_iconst (-1) (q := 26) dX12_deep_25 rfl (by decide) ?_
  refine q_iret dX12_deep_26 rfl ?_
  exact Rm_same
theorem traj_eq77 {I : MI} {G : GT} {b hn st y : Nat} {sh : Int32} {s : Nat} (hb : b ≤ 28) (hy : y < 8) : trajY (gPut I 77 G) b y hn sh st s (yGet (gPut I 77 G) y) = trajY I b y hn sh st s (yGet I y) := by
  have e : yGet (gPut I 77 G) y = yGet I y := by
    unfold yGet
    rw [g77c (by decide) (by decide), g77c (by decide) (by decide)]
  rw [e, trajY_c (regL_77 hb) hy]
theorem op_deep (x sh z : Int32) : OpOk yX11_deep MX11_deep yX12_deep MX12_deep [.int x, .int sh, .int z] := by
  intro I r J hrel
  obtain ⟨b, yn, wn, hn, sn, st, hr, hl, hR, hJ⟩ := hrel
  have hb := (refs_L hr).2
  have h8 : yn ≤ 8 := hl.1.2.2.1
  by_cases h1 : ∃ k, k < yn ∧ x = nI k
  · obtain ⟨y, hy, rfl⟩ := h1
    by_cases h2 : (-50 : Int32) ≤ sh ∧ sh ≤ 50
    · by_cases h3 : (0 : Int32) ≤ z ∧ z ≤ 72
      · obtain ⟨s, hs, rfl⟩ := st_of (N := 72) (by decide) h3
        exact op_ask hr hl hR hJ (c_Xdeep_g J hr hl hy h2 hs) (fun G g1 g2 => by
          have k := c_Mdeep_g J hr g1 hy h2 hs
          rw [traj_eq77 hb (by omega)] at k
          exact k)
      · exact op_ask hr hl hR hJ (c_Xdeep_3 J hr hl hy h2 h3) (fun G g1 g2 => c_Mdeep_3 J hr g1 hy h2 h3)
    · exact op_ask hr hl hR hJ (c_Xdeep_2 J hr hl hy h2) (fun G g1 g2 => c_Mdeep_2 J hr g1 hy h2)
  · exact op_ask hr hl hR hJ (c_Xdeep_1 J hr hl h1) (fun G g1 g2 => c_Mdeep_1 J hr g1 h1)
