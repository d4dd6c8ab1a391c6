def xrN (I Y : MI) : Prop := Kr I Y ∧ Y 80 4 = 0
theorem Kr_80 {I : MI} {K : Nat} {x : Int32} : Kr I (upI I 80 K x) := fun c j _ _ _ q _ => by rw [upc q]
set_option maxRecDepth 100000 in
theorem c_forget (I : MI) (r : MR) (J : MJ) : Cq yX3_forget MX3_forget [.ref 80] I r J (Rt none (upI I 80 4 0) r J) := by
  refine cq_of [some (.ref 80)] 0 (by decide +kernel) rfl rfl (Nat.le_of_ble_eq_true rfl) rfl ?_
  refine x_aload_n (q := 1) dX3_forget_0 rfl rfl ?_
  refine x_iconst (0) (q := 2) dX3_forget_1 rfl (by decide) ?_
  refine q_pi (K := 4) (q := 5) dX3_forget_2 rfl cl_3 (by decide) tw_491 rfl rfl rfl rfl (fun I1 eI1 => ?_)
  refine q_vret dX3_forget_5 rfl ?_
  exact ⟨rfl, by rw [eI1], rfl, rfl⟩
theorem inF_y {x lo hi : Int32} (h : lo ≤ x ∧ x ≤ hi) : inF x lo hi = 1 := if_pos h
theorem fwV_80 {I : MI} {b hn st y : Nat} {sh much : Int32} {at0 K : Nat} {x : Int32} (hb : b ≤ 28) (hy : y < 8) : fwV (upI I 80 K x) b hn st y sh much at0 = fwV I b hn st y sh much at0 := fwV_r Kr_80 hb hy
theorem ws_c {D : Nat → Nat} {d yn n : Nat} {o : Nat → Nat} {W W' : Nat → Nat → Bool} (hW : ∀ y s, y < yn → W y s = W' y s) (ho : ∀ k, k < n → o k < yn) : ∀ i, i ≤ n → wsN D d o W i = wsN D d o W' i := by
  intro i
  induction i with
  | zero => intro _; rfl
  | succ i ih =>
    intro hi
    unfold wsN
    rw [ih (by omega), hW _ _ (ho i (by omega))]
theorem wn_c {D : Nat → Nat} {d yn n : Nat} {W W' : Nat → Nat → Bool} (hW : ∀ y s, y < yn → W y s = W' y s) : ∀ f o w mm bo, (∀ k, k < n → o k < yn) → rn D d W n f o w mm bo = rn D d W' n f o w mm bo := by
  intro f
  induction f with
  | zero => intro o w mm bo _; rfl
  | succ f ih =>
    intro o w mm bo ho
    unfold rn
    rw [ws_c hW ho n (Nat.le_refl _), ih _ _ _ _ (nxO_b ho)]
set_option maxRecDepth 100000 in
theorem c_Xrnd_g {I : MI} {b yn wn hn sn st : Nat} {r : MR} (J : MJ) (hr : RefOk r b) (h : RelL I b yn wn hn sn st) {N : Nat} (hN : N < 2 ^ yn) {d : Nat} (hd : d < yn) (hdp : I b 15 = nI d) {much w0 : Int32} (hm : (0 : Int32) ≤ much ∧ much ≤ 99) (hw0 : (0 : Int32) ≤ w0 ∧ w0 ≤ 1) (h7 : cnt N yn ≤ 7) (gd : gdP (fl3 yn (dz I) yn) d yn N) : Cq yX11_round MX11_round [.ref 0, .int (nI N), .int much, .int w0] I r J (Rp (some (.int (rdV w0 (rn (fl3 yn (dz I) yn) d (Wb I b hn st much) (cnt N yn) 5040 (OF N yn) (cnt N yn + 1) 0 (fun _ => 0))))) (fun Y => Kr I Y ∧ Y 80 4 = nI (cnt N yn) ∧ ((rn (fl3 yn (dz I) yn) d (Wb I b hn st much) (cnt N yn) 5040 (OF N yn) (cnt N yn + 1) 0 (fun _ => 0)).1 ≤ cnt N yn → ∀ k, k < cnt N yn → Y 84 k = nI ((rn (fl3 yn (dz I) yn) d (Wb I b hn st much) (cnt N yn) 5040 (OF N yn) (cnt N yn + 1) 0 (fun _ => 0)).2.2 k))) r J) := by
  have hb28 := (refs_L hr).2
  have h8 : yn ≤ 8 := h.1.2.2.1
  have h256 : N < 256 := by have := p8 h8; omega
  have hm2 : 0 ≤ much.toInt ∧ much.toInt ≤ 99 := by
    have q1 := Int32.le_iff_toInt_le.mp hm.1
    have q2 := Int32.le_iff_toInt_le.mp hm.2
    exact ⟨q1, q2⟩
  have hZ : Kr I (upI I 80 4 0) := Kr_80
  have hRZ := RelL_r hZ (refs_L hr).2 h
  have hdZ : (upI I 80 4 0) b 15 = nI d := by rw [hZ.L hb28 b ⟨by omega, by omega⟩]; exact hdp
  have ez : dz (upI I 80 4 0) = dz I := by
    funext j
    unfold dz
    rw [upc (by decide)]
  refine cq_of [some (.ref 0), some (.int (nI N)), some (.int much), some (.int w0)] 0 (by decide +kernel) rfl rfl (Nat.le_of_ble_eq_true rfl) rfl ?_
  refine x_aload_n (q := 1) dX11_round_0 rfl rfl ?_
  refine q_gr (K := 8) (b := 80) (q := 4) dX11_round_1 rfl cl_11 (by decide) tw_575 rfl rfl rfl ?_
  refine q_callV (ci := 3) (N := 7) (T := TX3) (As := []) (rest := []) (q := 7) dX11_round_4 rfl okX3_forget tw_753 rfl rfl (c_forget I r J) rfl rfl (Nat.le_of_ble_eq_true rfl) ⟨by decide, by decide⟩ ⟨rfl, rfl⟩ (fun rv_ I_ r_ J_ hv_ => ?_)
  obtain ⟨a1_, a2_, a3_, a4_⟩ := hv_
  rw [a1_, a2_, a3_, a4_]
  show Wq MX11_round 7 [some (.ref 0), some (.int (nI N)), some (.int much), some (.int w0)] [] (upI I 80 4 0) r J _
  refine x_aload_n (q := 8) dX11_round_7 rfl rfl ?_
  refine x_iload_n (q := 9) dX11_round_8 rfl rfl ?_
  refine q_callV (ci := 11) (N := 14) (T := TX11) (As := [.int (nI N)]) (rest := []) (q := 12) dX11_round_9 rfl okX11_isSet tw_901 rfl rfl (c_isSet_g J hr hRZ hN) rfl rfl (Nat.le_of_ble_eq_true rfl) ⟨by decide, by decide⟩ ⟨rfl, rfl⟩ (fun rv_ I_ r_ J_ hv_ => ?_)
  obtain ⟨a1_, a2_, a3_, a4_⟩ := hv_
  rw [a1_, a2_, a3_, a4_]
  show Wq MX11_round 12 [some (.ref 0), some (.int (nI N)), some (.int much), some (.int w0)] [.int 1] (upI I 80 4 0) r J _
  refine x_if_eq (t := 31) (q := 15) dX11_round_12 (by decide) rfl (fun c12 => absurd c12 ((by decide))) (fun c12 => ?_)
  refine x_iload_n (q := 16) dX11_round_15 rfl rfl ?_
  refine q_callS (As := [.int much]) (rest := []) (q := 19) dX11_round_16 rfl okX11_isSalt tw_874 (by have q := c_isSalt much (upI I 80 4 0) r J; rw [inF_y hm] at q; exact q) rfl rfl (Nat.le_of_ble_eq_true rfl) ⟨by decide, by decide⟩ ⟨rfl, rfl⟩ (fun rv_ I_ r_ J_ hv_ => ?_)
  obtain ⟨a1_, a2_, a3_, a4_⟩ := hv_
  rw [a1_, a2_, a3_, a4_]
  show Wq MX11_round 19 [some (.ref 0), some (.int (nI N)), some (.int much), some (.int w0)] [.int 1] (upI I 80 4 0) r J _
  refine x_if_eq (t := 31) (q := 22) dX11_round_19 (by decide) rfl (fun c19 => absurd c19 ((by decide))) (fun c19 => ?_)
  refine x_iload_n (q := 23) dX11_round_22 rfl rfl ?_
  refine x_if_lt (t := 31) (q := 26) dX11_round_23 (by decide) rfl (fun c23 => absurd c23 (Int32.not_lt.mpr hw0.1)) (fun c23 => ?_)
  refine x_iload_n (q := 27) dX11_round_26 rfl rfl ?_
  refine x_iconst (1) (q := 28) dX11_round_27 rfl (by decide) ?_
  refine x_icmp_le (t := 33) (q := 31) dX11_round_28 (by decide) rfl (fun c28 => ?_) (fun c28 => absurd c28 (fun q => q hw0.2))
  refine x_aload_n (q := 34) dX11_round_33 rfl rfl ?_
  refine q_gr (K := 8) (b := 80) (q := 37) dX11_round_34 rfl cl_11 (by decide) tw_575 rfl rfl rfl ?_
  refine x_aload_n (q := 38) dX11_round_37 rfl rfl ?_
  refine q_gr (K := 5) (b := 58) (q := 41) dX11_round_38 rfl cl_11 (by decide) tw_572 rfl rfl rfl ?_
  refine x_aload_n (q := 42) dX11_round_41 rfl rfl ?_
  refine q_gr (K := 6) (b := 76) (q := 45) dX11_round_42 rfl cl_11 (by decide) tw_573 rfl rfl rfl ?_
  refine x_iload_n (q := 46) dX11_round_45 rfl rfl ?_
  refine x_iload_n (q := 47) dX11_round_46 rfl rfl ?_
  refine q_callV (ci := 3) (N := 7) (T := TX3) (As := [.ref 58, .ref 76, .int (nI N), .int much]) (rest := []) (q := 50) dX11_round_47 rfl okX3_goAbout tw_920 rfl rfl (c_go_g J hr hRZ hN h7 hd hdZ hm2 (by rw [ez]; exact gd)) rfl rfl (Nat.le_of_ble_eq_true rfl) ⟨by decide, by decide⟩ ⟨rfl, rfl⟩ (fun rv_ Y r_ J_ hv_ => ?_)
  obtain ⟨a1_, hY, a3_, a4_⟩ := hv_
  rw [a1_, a3_, a4_]
  show Wq MX11_round 50 [some (.ref 0), some (.int (nI N)), some (.int much), some (.int w0)] [.int 1] Y r J _
  refine x_if_ne (t := 55) (q := 53) dX11_round_50 (by decide) rfl (fun c50 => ?_) (fun c50 => absurd c50 ((by decide)))
  refine x_iload_n (q := 56) dX11_round_55 rfl rfl ?_
  refine x_if_ne (t := 69) (q := 59) dX11_round_56 (by decide) rfl (fun c56 => ?_) (fun c56 => ?_)
  · refine x_aload_n (q := 70) dX11_round_69 rfl rfl ?_
    refine q_gr (K := 8) (b := 80) (q := 73) dX11_round_70 rfl cl_11 (by decide) tw_575 rfl rfl rfl ?_
    refine q_gi (K := 6) (q := 76) dX11_round_73 rfl cl_3 (by decide) tw_496 rfl rfl ?_
    refine q_iret dX11_round_76 rfl ?_
    rw [ez, wn_c (W' := Wb I b hn st much) (yn := yn) (fun y s hy => Wb_r hZ hb28 (by omega)) 5040 _ _ _ _ (fun k hk => OF_lo N yn k hk)] at hY
    refine ⟨?_, ⟨hZ.tr hY.1, hY.2.1, hY.2.2.2.2⟩, rfl, rfl⟩
    unfold rdV
    rw [if_neg c56, hY.2.2.2.1]
  · refine x_aload_n (q := 60) dX11_round_59 rfl rfl ?_
    refine q_gr (K := 8) (b := 80) (q := 63) dX11_round_60 rfl cl_11 (by decide) tw_575 rfl rfl rfl ?_
    refine q_gi (K := 5) (q := 66) dX11_round_63 rfl cl_3 (by decide) tw_494 rfl rfl ?_
    refine x_goto (t := 76) dX11_round_66 (by decide) ?_
    refine q_iret dX11_round_76 rfl ?_
    rw [ez, wn_c (W' := Wb I b hn st much) (yn := yn) (fun y s hy => Wb_r hZ hb28 (by omega)) 5040 _ _ _ _ (fun k hk => OF_lo N yn k hk)] at hY
    refine ⟨?_, ⟨hZ.tr hY.1, hY.2.1, hY.2.2.2.2⟩, rfl, rfl⟩
    unfold rdV
    rw [if_pos c56, hY.2.2.1]
set_option maxRecDepth 100000 in
theorem c_Xrnd_b {I : MI} {b yn wn hn sn st : Nat} {r : MR} (J : MJ) (hr : RefOk r b) (h : RelL I b yn wn hn sn st) {N : Nat} (hN : N < 2 ^ yn) {d : Nat} (hd : d < yn) (hdp : I b 15 = nI d) {much w0 : Int32} (hm : (0 : Int32) ≤ much ∧ much ≤ 99) (hw0 : (0 : Int32) ≤ w0 ∧ w0 ≤ 1) (hno : 7 < cnt N yn ∨ ¬ gdP (fl3 yn (dz I) yn) d yn N) : Cq yX11_round MX11_round [.ref 0, .int (nI N), .int much, .int w0] I r J (Rp (some (.int (-1))) (xrN I) r J) := by
  have hb28 := (refs_L hr).2
  have h8 : yn ≤ 8 := h.1.2.2.1
  have h256 : N < 256 := by have := p8 h8; omega
  have hm2 : 0 ≤ much.toInt ∧ much.toInt ≤ 99 := by
    have q1 := Int32.le_iff_toInt_le.mp hm.1
    have q2 := Int32.le_iff_toInt_le.mp hm.2
    exact ⟨q1, q2⟩
  have hZ : Kr I (upI I 80 4 0) := Kr_80
  have hRZ := RelL_r hZ (refs_L hr).2 h
  have hdZ : (upI I 80 4 0) b 15 = nI d := by rw [hZ.L hb28 b ⟨by omega, by omega⟩]; exact hdp
  have ez : dz (upI I 80 4 0) = dz I := by
    funext j
    unfold dz
    rw [upc (by decide)]
  have hgo : Cq yX3_goAbout MX3_goAbout [.ref 80, .ref 58, .ref 76, .int (nI N), .int much] (upI I 80 4 0) r J (Rp (some (.int 0)) (fun Y => Kr (upI I 80 4 0) Y ∧ Y 80 = (upI I 80 4 0) 80) r J) := by
    rcases hno with z | z
    · exact c_go_n J hr hRZ hN (Or.inr z)
    · by_cases h7 : cnt N yn ≤ 7
      · exact c_go_b J hr hRZ hN h7 hd hdZ hm2 (by rw [ez]; exact z)
      · exact c_go_n J hr hRZ hN (Or.inr (by omega))
  refine cq_of [some (.ref 0), some (.int (nI N)), some (.int much), some (.int w0)] 0 (by decide +kernel) rfl rfl (Nat.le_of_ble_eq_true rfl) rfl ?_
  refine x_aload_n (q := 1) dX11_round_0 rfl rfl ?_
  refine q_gr (K := 8) (b := 80) (q := 4) dX11_round_1 rfl cl_11 (by decide) tw_575 rfl rfl rfl ?_
  refine q_callV (ci := 3) (N := 7) (T := TX3) (As := []) (rest := []) (q := 7) dX11_round_4 rfl okX3_forget tw_753 rfl rfl (c_forget I r J) rfl rfl (Nat.le_of_ble_eq_true rfl) ⟨by decide, by decide⟩ ⟨rfl, rfl⟩ (fun rv_ I_ r_ J_ hv_ => ?_)
  obtain ⟨a1_, a2_, a3_, a4_⟩ := hv_
  rw [a1_, a2_, a3_, a4_]
  show Wq MX11_round 7 [some (.ref 0), some (.int (nI N)), some (.int much), some (.int w0)] [] (upI I 80 4 0) r J _
  refine x_aload_n (q := 8) dX11_round_7 rfl rfl ?_
  refine x_iload_n (q := 9) dX11_round_8 rfl rfl ?_
  refine q_callV (ci := 11) (N := 14) (T := TX11) (As := [.int (nI N)]) (rest := []) (q := 12) dX11_round_9 rfl okX11_isSet tw_901 rfl rfl (c_isSet_g J hr hRZ hN) rfl rfl (Nat.le_of_ble_eq_true rfl) ⟨by decide, by decide⟩ ⟨rfl, rfl⟩ (fun rv_ I_ r_ J_ hv_ => ?_)
  obtain ⟨a1_, a2_, a3_, a4_⟩ := hv_
  rw [a1_, a2_, a3_, a4_]
  show Wq MX11_round 12 [some (.ref 0), some (.int (nI N)), some (.int much), some (.int w0)] [.int 1] (upI I 80 4 0) r J _
  refine x_if_eq (t := 31) (q := 15) dX11_round_12 (by decide) rfl (fun c12 => absurd c12 ((by decide))) (fun c12 => ?_)
  refine x_iload_n (q := 16) dX11_round_15 rfl rfl ?_
  refine q_callS (As := [.int much]) (rest := []) (q := 19) dX11_round_16 rfl okX11_isSalt tw_874 (by have q := c_isSalt much (upI I 80 4 0) r J; rw [inF_y hm] at q; exact q) rfl rfl (Nat.le_of_ble_eq_true rfl) ⟨by decide, by decide⟩ ⟨rfl, rfl⟩ (fun rv_ I_ r_ J_ hv_ => ?_)
  obtain ⟨a1_, a2_, a3_, a4_⟩ := hv_
  rw [a1_, a2_, a3_, a4_]
  show Wq MX11_round 19 [some (.ref 0), some (.int (nI N)), some (.int much), some (.int w0)] [.int 1] (upI I 80 4 0) r J _
  refine x_if_eq (t := 31) (q := 22) dX11_round_19 (by decide) rfl (fun c19 => absurd c19 ((by decide))) (fun c19 => ?_)
  refine x_iload_n (q := 23) dX11_round_22 rfl rfl ?_
  refine x_if_lt (t := 31) (q := 26) dX11_round_23 (by decide) rfl (fun c23 => absurd c23 (Int32.not_lt.mpr hw0.1)) (fun c23 => ?_)
  refine x_iload_n (q := 27) dX11_round_26 rfl rfl ?_
  refine x_iconst (1) (q := 28) dX11_round_27 rfl (by decide) ?_
  refine x_icmp_le (t := 33) (q := 31) dX11_round_28 (by decide) rfl (fun c28 => ?_) (fun c28 => absurd c28 (fun q => q hw0.2))
  refine x_aload_n (q := 34) dX11_round_33 rfl rfl ?_
  refine q_gr (K := 8) (b := 80) (q := 37) dX11_round_34 rfl cl_11 (by decide) tw_575 rfl rfl rfl ?_
  refine x_aload_n (q := 38) dX11_round_37 rfl rfl ?_
  refine q_gr (K := 5) (b := 58) (q := 41) dX11_round_38 rfl cl_11 (by decide) tw_572 rfl rfl rfl ?_
  refine x_aload_n (q := 42) dX11_round_41 rfl rfl ?_
  refine q_gr (K := 6) (b := 76) (q := 45) dX11_round_42 rfl cl_11 (by decide) tw_573 rfl rfl rfl ?_
  refine x_iload_n (q := 46) dX11_round_45 rfl rfl ?_
  refine x_iload_n (q := 47) dX11_round_46 rfl rfl ?_
  refine q_callV (ci := 3) (N := 7) (T := TX3) (As := [.ref 58, .ref 76, .int (nI N), .int much]) (rest := []) (q := 50) dX11_round_47 rfl okX3_goAbout tw_920 rfl rfl hgo rfl rfl (Nat.le_of_ble_eq_true rfl) ⟨by decide, by decide⟩ ⟨rfl, rfl⟩ (fun rv_ Y r_ J_ hv_ => ?_)
  obtain ⟨a1_, hY, a3_, a4_⟩ := hv_
  rw [a1_, a3_, a4_]
  show Wq MX11_round 50 [some (.ref 0), some (.int (nI N)), some (.int much), some (.int w0)] [.int 0] Y r J _
  refine x_if_ne (t := 55) (q := 53) dX11_round_50 (by decide) rfl (fun c50 => absurd c50 ((by decide))) (fun c50 => ?_)
  refine x_iconst (-1) (q := 54) dX11_round_53 rfl (by decide) ?_
  refine q_iret dX11_round_54 rfl ?_
  exact ⟨rfl, ⟨hZ.tr hY.1, by rw [hY.2, upq]⟩, rfl, rfl⟩
set_option maxRecDepth 100000 in
theorem c_Xrnd_n {I : MI} {b yn wn hn sn st : Nat} {r : MR} (J : MJ) (hr : RefOk r b) (h : RelL I b yn wn hn sn st) {x much w0 : Int32} (hno : rouOk yn x much w0 → I b 15 = -1) : Cq yX11_round MX11_round [.ref 0, .int x, .int much, .int w0] I r J (Rp (some (.int (-1))) (xrN I) r J) := by
  have hb28 := (refs_L hr).2
  have h8 : yn ≤ 8 := h.1.2.2.1
  have hZ : Kr I (upI I 80 4 0) := Kr_80
  have hRZ := RelL_r hZ (refs_L hr).2 h
  refine cq_of [some (.ref 0), some (.int x), some (.int much), some (.int w0)] 0 (by decide +kernel) rfl rfl (Nat.le_of_ble_eq_true rfl) rfl ?_
  refine x_aload_n (q := 1) dX11_round_0 rfl rfl ?_
  refine q_gr (K := 8) (b := 80) (q := 4) dX11_round_1 rfl cl_11 (by decide) tw_575 rfl rfl rfl ?_
  refine q_callV (ci := 3) (N := 7) (T := TX3) (As := []) (rest := []) (q := 7) dX11_round_4 rfl okX3_forget tw_753 rfl rfl (c_forget I r J) rfl rfl (Nat.le_of_ble_eq_true rfl) ⟨by decide, by decide⟩ ⟨rfl, rfl⟩ (fun rv_ I_ r_ J_ hv_ => ?_)
  obtain ⟨a1_, a2_, a3_, a4_⟩ := hv_
  rw [a1_, a2_, a3_, a4_]
  show Wq MX11_round 7 [some (.ref 0), some (.int x), some (.int much), some (.int w0)] [] (upI I 80 4 0) r J _
  refine x_aload_n (q := 8) dX11_round_7 rfl rfl ?_
  refine x_iload_n (q := 9) dX11_round_8 rfl rfl ?_
  refine q_callV (ci := 11) (N := 14) (T := TX11) (As := [.int x]) (rest := []) (q := 12) dX11_round_9 rfl okX11_isSet tw_901 rfl rfl (c_isSet_a J hr hRZ) rfl rfl (Nat.le_of_ble_eq_true rfl) ⟨by decide, by decide⟩ ⟨rfl, rfl⟩ (fun rv_ I_ r_ J_ hv_ => ?_)
  obtain ⟨a1_, a2_, a3_, a4_⟩ := hv_
  rw [a1_, a2_, a3_, a4_]
  show Wq MX11_round 12 [some (.ref 0), some (.int x), some (.int much), some (.int w0)] [.int (sB yn x)] (upI I 80 4 0) r J _
  refine x_if_eq (t := 31) (q := 15) dX11_round_12 (by decide) rfl (fun c12 => ?_) (fun c12 => ?_)
  · refine x_iconst (-1) (q := 32) dX11_round_31 rfl (by decide) ?_
    refine q_iret dX11_round_32 rfl ?_
    exact ⟨rfl, ⟨hZ, by rw [upq]⟩, rfl, rfl⟩
  · refine x_iload_n (q := 16) dX11_round_15 rfl rfl ?_
    refine q_callS (As := [.int much]) (rest := []) (q := 19) dX11_round_16 rfl okX11_isSalt tw_874 (c_isSalt much (upI I 80 4 0) r J) rfl rfl (Nat.le_of_ble_eq_true rfl) ⟨by decide, by decide⟩ ⟨rfl, rfl⟩ (fun rv_ I_ r_ J_ hv_ => ?_)
    obtain ⟨a1_, a2_, a3_, a4_⟩ := hv_
    rw [a1_, a2_, a3_, a4_]
    show Wq MX11_round 19 [some (.ref 0), some (.int x), some (.int much), some (.int w0)] [.int (inF much 0 99)] (upI I 80 4 0) r J _
    refine x_if_eq (t := 31) (q := 22) dX11_round_19 (by decide) rfl (fun c19 => ?_) (fun c19 => ?_)
    · refine x_iconst (-1) (q := 32) dX11_round_31 rfl (by decide) ?_
      refine q_iret dX11_round_32 rfl ?_
      exact ⟨rfl, ⟨hZ, by rw [upq]⟩, rfl, rfl⟩
    · refine x_iload_n (q := 23) dX11_round_22 rfl rfl ?_
      refine x_if_lt (t := 31) (q := 26) dX11_round_23 (by decide) rfl (fun c23 => ?_) (fun c23 => ?_)
      · refine x_iconst (-1) (q := 32) dX11_round_31 rfl (by decide) ?_
        refine q_iret dX11_round_32 rfl ?_
        exact ⟨rfl, ⟨hZ, by rw [upq]⟩, rfl, rfl⟩
      · refine x_iload_n (q := 27) dX11_round_26 rfl rfl ?_
        refine x_iconst (1) (q := 28) dX11_round_27 rfl (by decide) ?_
        refine x_icmp_le (t := 33) (q := 31) dX11_round_28 (by decide) rfl (fun c28 => ?_) (fun c28 => ?_)
        · have hok := sB_g h8 c12
          have dp : (upI I 80 4 0) b 15 = -1 := by
            rw [hZ.L hb28 b ⟨by omega, by omega⟩]
            exact hno ⟨hok, inF_1 c19, Int32.not_lt.mp c23, c28⟩
          obtain ⟨N, hN, rfl⟩ := hok
          refine x_aload_n (q := 34) dX11_round_33 rfl rfl ?_
          refine q_gr (K := 8) (b := 80) (q := 37) dX11_round_34 rfl cl_11 (by decide) tw_575 rfl rfl rfl ?_
          refine x_aload_n (q := 38) dX11_round_37 rfl rfl ?_
          refine q_gr (K := 5) (b := 58) (q := 41) dX11_round_38 rfl cl_11 (by decide) tw_572 rfl rfl rfl ?_
          refine x_aload_n (q := 42) dX11_round_41 rfl rfl ?_
          refine q_gr (K := 6) (b := 76) (q := 45) dX11_round_42 rfl cl_11 (by decide) tw_573 rfl rfl rfl ?_
          refine x_iload_n (q := 46) dX11_round_45 rfl rfl ?_
          refine x_iload_n (q := 47) dX11_round_46 rfl rfl ?_
          refine q_callV (ci := 3) (N := 7) (T := TX3) (As := [.ref 58, .ref 76, .int (nI N), .int much]) (rest := []) (q := 50) dX11_round_47 rfl okX3_goAbout tw_920 rfl rfl (c_go_n J hr hRZ hN (Or.inl dp)) rfl rfl (Nat.le_of_ble_eq_true rfl) ⟨by decide, by decide⟩ ⟨rfl, rfl⟩ (fun rv_ Y r_ J_ hv_ => ?_)
          obtain ⟨a1_, hY, a3_, a4_⟩ := hv_
          rw [a1_, a3_, a4_]
          show Wq MX11_round 50 [some (.ref 0), some (.int (nI N)), some (.int much), some (.int w0)] [.int 0] Y r J _
          refine x_if_ne (t := 55) (q := 53) dX11_round_50 (by decide) rfl (fun c50 => absurd c50 ((by decide))) (fun c50 => ?_)
          refine x_iconst (-1) (q := 54) dX11_round_53 rfl (by decide) ?_
          refine q_iret dX11_round_54 rfl ?_
          exact ⟨rfl, ⟨hZ.tr hY.1, by rw [hY.2, upq]⟩, rfl, rfl⟩
        · refine x_iconst (-1) (q := 32) dX11_round_31 rfl (by decide) ?_
          refine q_iret dX11_round_32 rfl ?_
          exact ⟨rfl, ⟨hZ, by rw [upq]⟩, rfl, rfl⟩
theorem RelR_r {I I' : MI} (hk : Kr I I') (hR : RelR I) (ho : ROrd I') : RelR I' := by
  obtain ⟨⟨tl, t1, t2, t3, t4⟩, ⟨f1, f2⟩, ⟨m1, m2⟩, -⟩ := hR
  have k100 : ∀ j, ¬ j = 61 → (j < 49 ∨ 52 < j) → I' 100 j = I 100 j := fun j q1 q2 => hk 100 j (by unfold scr; omega) (by decide) (by decide) (by decide) (fun z => q1 z.2)
  have k0 : I' 0 = I 0 := hk.cell (fun j s => by unfold scr at s; omega) (by decide) (by decide) (by decide) (by decide)
  have k1 : I' 1 = I 1 := hk.cell (fun j s => by unfold scr at s; omega) (by decide) (by decide) (by decide) (by decide)
  have k54 : I' 54 = I 54 := hk.cell (fun j s => by unfold scr at s; omega) (by decide) (by decide) (by decide) (by decide)
  have k101 : I' 101 = I 101 := hk.cell (fun j s => by unfold scr at s; omega) (by decide) (by decide) (by decide) (by decide)
  refine ⟨⟨tl, t1, by rw [k0]; exact t2, by rw [k100 1 (by decide) (by decide)]; exact t3, fun j hj => by rw [k1, k101]; exact t4 j hj⟩, ⟨by rw [k54, k100 2 (by decide) (by decide)]; exact f1, by rw [k54, k100 3 (by decide) (by decide)]; exact f2⟩, ⟨by rw [k0, k100 73 (by decide) (by decide)]; exact m1, by rw [k0]; exact m2⟩, ho⟩
theorem op_rr {args : List Value} {I : MI} {r : MR} {J : MJ} {res : Int32} {b yn wn hn sn st : Nat} {FX : MI → Prop} (hr : RefOk r b) (hl : RelL I b yn wn hn sn st) (hR : RelR I) (hJ : RelJ J) (hx : Cq yX11_round MX11_round (.ref 0 :: args) I r J (Rp (some (.int res)) (fun Y => Kr I Y ∧ FX Y) r J)) (hm : ∀ Y, Kr I Y → FX Y → RelL Y b yn wn hn sn st → Cq yX12_round MX12_round (.ref 100 :: args) Y r J (Rp (some (.int res)) (fun V => Kr Y V ∧ ROrd V) r J)) : ∃ res : Int32, Cq yX11_round MX11_round (.ref 0 :: args) I r J (fun v I1 r1 J1 => v = some (.int res) ∧ Cq yX12_round MX12_round (.ref 100 :: args) I1 r1 J1 (fun v2 I2 r2 J2 => v2 = some (.int res) ∧ Rel I2 r2 J2)) := by
  have hb := (refs_L hr).2
  refine op_of (res := res) hx (fun v I1 r1 J1 hp => ?_)
  obtain ⟨e1, ⟨k1, fx⟩, e3, e4⟩ := hp
  subst e3 e4
  refine ⟨e1, cq_mono (fun v2 I2 r2 J2 hv => ?_) (hm I1 k1 fx (RelL_r k1 hb hl))⟩
  obtain ⟨a1, ⟨a2, a5⟩, a3, a4⟩ := hv
  subst a3 a4
  exact ⟨a1, b, yn, wn, hn, sn, st, hr, RelL_r (k1.tr a2) hb hl, RelR_r (k1.tr a2) hR a5, hJ⟩
theorem dz_r {I X : MI} (hk : Kr I X) : dz X = dz I := by
  have e : X 119 = I 119 := hk.cell (fun j s => by unfold scr at s; omega) (by decide) (by decide) (by decide) (by decide)
  funext j
  unfold dz
  rw [e]
theorem mono_rp {y : MethodName} {M : MX} {args : List Value} {I : MI} {r : MR} {J : MJ} {x : Option Value} {F G : MI → Prop} (h : Cq y M args I r J (Rp x F r J)) (hFG : ∀ V, F V → G V) : Cq y M args I r J (Rp x G r J) := cq_mono (fun v I' r' J' hv => ⟨hv.1, hFG I' hv.2.1, hv.2.2.1, hv.2.2.2⟩) h
theorem op_round (x much w : Int32) : OpOk yX11_round MX11_round yX12_round MX12_round [.int x, .int much, .int w] := by
  intro I r J hrel
  obtain ⟨b, yn, wn, hn, sn, st, hr, hl, hR, hJ⟩ := hrel
  have hb := (refs_L hr).2
  have h8 : yn ≤ 8 := hl.1.2.2.1
  have nord : ∀ Y V : MI, Y 80 4 = 0 → mrN Y V → ROrd V := fun Y V q1 q2 => ⟨0, by decide, by rw [q2.2.1 80 (by decide)]; exact q1, q2.2.2, fun i hi => absurd hi (by omega)⟩
  have nocase : (rouOk yn x much w → I b 15 = -1) → ∃ res : Int32, Cq yX11_round MX11_round [.ref 0, .int x, .int much, .int w] I r J (fun v I1 r1 J1 => v = some (.int res) ∧ Cq yX12_round MX12_round [.ref 100, .int x, .int much, .int w] I1 r1 J1 (fun v2 I2 r2 J2 => v2 = some (.int res) ∧ Rel I2 r2 J2)) := fun hno => by
    refine op_rr hr hl hR hJ (c_Xrnd_n J hr hl hno) (fun Y k1 fx q1 => ?_)
    exact mono_rp (c_Mrnd_n hb r J q1 (fun z => by rw [k1.L hb b ⟨by omega, by omega⟩]; exact hno z)) (fun V hV => ⟨hV.1, nord Y V fx hV⟩)
  by_cases q : rouOk yn x much w
  · rcases hl.2.1.2.2.2.2.2.2.2.2 with dp | ⟨d, hd, hdp⟩
    · exact nocase (fun _ => dp)
    · obtain ⟨⟨N, hN, rfl⟩, hm, hw⟩ := q
      by_cases hg : cnt N yn ≤ 7 ∧ gdP (fl3 yn (dz I) yn) d yn N
      · refine op_rr hr hl hR hJ (c_Xrnd_g J hr hl hN hd hdp hm hw hg.1 hg.2) (fun Y k1 fx q1 => ?_)
        have e := c_Mrnd_g hb r J q1 hN hd (by rw [k1.L hb b ⟨by omega, by omega⟩]; exact hdp) hm hw hg.1 (by rw [dz_r k1]; exact hg.2)
        rw [dz_r k1, wn_c (W' := Wb I b hn st much) (yn := yn) (fun y s hy => Wb_r k1 hb (by omega)) 5040 _ _ _ _ (fun k hk => OF_lo N yn k hk)] at e
        refine mono_rp e (fun V hV => ⟨hV.1, cnt N yn, hg.1, by rw [hV.2.1 80 (by decide)]; exact fx.1, hV.2.2.1, fun i hi => ?_⟩)
        rw [hV.2.2.2 i hi, hV.2.1 84 (by decide)]
        exact (fx.2 (rn_le 5040 _ _ _ _ (rs_OF hg.1) (Nat.le_refl _)) i hi).symm
      · have hno : 7 < cnt N yn ∨ ¬ gdP (fl3 yn (dz I) yn) d yn N := by
          by_cases z : cnt N yn ≤ 7
          · exact Or.inr (fun g => hg ⟨z, g⟩)
          · exact Or.inl (by omega)
        refine op_rr hr hl hR hJ (c_Xrnd_b J hr hl hN hd hdp hm hw hno) (fun Y k1 fx q1 => ?_)
        exact mono_rp (c_Mrnd_b hb r J q1 hN hd (by rw [k1.L hb b ⟨by omega, by omega⟩]; exact hdp) hm hw (by rw [dz_r k1]; exact hno)) (fun V hV => ⟨hV.1, nord Y V fx hV⟩)
  · exact nocase (fun z => absurd z q)
