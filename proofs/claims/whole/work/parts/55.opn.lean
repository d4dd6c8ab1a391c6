set_option maxRecDepth 100000 in
theorem c_Xopn_g {I : MI} {b yn wn hn sn st : Nat} {r : MR} (J : MJ) (hr : RefOk r b) (h : RelL I b yn wn hn sn st) {fr to sp : Nat} (hfr : fr < yn) (hto : to < yn) (hsp : sp ≤ 71) {v : Int32} (hv : spec I (bkN I b hn st yn) sp fr to v) : Cq yX11_open MX11_open [.ref 0, .int (nI fr), .int (nI to), .int (nI sp)] I r J (Rk v I r J) := by
  have hb0 : SH (r 0) = (15, 18) := by rw [hr.1]; exact (refs_L hr).1
  have h8 : yn ≤ 8 := h.1.2.2.1
  have ey : I (r 0) 1 = nI yn := by rw [hr.1]; exact h.1.2.1
  have em : I 100 41 = nI yn := h.2.2.1.1
  refine cq_of [some (.ref 0), some (.int (nI fr)), some (.int (nI to)), some (.int (nI sp))] 0 (by decide +kernel) rfl rfl (Nat.le_of_ble_eq_true rfl) rfl ?_
  refine x_aload_n (q := 1) dX11_open_0 rfl rfl ?_
  refine x_iload_n (q := 2) dX11_open_1 rfl rfl ?_
  refine q_callV (ci := 11) (N := 14) (T := TX11) (As := [.int (nI fr)]) (rest := []) (q := 5) dX11_open_2 rfl okX11_isYard tw_811 rfl rfl (c_isYard_g I r J hb0 ey h8 hfr) rfl rfl (Nat.le_of_ble_eq_true rfl) ⟨by decide, by decide⟩ ⟨rfl, rfl⟩ (fun rv_ I_ r_ J_ hv_ => ?_)
  obtain ⟨a1_, a2_, a3_, a4_⟩ := hv_
  rw [a1_, a2_, a3_, a4_]
  show Wq MX11_open 5 [some (.ref 0), some (.int (nI fr)), some (.int (nI to)), some (.int (nI sp))] [.int 1] I r J _
  refine x_if_eq (t := 26) (q := 8) dX11_open_5 (by decide) rfl (fun c5 => absurd c5 ((by decide))) (fun c5 => ?_)
  refine x_aload_n (q := 9) dX11_open_8 rfl rfl ?_
  refine x_iload_n (q := 10) dX11_open_9 rfl rfl ?_
  refine q_callV (ci := 11) (N := 14) (T := TX11) (As := [.int (nI to)]) (rest := []) (q := 13) dX11_open_10 rfl okX11_isYard tw_811 rfl rfl (c_isYard_g I r J hb0 ey h8 hto) rfl rfl (Nat.le_of_ble_eq_true rfl) ⟨by decide, by decide⟩ ⟨rfl, rfl⟩ (fun rv_ I_ r_ J_ hv_ => ?_)
  obtain ⟨a1_, a2_, a3_, a4_⟩ := hv_
  rw [a1_, a2_, a3_, a4_]
  show Wq MX11_open 13 [some (.ref 0), some (.int (nI fr)), some (.int (nI to)), some (.int (nI sp))] [.int 1] I r J _
  refine x_if_eq (t := 26) (q := 16) dX11_open_13 (by decide) rfl (fun c13 => absurd c13 ((by decide))) (fun c13 => ?_)
  refine x_iload_n (q := 17) dX11_open_16 rfl rfl ?_
  refine x_if_lt (t := 26) (q := 20) dX11_open_17 (by decide) rfl (fun c17 => absurd c17 (nI_pos (by omega))) (fun c17 => ?_)
  refine x_iload_n (q := 21) dX11_open_20 rfl rfl ?_
  refine x_bipush (72) (q := 23) dX11_open_21 rfl (by decide) ?_
  refine x_icmp_lt (t := 28) (q := 26) dX11_open_23 (by decide) rfl (fun c23 => ?_) (fun c23 => absurd c23 (fun q => q (nI_lt (b := 72) (by omega) (by decide))))
  refine x_aload_n (q := 29) dX11_open_28 rfl rfl ?_
  refine q_gr (K := 9) (b := 85) (q := 32) dX11_open_29 rfl cl_11 (by decide) tw_576 rfl rfl rfl ?_
  refine x_aload_n (q := 33) dX11_open_32 rfl rfl ?_
  refine q_gr (K := 5) (b := 58) (q := 36) dX11_open_33 rfl cl_11 (by decide) tw_572 rfl rfl rfl ?_
  refine x_aload_n (q := 37) dX11_open_36 rfl rfl ?_
  refine q_gr (K := 6) (b := 76) (q := 40) dX11_open_37 rfl cl_11 (by decide) tw_573 rfl rfl rfl ?_
  refine q_callV (ci := 0) (N := 2) (T := TX0) (As := [.ref 58, .ref 76]) (rest := []) (q := 43) dX11_open_40 rfl okX0_lookOut tw_976 rfl rfl (c_lko J hr h) rfl rfl (Nat.le_of_ble_eq_true rfl) ⟨by decide, by decide⟩ ⟨rfl, rfl⟩ (fun rv_ X r_ J_ hv_ => ?_)
  obtain ⟨a1_, hX, a3_, a4_⟩ := hv_
  rw [a1_, a3_, a4_]
  show Wq MX11_open 43 [some (.ref 0), some (.int (nI fr)), some (.int (nI to)), some (.int (nI sp))] [] X r J _
  refine x_aload_n (q := 44) dX11_open_43 rfl rfl ?_
  refine q_gr (K := 9) (b := 85) (q := 47) dX11_open_44 rfl cl_11 (by decide) tw_576 rfl rfl rfl ?_
  refine x_aload_n (q := 48) dX11_open_47 rfl rfl ?_
  refine q_gr (K := 2) (b := b) (q := 51) dX11_open_48 rfl cl_11 (by decide) tw_569 rfl rfl (by rw [← hr.1]; rfl) ?_
  refine x_iload_n (q := 52) dX11_open_51 rfl rfl ?_
  refine x_iload_n (q := 53) dX11_open_52 rfl rfl ?_
  refine x_iload_n (q := 54) dX11_open_53 rfl rfl ?_
  refine q_callV (ci := 0) (N := 2) (T := TX0) (As := [.ref b, .int (nI fr), .int (nI to), .int (nI sp)]) (rest := []) (q := 57) dX11_open_54 rfl okX0_fewestMinutes tw_986 rfl rfl (c_few J h (refs_L hr).2 (bkN_lt h8) hsp (by omega) hv (by omega) hX.1 hX.2) rfl rfl (Nat.le_of_ble_eq_true rfl) ⟨by decide, by decide⟩ ⟨rfl, rfl⟩ (fun rv_ Y r_ J_ hv_ => ?_)
  obtain ⟨a1_, hY, a3_, a4_⟩ := hv_
  rw [a1_, a3_, a4_]
  show Wq MX11_open 57 [some (.ref 0), some (.int (nI fr)), some (.int (nI to)), some (.int (nI sp))] [.int v] Y r J _
  refine q_iret dX11_open_57 rfl ?_
  exact ⟨rfl, hY, rfl, rfl⟩
def opOk (yn : Nat) (fr to sp : Int32) : Prop := (∃ k, k < yn ∧ fr = nI k) ∧ (∃ k, k < yn ∧ to = nI k) ∧ 0 ≤ sp ∧ sp ≤ 71
def yB (yn : Nat) (x : Int32) : Int32 := if 0 ≤ x ∧ x < nI yn then 1 else 0
theorem yB_g {yn : Nat} {x : Int32} (h8 : yn ≤ 8) (h : ¬ yB yn x = 0) : ∃ k, k < yn ∧ x = nI k := by
  unfold yB at h
  by_cases q : 0 ≤ x ∧ x < nI yn
  · obtain ⟨k, hk, rfl⟩ := nI_of (Int32.not_lt.mpr q.1)
    exact ⟨k, (nI_ltI (by omega) (by omega)).mp q.2, rfl⟩
  · rw [if_neg q] at h; exact absurd rfl h
theorem yB_1 {yn k : Nat} (h8 : yn ≤ 8) (h : k < yn) : yB yn (nI k) = 1 := if_pos ⟨nI_pos' (by omega), nI_lt h (by omega)⟩
theorem yB_0 {yn : Nat} {x : Int32} (h8 : yn ≤ 8) (h : ¬ ∃ k, k < yn ∧ x = nI k) : yB yn x = 0 := by
  by_cases q : yB yn x = 0
  · exact q
  · exact absurd (yB_g h8 q) h
theorem c_isYard_a {x : Int32} {yn : Nat} (I : MI) (r : MR) (J : MJ) (hb : SH (r 0) = (15, 18)) (e1 : I (r 0) 1 = nI yn) (h8 : yn ≤ 8) : Cq yX11_isYard MX11_isYard [.ref 0, .int x] I r J (Rt (some (.int (yB yn x))) I r J) := by
  by_cases q : ∃ k, k < yn ∧ x = nI k
  · obtain ⟨k, hk, rfl⟩ := q
    rw [yB_1 h8 hk]
    exact c_isYard_g I r J hb e1 h8 hk
  · rw [yB_0 h8 q]
    exact c_isYard_b I r J hb e1 h8 q
theorem c_mYard_a {x : Int32} {yn : Nat} (I : MI) (r : MR) (J : MJ) (e1 : I 100 41 = nI yn) (h8 : yn ≤ 8) : Cq yX12_isYard MX12_isYard [.ref 100, .int x] I r J (Rt (some (.int (yB yn x))) I r J) := by
  by_cases q : ∃ k, k < yn ∧ x = nI k
  · obtain ⟨k, hk, rfl⟩ := q
    rw [yB_1 h8 hk]
    exact c_mYard_g I r J e1 h8 hk
  · rw [yB_0 h8 q]
    exact c_mYard_b I r J e1 h8 q
theorem i71 {x : Int32} (h : x < 72) : x ≤ 71 := by
  rw [Int32.lt_iff_toInt_lt] at h
  rw [Int32.le_iff_toInt_le]
  have e1 : (72 : Int32).toInt = 72 := by decide
  have e2 : (71 : Int32).toInt = 71 := by decide
  omega
set_option maxRecDepth 100000 in
theorem c_Xopn_b {I : MI} {b yn wn hn sn st : Nat} {r : MR} (J : MJ) (hr : RefOk r b) (h : RelL I b yn wn hn sn st) {fr to sp : Int32} (hno : ¬ opOk yn fr to sp) : Cq yX11_open MX11_open [.ref 0, .int fr, .int to, .int sp] I r J (Rk (-1) I r J) := by
  have hb0 : SH (r 0) = (15, 18) := by rw [hr.1]; exact (refs_L hr).1
  have h8 : yn ≤ 8 := h.1.2.2.1
  have ey : I (r 0) 1 = nI yn := by rw [hr.1]; exact h.1.2.1
  have em : I 100 41 = nI yn := h.2.2.1.1
  refine cq_of [some (.ref 0), some (.int fr), some (.int to), some (.int sp)] 0 (by decide +kernel) rfl rfl (Nat.le_of_ble_eq_true rfl) rfl ?_
  refine x_aload_n (q := 1) dX11_open_0 rfl rfl ?_
  refine x_iload_n (q := 2) dX11_open_1 rfl rfl ?_
  refine q_callV (ci := 11) (N := 14) (T := TX11) (As := [.int fr]) (rest := []) (q := 5) dX11_open_2 rfl okX11_isYard tw_811 rfl rfl (c_isYard_a I r J hb0 ey h8) rfl rfl (Nat.le_of_ble_eq_true rfl) ⟨by decide, by decide⟩ ⟨rfl, rfl⟩ (fun rv_ I_ r_ J_ hv_ => ?_)
  obtain ⟨a1_, a2_, a3_, a4_⟩ := hv_
  rw [a1_, a2_, a3_, a4_]
  show Wq MX11_open 5 [some (.ref 0), some (.int fr), some (.int to), some (.int sp)] [.int (yB yn fr)] I r J _
  refine x_if_eq (t := 26) (q := 8) dX11_open_5 (by decide) rfl (fun c5 => ?_) (fun c5 => ?_)
  · refine x_iconst (-1) (q := 27) dX11_open_26 rfl (by decide) ?_
    refine q_iret dX11_open_27 rfl ?_
    exact Rk_same
  · refine x_aload_n (q := 9) dX11_open_8 rfl rfl ?_
    refine x_iload_n (q := 10) dX11_open_9 rfl rfl ?_
    refine q_callV (ci := 11) (N := 14) (T := TX11) (As := [.int to]) (rest := []) (q := 13) dX11_open_10 rfl okX11_isYard tw_811 rfl rfl (c_isYard_a I r J hb0 ey h8) rfl rfl (Nat.le_of_ble_eq_true rfl) ⟨by decide, by decide⟩ ⟨rfl, rfl⟩ (fun rv_ I_ r_ J_ hv_ => ?_)
    obtain ⟨a1_, a2_, a3_, a4_⟩ := hv_
    rw [a1_, a2_, a3_, a4_]
    show Wq MX11_open 13 [some (.ref 0), some (.int fr), some (.int to), some (.int sp)] [.int (yB yn to)] I r J _
    refine x_if_eq (t := 26) (q := 16) dX11_open_13 (by decide) rfl (fun c13 => ?_) (fun c13 => ?_)
    · refine x_iconst (-1) (q := 27) dX11_open_26 rfl (by decide) ?_
      refine q_iret dX11_open_27 rfl ?_
      exact Rk_same
    · refine x_iload_n (q := 17) dX11_open_16 rfl rfl ?_
      refine x_if_lt (t := 26) (q := 20) dX11_open_17 (by decide) rfl (fun c17 => ?_) (fun c17 => ?_)
      · refine x_iconst (-1) (q := 27) dX11_open_26 rfl (by decide) ?_
        refine q_iret dX11_open_27 rfl ?_
        exact Rk_same
      · refine x_iload_n (q := 21) dX11_open_20 rfl rfl ?_
        refine x_bipush (72) (q := 23) dX11_open_21 rfl (by decide) ?_
        refine x_icmp_lt (t := 28) (q := 26) dX11_open_23 (by decide) rfl (fun c23 => ?_) (fun c23 => ?_)
        · exact absurd ⟨yB_g h8 c5, yB_g h8 c13, Int32.not_lt.mp c17, i71 c23⟩ hno
        · refine x_iconst (-1) (q := 27) dX11_open_26 rfl (by decide) ?_
          refine q_iret dX11_open_27 rfl ?_
          exact Rk_same
set_option maxRecDepth 100000 in
theorem c_Mopn_b {I : MI} {b yn wn hn sn st : Nat} (r : MR) (J : MJ) (h : RelL I b yn wn hn sn st) {fr to sp : Int32} (hno : ¬ opOk yn fr to sp) : Cq yX12_open MX12_open [.ref 100, .int fr, .int to, .int sp] I r J (Rk (-1) I r J) := by
  have h8 : yn ≤ 8 := h.1.2.2.1
  have em : I 100 41 = nI yn := h.2.2.1.1
  refine cq_of [some (.ref 100), some (.int fr), some (.int to), some (.int sp), none, none, none, none] 4 (by decide +kernel) rfl rfl (Nat.le_of_ble_eq_true rfl) rfl ?_
  refine x_aload_n (q := 1) dX12_open_0 rfl rfl ?_
  refine x_iload_n (q := 2) dX12_open_1 rfl rfl ?_
  refine q_callV (ci := 12) (N := 79) (T := TX12) (As := [.int fr]) (rest := []) (q := 5) dX12_open_2 rfl okX12_isYard tw_1485 rfl rfl (c_mYard_a I r J em h8) rfl rfl (Nat.le_of_ble_eq_true rfl) ⟨by decide, by decide⟩ ⟨rfl, rfl⟩ (fun rv_ I_ r_ J_ hv_ => ?_)
  obtain ⟨a1_, a2_, a3_, a4_⟩ := hv_
  rw [a1_, a2_, a3_, a4_]
  show Wq MX12_open 5 [some (.ref 100), some (.int fr), some (.int to), some (.int sp), none, none, none, none] [.int (yB yn fr)] I r J _
  refine x_if_eq (t := 26) (q := 8) dX12_open_5 (by decide) rfl (fun c5 => ?_) (fun c5 => ?_)
  · refine x_iconst (-1) (q := 27) dX12_open_26 rfl (by decide) ?_
    refine q_iret dX12_open_27 rfl ?_
    exact Rk_same
  · refine x_aload_n (q := 9) dX12_open_8 rfl rfl ?_
    refine x_iload_n (q := 10) dX12_open_9 rfl rfl ?_
    refine q_callV (ci := 12) (N := 79) (T := TX12) (As := [.int to]) (rest := []) (q := 13) dX12_open_10 rfl okX12_isYard tw_1485 rfl rfl (c_mYard_a I r J em h8) rfl rfl (Nat.le_of_ble_eq_true rfl) ⟨by decide, by decide⟩ ⟨rfl, rfl⟩ (fun rv_ I_ r_ J_ hv_ => ?_)
    obtain ⟨a1_, a2_, a3_, a4_⟩ := hv_
    rw [a1_, a2_, a3_, a4_]
    show Wq MX12_open 13 [some (.ref 100), some (.int fr), some (.int to), some (.int sp), none, none, none, none] [.int (yB yn to)] I r J _
    refine x_if_eq (t := 26) (q := 16) dX12_open_13 (by decide) rfl (fun c13 => ?_) (fun c13 => ?_)
    · refine x_iconst (-1) (q := 27) dX12_open_26 rfl (by decide) ?_
      refine q_iret dX12_open_27 rfl ?_
      exact Rk_same
    · refine x_iload_n (q := 17) dX12_open_16 rfl rfl ?_
      refine x_iconst (0) (q := 18) dX12_open_17 rfl (by decide) ?_
      refine x_bipush (71) (q := 20) dX12_open_18 rfl (by decide) ?_
      refine q_callS (As := [.int sp, .int 0, .int 71]) (rest := []) (q := 23) dX12_open_20 rfl okX12_isIn tw_1450 (c_isIn _ _ _ _ r J) rfl rfl (Nat.le_of_ble_eq_true rfl) ⟨by decide, by decide⟩ ⟨rfl, rfl⟩ (fun rv_ I_ r_ J_ hv_ => ?_)
      obtain ⟨a1_, a2_, a3_, a4_⟩ := hv_
      rw [a1_, a2_, a3_, a4_]
      show Wq MX12_open 23 [some (.ref 100), some (.int fr), some (.int to), some (.int sp), none, none, none, none] [.int (inF sp 0 71)] I r J _
      refine x_if_ne (t := 28) (q := 26) dX12_open_23 (by decide) rfl (fun c23 => ?_) (fun c23 => ?_)
      · exact absurd ⟨yB_g h8 c5, yB_g h8 c13, inF_1 c23⟩ hno
      · refine x_iconst (-1) (q := 27) dX12_open_26 rfl (by decide) ?_
        refine q_iret dX12_open_27 rfl ?_
        exact Rk_same
theorem blB_k {I X : MI} {b hn st y s : Nat} (hk : Kp I X) (hb : b ≤ 28) (hy : y < 8) : blB X b hn st y s = blB I b hn st y s := by
  have e : yGet X y = yGet I y := by
    unfold yGet
    rw [hk.cell (c := 126) (fun j s => by unfold scr at s; omega), hk.cell (c := 127) (fun j s => by unfold scr at s; omega)]
  unfold blB
  rw [e, hk.L hb (b + 10 + 2 * y) ⟨by omega, by omega⟩, trajY_c (hk.L hb) hy]
theorem bkN_k {I X : MI} {b hn st n : Nat} (hk : Kp I X) (hb : b ≤ 28) (hn8 : n ≤ 8) : bkN X b hn st n = bkN I b hn st n := by
  funext s
  exact bitsN_c n (fun y hy => blB_k hk hb (by omega))
theorem ed_k {I X : MI} (hk : Kp I X) {a c k : Nat} : ed X a c k ↔ ed I a c k := by
  unfold ed
  rw [hk.cell (c := 119) (fun j s => by unfold scr at s; omega)]
theorem Sr_k {I X : MI} (hk : Kp I X) {B : Nat → Nat} {sp fr : Nat} : ∀ m m' y, Sr X B sp fr m m' y ↔ Sr I B sp fr m m' y := by
  intro m
  induction m with
  | zero => intro m' y; exact Iff.rfl
  | succ m ih =>
    intro m' y
    refine or_congr (ih m' y) (exists_congr fun a => exists_congr fun k => ?_)
    rw [ed_k hk, ih]
theorem spec_k {I X : MI} (hk : Kp I X) {B : Nat → Nat} {sp fr to : Nat} {v : Int32} (h : spec I B sp fr to v) : spec X B sp fr to v := by
  have e : ∀ m, Rr X B sp fr m to ↔ Rr I B sp fr m to := fun m => by
    unfold Rr
    rw [Sr_k hk]
  refine ⟨fun m h1 h2 h3 => h.1 m h1 ((e m).mp h2) (fun m' g z => h3 m' g ((e m').mpr z)), fun g => h.2 (fun m h1 z => g m h1 ((e m).mpr z))⟩
theorem op_opn (fr to sp : Int32) : OpOk yX11_open MX11_open yX12_open MX12_open [.int fr, .int to, .int sp] := by
  intro I r J hrel
  obtain ⟨b, yn, wn, hn, sn, st, hr, hl, hR, hJ⟩ := hrel
  have hb := (refs_L hr).2
  have h8 : yn ≤ 8 := hl.1.2.2.1
  by_cases q : opOk yn fr to sp
  · obtain ⟨⟨f, hf, rfl⟩, ⟨t, ht, rfl⟩, hsp⟩ := q
    obtain ⟨s, hs, rfl⟩ := st_of (N := 71) (by decide) hsp
    obtain ⟨v, hv⟩ := spec_ex I (bkN I b hn st yn) s f t
    refine op_kp hr hl hR hJ (c_Xopn_g J hr hl hf ht hs hv) (fun X hX q1 q2 => ?_)
    exact c_Mopn_g hb r J q1 hf ht hs (by rw [bkN_k hX hb h8]; exact spec_k hX hv)
  · exact op_kp hr hl hR hJ (c_Xopn_b J hr hl q) (fun X hX q1 q2 => c_Mopn_b r J q1 q)
