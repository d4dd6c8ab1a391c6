theorem fwV_k {I X : MI} {b hn st y : Nat} {sh much : Int32} {at0 : Nat} (hk : Kp I X) (hb : b ≤ 28) (hy : y < 8) : fwV X b hn st y sh much at0 = fwV I b hn st y sh much at0 := by
  unfold fwV
  congr 1
  funext k
  have e : yGet X y = yGet I y := by
    unfold yGet
    rw [hk.cell (c := 126) (fun j s => by unfold scr at s; omega), hk.cell (c := 127) (fun j s => by unfold scr at s; omega)]
  rw [e, fwG_c (hk.L hb) hy]
theorem fwV_pos {I : MI} {b hn st y : Nat} {sh much : Int32} {at0 : Nat} : ¬ fwV I b hn st y sh much at0 ≤ 0 ↔ ¬ fwV I b hn st y sh much at0 = -1 := by
  rcases fstW_cases (fun k => whB (fwG I b y hn sh st much at0 (yGet I y) k)) 72 0 with q | ⟨j, q1, q2, q3, q4⟩
  · unfold fwV
    rw [q]
    decide
  · unfold fwV
    rw [q3]
    refine iff_of_true (nI_nle (by omega) (by omega)) (fun z => ?_)
    have := congrArg Int32.toInt z
    rw [nI_toInt (by omega)] at this
    have c : (-1 : Int32).toInt = -1 := by decide
    omega
theorem fwV_0 {I : MI} {b hn st y : Nat} {sh : Int32} {a c : Nat} : fwV I b hn st y sh 0 a = fwV I b hn st y sh 0 c := by
  unfold fwV
  congr 1
  funext k
  rw [fw_0 (at1 := c)]
/-- firstWhite of both, in a memory that keeps all but scratch -/
theorem kk_fw {I X : MI} {b yn wn hn sn st y : Nat} {r : MR} (J : MJ) (hr : RefOk r b) (h : RelL I b yn wn hn sn st) (hX : Kp I X) (hy : y < yn) {sh : Int32} (hsh : ShOk sh) {much : Int32} {at0 : Nat} (hm : 0 ≤ much.toInt ∧ much.toInt ≤ 99) (hat : at0 < 1000) : Cq yX7_firstWhite MX7_firstWhite [.ref 76, .ref 58, .int (nI y), .int sh, .int much, .int (nI at0)] X r J (Rk (fwV I b hn st y sh much at0) I r J) := by
  have hb := (refs_L hr).2
  refine cq_mono (fun v I' r' J' hv => ?_) (k_fw J hr (RelL_k hX hb h) hy hsh hm hat)
  obtain ⟨a1, ⟨G, a2⟩, a3, a4⟩ := hv
  rw [fwV_k hX hb (by have := h.1.2.2.1; omega)] at a1
  exact ⟨a1, hX.tr (by rw [a2]; exact Kp_77 G), a3, a4⟩
theorem kk_mfw {I X : MI} {b yn wn hn sn st y : Nat} (r : MR) (J : MJ) (hb : b ≤ 28) (h : RelL I b yn wn hn sn st) (hX : Kp I X) (hy : y < yn) {sh : Int32} (hsh : ShOk sh) {much sat : Int32} {at0 : Nat} (hm : 0 ≤ much.toInt ∧ much.toInt ≤ 99) (hat : ∀ k, k ≤ 72 → (sat = nI k ↔ k = at0)) : Cq yX12_firstWhite MX12_firstWhite [.ref 100, .int (nI y), .int sh, .int sat, .int much] X r J (Rk (fwV I b hn st y sh much at0) I r J) := by
  refine cq_mono (fun v I' r' J' hv => ?_) (k_mfw r J (RelL_k hX hb h) hy hsh hm hat)
  obtain ⟨a1, ⟨G, a2⟩, a3, a4⟩ := hv
  rw [fwV_k hX hb (by have := h.1.2.2.1; omega)] at a1
  exact ⟨a1, hX.tr (by rw [a2]; exact Kp_m G), a3, a4⟩
/-- by which slips of a set a yard comes to be white -/
def odB (I : MI) (b hn st y N : Nat) (i : Nat) : Bool := N.testBit i && !decide (fwV I b hn st y (I (b + 8) i) 0 0 = -1)
theorem sumW_s {I : MI} {b n : Nat} (p : Nat → Bool) : sumW I b p (n + 1) = sumW I b p n + (if p n then wgN I b n else 0) := rfl
set_option maxRecDepth 100000 in
theorem l_Xodds {I : MI} {b yn wn hn sn st : Nat} {r : MR} (J : MJ) (hr : RefOk r b) (h : RelL I b yn wn hn sn st) {y : Nat} (hy : y < yn) {N : Nat} (hN : N < 1000) (h1 : 1 ≤ sumW I b N.testBit sn) (pt k : Int32) : ∀ (f : Nat) (i : Nat) (X : MI) (_ : i + f = sn) (_ : Kp I X), Wq MX11_odds 44 [some (.ref 0), some (.int (nI y)), some (.int pt), some (.int k), some (.int (nI N)), some (.int (nI (sumW I b (odB I b hn st y N) i))), some (.int (nI i))] [] X r J (Rk (lowF (sumW I b (odB I b hn st y N) sn) (sumW I b N.testBit sn) pt) I r J) := by
  have hb28 := (refs_L hr).2
  have h8 : yn ≤ 8 := h.1.2.2.1
  have hs7 : sn ≤ 7 := h.2.1.2.2.2.1
  have hle1 := sumW_le h.2.1 (odB I b hn st y N) sn (Nat.le_refl _)
  have hle2 := sumW_le h.2.1 N.testBit sn (Nat.le_refl _)
  intro f
  induction f with
  | zero =>
    intro i X hik hX
    have hLX := RelL_k hX hb28 h
    have ecX : X b 12 = nI sn := hLX.2.1.2.2.1
    have hcX := hX.L hb28
    refine x_iload (q := 46) dX11_odds_44 rfl rfl ?_
    refine x_aload_n (q := 47) dX11_odds_46 rfl rfl ?_
    refine q_gr (K := 2) (b := b) (q := 50) dX11_odds_47 rfl cl_11 (by decide) tw_569 rfl rfl (by rw [← hr.1]; rfl) ?_
    refine q_gi (K := 12) (q := 53) dX11_odds_50 rfl cl_5 (by decide) tw_214 h.1.1 rfl ?_
    refine x_icmp_ge (t := 115) (q := 56) dX11_odds_53 (by decide) rfl (fun c53 => ?_) (fun c53 => absurd c53 (fun q => q (by rw [ecX]; exact nI_le (by omega) (by omega))))
    refine x_iload (q := 117) dX11_odds_115 rfl rfl ?_
    refine x_aload_n (q := 118) dX11_odds_117 rfl rfl ?_
    refine q_gr (K := 2) (b := b) (q := 121) dX11_odds_118 rfl cl_11 (by decide) tw_569 rfl rfl (by rw [← hr.1]; rfl) ?_
    refine x_iload (q := 123) dX11_odds_121 rfl rfl ?_
    refine q_callV (ci := 5) (N := 18) (T := TX5) (As := [.int (nI N)]) (rest := [.int (nI (sumW I b (odB I b hn st y N) i))]) (q := 126) dX11_odds_123 rfl okX5_weightOf tw_890 h.1.1 rfl (c_wof hLX.1.1 hLX.2.1 hN r J) rfl rfl (Nat.le_of_ble_eq_true rfl) ⟨by decide, by decide⟩ ⟨rfl, rfl⟩ (fun rv_ I_ r_ J_ hv_ => ?_)
    obtain ⟨a1_, a2_, a3_, a4_⟩ := hv_
    rw [sumW_k hX hb28] at a1_
    rw [a1_, a2_, a3_, a4_]
    show Wq MX11_odds 126 [some (.ref 0), some (.int (nI y)), some (.int pt), some (.int k), some (.int (nI N)), some (.int (nI (sumW I b (odB I b hn st y N) i))), some (.int (nI i))] [.int (nI (sumW I b N.testBit sn)), .int (nI (sumW I b (odB I b hn st y N) i))] X r J _
    refine x_iload_n (q := 127) dX11_odds_126 rfl rfl ?_
    refine q_callS (As := [.int (nI (sumW I b (odB I b hn st y N) i)), .int (nI (sumW I b N.testBit sn)), .int pt]) (rest := []) (q := 130) dX11_odds_127 rfl okX11_lowest tw_894 (by rw [show i = sn by omega]; exact c_lowest (by omega) (by omega) h1 pt X r J) rfl rfl (Nat.le_of_ble_eq_true rfl) ⟨by decide, by decide⟩ ⟨rfl, rfl⟩ (fun rv_ I_ r_ J_ hv_ => ?_)
    obtain ⟨a1_, a2_, a3_, a4_⟩ := hv_
    rw [a1_, a2_, a3_, a4_]
    show Wq MX11_odds 130 [some (.ref 0), some (.int (nI y)), some (.int pt), some (.int k), some (.int (nI N)), some (.int (nI (sumW I b (odB I b hn st y N) i))), some (.int (nI i))] [.int (lowF (sumW I b (odB I b hn st y N) sn) (sumW I b N.testBit sn) pt)] X r J _
    refine q_iret dX11_odds_130 rfl ?_
    exact ⟨rfl, hX, rfl, rfl⟩
  | succ f ih =>
    intro i X hik hX
    have hLX := RelL_k hX hb28 h
    have ecX : X b 12 = nI sn := hLX.2.1.2.2.1
    have hcX := hX.L hb28
    have hshI : ShOk (I (b + 8) i) := ((h.2.1.2.2.2.2.1 i (by omega)).1)
    have hci : (nI i).toNatClampNeg = i := nI_clamp (by omega)
    refine x_iload (q := 46) dX11_odds_44 rfl rfl ?_
    refine x_aload_n (q := 47) dX11_odds_46 rfl rfl ?_
    refine q_gr (K := 2) (b := b) (q := 50) dX11_odds_47 rfl cl_11 (by decide) tw_569 rfl rfl (by rw [← hr.1]; rfl) ?_
    refine q_gi (K := 12) (q := 53) dX11_odds_50 rfl cl_5 (by decide) tw_214 h.1.1 rfl ?_
    refine x_icmp_ge (t := 115) (q := 56) dX11_odds_53 (by decide) rfl (fun c53 => absurd c53 (by rw [ecX]; exact nI_ge (by omega) (by omega))) (fun c53 => ?_)
    refine x_iload (q := 58) dX11_odds_56 rfl rfl ?_
    refine x_iload (q := 60) dX11_odds_58 rfl rfl ?_
    refine x_ishr (q := 61) dX11_odds_60 rfl ?_
    refine x_iconst (1) (q := 62) dX11_odds_61 rfl (by decide) ?_
    refine x_iand (q := 63) dX11_odds_62 rfl ?_
    refine x_if_eq (t := 109) (q := 66) dX11_odds_63 (by decide) rfl (fun c63 => ?_) (fun c63 => ?_)
    · obtain ⟨v1, ev1⟩ : ∃ y : Int32, y = (nI i) + 1 := ⟨_, rfl⟩
      refine x_iinc (v := v1) (L2 := [some (.ref 0), some (.int (nI y)), some (.int pt), some (.int k), some (.int (nI N)), some (.int (nI (sumW I b (odB I b hn st y N) i))), some (.int v1)]) (q := 112) dX11_odds_109 rfl (by decide) rfl rfl (by rw [ev1]; rfl) rfl ?_
      refine x_goto (t := 44) dX11_odds_112 (by decide) ?_
      rw [show v1 = nI (i + 1) by rw [ev1, nI_p1]]
      have e9 : odB I b hn st y N i = false := by
        unfold odB
        first | rw [(bit_0 (by omega) (by omega)).mp c63, Bool.false_and] | (rw [decide_eq_true c91]; simp)
      have e8 : sumW I b (odB I b hn st y N) (i + 1) = sumW I b (odB I b hn st y N) i := by rw [sumW_s, e9]; rfl
      rw [← e8]
      exact ih (i + 1) X (by omega) hX
    · refine x_aload_n (q := 67) dX11_odds_66 rfl rfl ?_
      refine q_gr (K := 6) (b := 76) (q := 70) dX11_odds_67 rfl cl_11 (by decide) tw_573 rfl rfl rfl ?_
      refine x_aload_n (q := 71) dX11_odds_70 rfl rfl ?_
      refine q_gr (K := 5) (b := 58) (q := 74) dX11_odds_71 rfl cl_11 (by decide) tw_572 rfl rfl rfl ?_
      refine x_iload_n (q := 75) dX11_odds_74 rfl rfl ?_
      refine x_aload_n (q := 76) dX11_odds_75 rfl rfl ?_
      refine q_gr (K := 2) (b := b) (q := 79) dX11_odds_76 rfl cl_11 (by decide) tw_569 rfl rfl (by rw [← hr.1]; rfl) ?_
      refine q_gr (K := 10) (b := (b + 8)) (q := 82) dX11_odds_79 rfl cl_5 (by decide) tw_205 h.1.1 rfl (lr_w h.1.1 _).2.2.2.2.2.2.2.1 ?_
      refine x_iload (q := 84) dX11_odds_82 rfl rfl ?_
      refine q_iald (q := 85) dX11_odds_84 rfl (ls_w h.1.1).2.2.2.2.2.2.2.1 (vp_in_nI (by omega) (by decide)) ?_
      refine x_iconst (0) (q := 86) dX11_odds_85 rfl (by decide) ?_
      refine x_iconst (0) (q := 87) dX11_odds_86 rfl (by decide) ?_
      refine q_callV (ci := 7) (N := 1) (T := TX7) (As := [.ref 58, .int (nI y), .int (X (b + 8) (nI i).toNatClampNeg), .int 0, .int 0]) (rest := []) (q := 90) dX11_odds_87 rfl okX7_firstWhite tw_843 rfl rfl (by rw [hci, hcX (b + 8) ⟨by omega, by omega⟩]; exact kk_fw J hr h hX hy hshI (much := 0) (at0 := 0) (by decide) (by decide)) rfl rfl (Nat.le_of_ble_eq_true rfl) ⟨by decide, by decide⟩ ⟨rfl, rfl⟩ (fun rv_ Y r_ J_ hv_ => ?_)
      obtain ⟨a1_, hY, a3_, a4_⟩ := hv_
      rw [a1_, a3_, a4_]
      show Wq MX11_odds 90 [some (.ref 0), some (.int (nI y)), some (.int pt), some (.int k), some (.int (nI N)), some (.int (nI (sumW I b (odB I b hn st y N) i))), some (.int (nI i))] [.int (fwV I b hn st y (I (b + 8) i) 0 0)] Y r J _
      refine x_iconst (-1) (q := 91) dX11_odds_90 rfl (by decide) ?_
      refine x_icmp_eq (t := 109) (q := 94) dX11_odds_91 (by decide) rfl (fun c91 => ?_) (fun c91 => ?_)
      · obtain ⟨v2, ev2⟩ : ∃ y : Int32, y = (nI i) + 1 := ⟨_, rfl⟩
        refine x_iinc (v := v2) (L2 := [some (.ref 0), some (.int (nI y)), some (.int pt), some (.int k), some (.int (nI N)), some (.int (nI (sumW I b (odB I b hn st y N) i))), some (.int v2)]) (q := 112) dX11_odds_109 rfl (by decide) rfl rfl (by rw [ev2]; rfl) rfl ?_
        refine x_goto (t := 44) dX11_odds_112 (by decide) ?_
        rw [show v2 = nI (i + 1) by rw [ev2, nI_p1]]
        have e9 : odB I b hn st y N i = false := by
          unfold odB
          first | rw [(bit_0 (by omega) (by omega)).mp c63, Bool.false_and] | (rw [decide_eq_true c91]; simp)
        have e8 : sumW I b (odB I b hn st y N) (i + 1) = sumW I b (odB I b hn st y N) i := by rw [sumW_s, e9]; rfl
        rw [← e8]
        exact ih (i + 1) Y (by omega) hY
      · refine x_iload (q := 96) dX11_odds_94 rfl rfl ?_
        refine x_aload_n (q := 97) dX11_odds_96 rfl rfl ?_
        refine q_gr (K := 2) (b := b) (q := 100) dX11_odds_97 rfl cl_11 (by decide) tw_569 rfl rfl (by rw [← hr.1]; rfl) ?_
        refine q_gr (K := 11) (b := (b + 9)) (q := 103) dX11_odds_100 rfl cl_5 (by decide) tw_209 h.1.1 rfl (lr_w h.1.1 _).2.2.2.2.2.2.2.2 ?_
        refine x_iload (q := 105) dX11_odds_103 rfl rfl ?_
        refine q_iald (q := 106) dX11_odds_105 rfl (ls_w h.1.1).2.2.2.2.2.2.2.2 (vp_in_nI (by omega) (by decide)) ?_
        refine x_iadd (q := 107) dX11_odds_106 rfl ?_
        refine x_nmi (fun v3 ev3 => ?_)
        refine x_istore (L2 := [some (.ref 0), some (.int (nI y)), some (.int pt), some (.int k), some (.int (nI N)), some (.int v3), some (.int (nI i))]) (q := 109) dX11_odds_107 rfl (by decide) rfl rfl ?_
        obtain ⟨v4, ev4⟩ : ∃ y : Int32, y = (nI i) + 1 := ⟨_, rfl⟩
        refine x_iinc (v := v4) (L2 := [some (.ref 0), some (.int (nI y)), some (.int pt), some (.int k), some (.int (nI N)), some (.int v3), some (.int v4)]) (q := 112) dX11_odds_109 rfl (by decide) rfl rfl (by rw [ev4]; rfl) rfl ?_
        refine x_goto (t := 44) dX11_odds_112 (by decide) ?_
        rw [show v4 = nI (i + 1) by rw [ev4, nI_p1]]
        have e7 : N.testBit i = true := by
          cases q : N.testBit i
          · exact absurd ((bit_0 (by omega) (by omega)).mpr q) c63
          · rfl
        have e9 : odB I b hn st y N i = true := by
          unfold odB
          rw [e7, decide_eq_false c91]
          rfl
        have e8 : v3 = nI (sumW I b (odB I b hn st y N) (i + 1)) := by
          rw [ev3, hci, (hY).L hb28 (b + 9) ⟨by omega, by omega⟩, (wg_ok h.2.1 (by omega)).1, nI_add, sumW_s, if_pos e9]
        rw [e8]
        exact ih (i + 1) Y (by omega) hY
set_option maxRecDepth 100000 in
theorem c_Xodds_g {I : MI} {b yn wn hn sn st : Nat} {r : MR} (J : MJ) (hr : RefOk r b) (h : RelL I b yn wn hn sn st) {y : Nat} (hy : y < yn) {gn : Nat} (g1 : gn ≤ 30) (g2 : I 88 3 = nI gn) (g3 : I 100 72 = nI gn) (g4 : GlA I b yn hn sn gn) (pt k : Int32) (hp : 0 ≤ pt ∧ pt ≤ 1) (h0 : ¬ lftN I b hn sn gn k = 0) : Cq yX11_odds MX11_odds [.ref 0, .int (nI y), .int pt, .int k] I r J (Rk (lowF (sumW I b (odB I b hn st y (lftN I b hn sn gn k)) sn) (sumW I b (lftN I b hn sn gn k).testBit sn) pt) I r J) := by
  have hb0 : SH (r 0) = (15, 18) := by rw [hr.1]; exact (refs_L hr).1
  have h8 : yn ≤ 8 := h.1.2.2.1
  have ey : I (r 0) 1 = nI yn := by rw [hr.1]; exact h.1.2.1
  have em : I 100 41 = nI yn := h.2.2.1.1
  have hs7 : sn ≤ 7 := h.2.1.2.2.2.1
  have hlt := lftN_lt (I := I) (b := b) (hn := hn) (gn := gn) (k := k) hs7
  refine cq_of [some (.ref 0), some (.int (nI y)), some (.int pt), some (.int k), none, none, none] 3 (by decide +kernel) rfl rfl (Nat.le_of_ble_eq_true rfl) rfl ?_
  refine x_aload_n (q := 1) dX11_odds_0 rfl rfl ?_
  refine q_gr (K := 10) (b := 88) (q := 4) dX11_odds_1 rfl cl_11 (by decide) tw_577 rfl rfl rfl ?_
  refine x_iload_n (q := 5) dX11_odds_4 rfl rfl ?_
  refine x_aload_n (q := 6) dX11_odds_5 rfl rfl ?_
  refine q_gr (K := 2) (b := b) (q := 9) dX11_odds_6 rfl cl_11 (by decide) tw_569 rfl rfl (by rw [← hr.1]; rfl) ?_
  refine q_callV (ci := 2) (N := 9) (T := TX2) (As := [.int k, .ref b]) (rest := []) (q := 12) dX11_odds_9 rfl okX2_leftAt tw_886 rfl rfl (k_left r J h g1 g2 g4 k) rfl rfl (Nat.le_of_ble_eq_true rfl) ⟨by decide, by decide⟩ ⟨rfl, rfl⟩ (fun rv_ I_ r_ J_ hv_ => ?_)
  obtain ⟨a1_, a2_, a3_, a4_⟩ := hv_
  rw [a1_, a2_, a3_, a4_]
  show Wq MX11_odds 12 [some (.ref 0), some (.int (nI y)), some (.int pt), some (.int k), none, none, none] [.int (nI (lftN I b hn sn gn k))] I r J _
  refine x_istore (L2 := [some (.ref 0), some (.int (nI y)), some (.int pt), some (.int k), some (.int (nI (lftN I b hn sn gn k))), none, none]) (q := 14) dX11_odds_12 rfl (by decide) rfl rfl ?_
  refine x_aload_n (q := 15) dX11_odds_14 rfl rfl ?_
  refine x_iload_n (q := 16) dX11_odds_15 rfl rfl ?_
  refine q_callV (ci := 11) (N := 14) (T := TX11) (As := [.int (nI y)]) (rest := []) (q := 19) dX11_odds_16 rfl okX11_isYard tw_811 rfl rfl (c_isYard_g I r J hb0 ey h8 hy) rfl rfl (Nat.le_of_ble_eq_true rfl) ⟨by decide, by decide⟩ ⟨rfl, rfl⟩ (fun rv_ I_ r_ J_ hv_ => ?_)
  obtain ⟨a1_, a2_, a3_, a4_⟩ := hv_
  rw [a1_, a2_, a3_, a4_]
  show Wq MX11_odds 19 [some (.ref 0), some (.int (nI y)), some (.int pt), some (.int k), some (.int (nI (lftN I b hn sn gn k))), none, none] [.int 1] I r J _
  refine x_if_eq (t := 36) (q := 22) dX11_odds_19 (by decide) rfl (fun c19 => absurd c19 ((by decide))) (fun c19 => ?_)
  refine x_iload_n (q := 23) dX11_odds_22 rfl rfl ?_
  refine x_if_lt (t := 36) (q := 26) dX11_odds_23 (by decide) rfl (fun c23 => absurd c23 (Int32.not_lt.mpr hp.1)) (fun c23 => ?_)
  refine x_iload_n (q := 27) dX11_odds_26 rfl rfl ?_
  refine x_iconst (1) (q := 28) dX11_odds_27 rfl (by decide) ?_
  refine x_icmp_gt (t := 36) (q := 31) dX11_odds_28 (by decide) rfl (fun c28 => absurd c28 (Int32.not_lt.mpr hp.2)) (fun c28 => ?_)
  refine x_iload (q := 33) dX11_odds_31 rfl rfl ?_
  refine x_if_ne (t := 38) (q := 36) dX11_odds_33 (by decide) rfl (fun c33 => ?_) (fun c33 => absurd c33 (nI_ne0 (by omega) (by omega)))
  refine x_iconst (0) (q := 39) dX11_odds_38 rfl (by decide) ?_
  refine x_istore (L2 := [some (.ref 0), some (.int (nI y)), some (.int pt), some (.int k), some (.int (nI (lftN I b hn sn gn k))), some (.int 0), none]) (q := 41) dX11_odds_39 rfl (by decide) rfl rfl ?_
  refine x_iconst (0) (q := 42) dX11_odds_41 rfl (by decide) ?_
  refine x_istore (L2 := [some (.ref 0), some (.int (nI y)), some (.int pt), some (.int k), some (.int (nI (lftN I b hn sn gn k))), some (.int 0), some (.int 0)]) (q := 44) dX11_odds_42 rfl (by decide) rfl rfl ?_
  exact l_Xodds J hr h hy (N := lftN I b hn sn gn k) (by omega) (W_pos h.2.1 h0) pt k sn 0 I (by omega) Kp.rfl'
set_option maxRecDepth 100000 in
theorem c_Xodds_1 {I : MI} {b yn wn hn sn st : Nat} {r : MR} (J : MJ) (hr : RefOk r b) (h : RelL I b yn wn hn sn st) {x : Int32} (hno : ¬ ∃ k, k < yn ∧ x = nI k) {gn : Nat} (g1 : gn ≤ 30) (g2 : I 88 3 = nI gn) (g3 : I 100 72 = nI gn) (g4 : GlA I b yn hn sn gn) (pt k : Int32) : Cq yX11_odds MX11_odds [.ref 0, .int x, .int pt, .int k] I r J (Rk (-1) I r J) := by
  have hb0 : SH (r 0) = (15, 18) := by rw [hr.1]; exact (refs_L hr).1
  have h8 : yn ≤ 8 := h.1.2.2.1
  have ey : I (r 0) 1 = nI yn := by rw [hr.1]; exact h.1.2.1
  have em : I 100 41 = nI yn := h.2.2.1.1
  have hs7 : sn ≤ 7 := h.2.1.2.2.2.1
  have hlt := lftN_lt (I := I) (b := b) (hn := hn) (gn := gn) (k := k) hs7
  refine cq_of [some (.ref 0), some (.int x), some (.int pt), some (.int k), none, none, none] 3 (by decide +kernel) rfl rfl (Nat.le_of_ble_eq_true rfl) rfl ?_
  refine x_aload_n (q := 1) dX11_odds_0 rfl rfl ?_
  refine q_gr (K := 10) (b := 88) (q := 4) dX11_odds_1 rfl cl_11 (by decide) tw_577 rfl rfl rfl ?_
  refine x_iload_n (q := 5) dX11_odds_4 rfl rfl ?_
  refine x_aload_n (q := 6) dX11_odds_5 rfl rfl ?_
  refine q_gr (K := 2) (b := b) (q := 9) dX11_odds_6 rfl cl_11 (by decide) tw_569 rfl rfl (by rw [← hr.1]; rfl) ?_
  refine q_callV (ci := 2) (N := 9) (T := TX2) (As := [.int k, .ref b]) (rest := []) (q := 12) dX11_odds_9 rfl okX2_leftAt tw_886 rfl rfl (k_left r J h g1 g2 g4 k) rfl rfl (Nat.le_of_ble_eq_true rfl) ⟨by decide, by decide⟩ ⟨rfl, rfl⟩ (fun rv_ I_ r_ J_ hv_ => ?_)
  obtain ⟨a1_, a2_, a3_, a4_⟩ := hv_
  rw [a1_, a2_, a3_, a4_]
  show Wq MX11_odds 12 [some (.ref 0), some (.int x), some (.int pt), some (.int k), none, none, none] [.int (nI (lftN I b hn sn gn k))] I r J _
  refine x_istore (L2 := [some (.ref 0), some (.int x), some (.int pt), some (.int k), some (.int (nI (lftN I b hn sn gn k))), none, none]) (q := 14) dX11_odds_12 rfl (by decide) rfl rfl ?_
  refine x_aload_n (q := 15) dX11_odds_14 rfl rfl ?_
  refine x_iload_n (q := 16) dX11_odds_15 rfl rfl ?_
  refine q_callV (ci := 11) (N := 14) (T := TX11) (As := [.int x]) (rest := []) (q := 19) dX11_odds_16 rfl okX11_isYard tw_811 rfl rfl (c_isYard_b I r J hb0 ey h8 hno) rfl rfl (Nat.le_of_ble_eq_true rfl) ⟨by decide, by decide⟩ ⟨rfl, rfl⟩ (fun rv_ I_ r_ J_ hv_ => ?_)
  obtain ⟨a1_, a2_, a3_, a4_⟩ := hv_
  rw [a1_, a2_, a3_, a4_]
  show Wq MX11_odds 19 [some (.ref 0), some (.int x), some (.int pt), some (.int k), some (.int (nI (lftN I b hn sn gn k))), none, none] [.int 0] I r J _
  refine x_if_eq (t := 36) (q := 22) dX11_odds_19 (by decide) rfl (fun c19 => ?_) (fun c19 => absurd c19 ((by decide)))
  refine x_iconst (-1) (q := 37) dX11_odds_36 rfl (by decide) ?_
  refine q_iret dX11_odds_37 rfl ?_
  exact Rk_same
set_option maxRecDepth 100000 in
theorem c_Xodds_2 {I : MI} {b yn wn hn sn st : Nat} {r : MR} (J : MJ) (hr : RefOk r b) (h : RelL I b yn wn hn sn st) {y : Nat} (hy : y < yn) {gn : Nat} (g1 : gn ≤ 30) (g2 : I 88 3 = nI gn) (g3 : I 100 72 = nI gn) (g4 : GlA I b yn hn sn gn) (pt k : Int32) (hno : ¬ ((0 ≤ pt ∧ pt ≤ 1) ∧ ¬ lftN I b hn sn gn k = 0)) : Cq yX11_odds MX11_odds [.ref 0, .int (nI y), .int pt, .int k] I r J (Rk (-1) I r J) := by
  have hb0 : SH (r 0) = (15, 18) := by rw [hr.1]; exact (refs_L hr).1
  have h8 : yn ≤ 8 := h.1.2.2.1
  have ey : I (r 0) 1 = nI yn := by rw [hr.1]; exact h.1.2.1
  have em : I 100 41 = nI yn := h.2.2.1.1
  have hs7 : sn ≤ 7 := h.2.1.2.2.2.1
  have hlt := lftN_lt (I := I) (b := b) (hn := hn) (gn := gn) (k := k) hs7
  refine cq_of [some (.ref 0), some (.int (nI y)), some (.int pt), some (.int k), none, none, none] 3 (by decide +kernel) rfl rfl (Nat.le_of_ble_eq_true rfl) rfl ?_
  refine x_aload_n (q := 1) dX11_odds_0 rfl rfl ?_
  refine q_gr (K := 10) (b := 88) (q := 4) dX11_odds_1 rfl cl_11 (by decide) tw_577 rfl rfl rfl ?_
  refine x_iload_n (q := 5) dX11_odds_4 rfl rfl ?_
  refine x_aload_n (q := 6) dX11_odds_5 rfl rfl ?_
  refine q_gr (K := 2) (b := b) (q := 9) dX11_odds_6 rfl cl_11 (by decide) tw_569 rfl rfl (by rw [← hr.1]; rfl) ?_
  refine q_callV (ci := 2) (N := 9) (T := TX2) (As := [.int k, .ref b]) (rest := []) (q := 12) dX11_odds_9 rfl okX2_leftAt tw_886 rfl rfl (k_left r J h g1 g2 g4 k) rfl rfl (Nat.le_of_ble_eq_true rfl) ⟨by decide, by decide⟩ ⟨rfl, rfl⟩ (fun rv_ I_ r_ J_ hv_ => ?_)
  obtain ⟨a1_, a2_, a3_, a4_⟩ := hv_
  rw [a1_, a2_, a3_, a4_]
  show Wq MX11_odds 12 [some (.ref 0), some (.int (nI y)), some (.int pt), some (.int k), none, none, none] [.int (nI (lftN I b hn sn gn k))] I r J _
  refine x_istore (L2 := [some (.ref 0), some (.int (nI y)), some (.int pt), some (.int k), some (.int (nI (lftN I b hn sn gn k))), none, none]) (q := 14) dX11_odds_12 rfl (by decide) rfl rfl ?_
  refine x_aload_n (q := 15) dX11_odds_14 rfl rfl ?_
  refine x_iload_n (q := 16) dX11_odds_15 rfl rfl ?_
  refine q_callV (ci := 11) (N := 14) (T := TX11) (As := [.int (nI y)]) (rest := []) (q := 19) dX11_odds_16 rfl okX11_isYard tw_811 rfl rfl (c_isYard_g I r J hb0 ey h8 hy) rfl rfl (Nat.le_of_ble_eq_true rfl) ⟨by decide, by decide⟩ ⟨rfl, rfl⟩ (fun rv_ I_ r_ J_ hv_ => ?_)
  obtain ⟨a1_, a2_, a3_, a4_⟩ := hv_
  rw [a1_, a2_, a3_, a4_]
  show Wq MX11_odds 19 [some (.ref 0), some (.int (nI y)), some (.int pt), some (.int k), some (.int (nI (lftN I b hn sn gn k))), none, none] [.int 1] I r J _
  refine x_if_eq (t := 36) (q := 22) dX11_odds_19 (by decide) rfl (fun c19 => absurd c19 ((by decide))) (fun c19 => ?_)
  refine x_iload_n (q := 23) dX11_odds_22 rfl rfl ?_
  refine x_if_lt (t := 36) (q := 26) dX11_odds_23 (by decide) rfl (fun c23 => ?_) (fun c23 => ?_)
  · refine x_iconst (-1) (q := 37) dX11_odds_36 rfl (by decide) ?_
    refine q_iret dX11_odds_37 rfl ?_
    exact Rk_same
  · refine x_iload_n (q := 27) dX11_odds_26 rfl rfl ?_
    refine x_iconst (1) (q := 28) dX11_odds_27 rfl (by decide) ?_
    refine x_icmp_gt (t := 36) (q := 31) dX11_odds_28 (by decide) rfl (fun c28 => ?_) (fun c28 => ?_)
    · refine x_iconst (-1) (q := 37) dX11_odds_36 rfl (by decide) ?_
      refine q_iret dX11_odds_37 rfl ?_
      exact Rk_same
    · refine x_iload (q := 33) dX11_odds_31 rfl rfl ?_
      refine x_if_ne (t := 38) (q := 36) dX11_odds_33 (by decide) rfl (fun c33 => ?_) (fun c33 => ?_)
      · exact absurd ⟨⟨Int32.not_lt.mp c23, Int32.not_lt.mp c28⟩, fun z => c33 (by rw [z]; rfl)⟩ hno
      · refine x_iconst (-1) (q := 37) dX11_odds_36 rfl (by decide) ?_
        refine q_iret dX11_odds_37 rfl ?_
        exact Rk_same
set_option maxRecDepth 100000 in
theorem l_Modds {I : MI} {b yn wn hn sn st : Nat} (hb : b ≤ 28) (r : MR) (J : MJ) (h : RelL I b yn wn hn sn st) {y : Nat} (hy : y < yn) {N : Nat} (hN : N < 1000) (h1 : 1 ≤ sumW I b N.testBit sn) (pt k : Int32) : ∀ (f : Nat) (i : Nat) (X : MI) (_ : i + f = sn) (_ : Kp I X), Wq MX12_odds 47 [some (.ref 100), some (.int (nI y)), some (.int pt), some (.int k), some (.int (nI N)), some (.int (nI (sumW I b N.testBit sn))), some (.int (nI (sumW I b (odB I b hn st y N) i))), some (.int (nI i))] [] X r J (Rk (lowF (sumW I b (odB I b hn st y N) sn) (sumW I b N.testBit sn) pt) I r J) := by
  have h8 : yn ≤ 8 := h.1.2.2.1
  have hs7 : sn ≤ 7 := h.2.1.2.2.2.1
  have hle1 := sumW_le h.2.1 (odB I b hn st y N) sn (Nat.le_refl _)
  have hle2 := sumW_le h.2.1 N.testBit sn (Nat.le_refl _)
  have hp : 0 < Nat.gcd (sumW I b (odB I b hn st y N) sn) (sumW I b N.testBit sn) := Nat.gcd_pos_of_pos_right _ h1
  have hpl : Nat.gcd (sumW I b (odB I b hn st y N) sn) (sumW I b N.testBit sn) ≤ sumW I b N.testBit sn := Nat.gcd_le_right _ h1
  intro f
  induction f with
  | zero =>
    intro i X hik hX
    have hLX := RelL_k hX hb h
    have ecX : X 100 44 = nI sn := hLX.2.2.2.1.2.1
    refine x_iload (q := 49) dX12_odds_47 rfl rfl ?_
    refine x_aload_n (q := 50) dX12_odds_49 rfl rfl ?_
    refine q_gi (K := 44) (q := 53) dX12_odds_50 rfl cl_12 (by decide) tw_1126 rfl rfl ?_
    refine x_icmp_ge (t := 106) (q := 56) dX12_odds_53 (by decide) rfl (fun c53 => ?_) (fun c53 => absurd c53 (fun q => q (by rw [ecX]; exact nI_le (by omega) (by omega))))
    refine x_iload (q := 108) dX12_odds_106 rfl rfl ?_
    refine x_iload (q := 110) dX12_odds_108 rfl rfl ?_
    refine q_callS (As := [.int (nI (sumW I b N.testBit sn)), .int (nI (sumW I b (odB I b hn st y N) i))]) (rest := []) (q := 113) dX12_odds_110 rfl okX12_common tw_1556 (by rw [show i = sn by omega]; have q := c_common (a := sumW I b N.testBit sn) (b := sumW I b (odB I b hn st y N) sn) (by omega) (by omega) X r J; rw [Nat.gcd_comm] at q; exact q) rfl rfl (Nat.le_of_ble_eq_true rfl) ⟨by decide, by decide⟩ ⟨rfl, rfl⟩ (fun rv_ I_ r_ J_ hv_ => ?_)
    obtain ⟨a1_, a2_, a3_, a4_⟩ := hv_
    rw [a1_, a2_, a3_, a4_]
    show Wq MX12_odds 113 [some (.ref 100), some (.int (nI y)), some (.int pt), some (.int k), some (.int (nI N)), some (.int (nI (sumW I b N.testBit sn))), some (.int (nI (sumW I b (odB I b hn st y N) i))), some (.int (nI i))] [.int (nI (Nat.gcd (sumW I b (odB I b hn st y N) sn) (sumW I b N.testBit sn)))] X r J _
    refine x_istore (L2 := [some (.ref 100), some (.int (nI y)), some (.int pt), some (.int k), some (.int (nI N)), some (.int (nI (sumW I b N.testBit sn))), some (.int (nI (sumW I b (odB I b hn st y N) i))), some (.int (nI (Nat.gcd (sumW I b (odB I b hn st y N) sn) (sumW I b N.testBit sn))))]) (q := 115) dX12_odds_113 rfl (by decide) rfl rfl ?_
    refine x_iload_n (q := 116) dX12_odds_115 rfl rfl ?_
    refine x_if_ne (t := 127) (q := 119) dX12_odds_116 (by decide) rfl (fun c116 => ?_) (fun c116 => ?_)
    · refine x_iload (q := 129) dX12_odds_127 rfl rfl ?_
      refine x_iload (q := 131) dX12_odds_129 rfl rfl ?_
      refine x_idiv (q := 132) dX12_odds_131 rfl (nI_ne0 hp (by omega)) ?_
      refine q_iret dX12_odds_132 rfl ?_
      try rw [show i = sn by omega]
      rw [pk_div (by omega) hp (by omega)]
      unfold lowF
      first | rw [if_pos c116] | rw [if_neg c116]
      exact ⟨rfl, hX, rfl, rfl⟩
    · refine x_iload (q := 121) dX12_odds_119 rfl rfl ?_
      refine x_iload (q := 123) dX12_odds_121 rfl rfl ?_
      refine x_idiv (q := 124) dX12_odds_123 rfl (nI_ne0 hp (by omega)) ?_
      refine x_goto (t := 132) dX12_odds_124 (by decide) ?_
      refine q_iret dX12_odds_132 rfl ?_
      try rw [show i = sn by omega]
      rw [pk_div (by omega) hp (by omega)]
      unfold lowF
      first | rw [if_pos c116] | rw [if_neg c116]
      exact ⟨rfl, hX, rfl, rfl⟩
  | succ f ih =>
    intro i X hik hX
    have hLX := RelL_k hX hb h
    have ecX : X 100 44 = nI sn := hLX.2.2.2.1.2.1
    have hshI : ShOk (I (b + 8) i) := ((h.2.1.2.2.2.2.1 i (by omega)).1)
    have hci : (nI i).toNatClampNeg = i := nI_clamp (by omega)
    have esl : X 123 i = I (b + 8) i := by rw [hX 123 i (by unfold scr; omega)]; exact (h.2.2.2.1.2.2.2.2.2.1 i (by omega)).1
    refine x_iload (q := 49) dX12_odds_47 rfl rfl ?_
    refine x_aload_n (q := 50) dX12_odds_49 rfl rfl ?_
    refine q_gi (K := 44) (q := 53) dX12_odds_50 rfl cl_12 (by decide) tw_1126 rfl rfl ?_
    refine x_icmp_ge (t := 106) (q := 56) dX12_odds_53 (by decide) rfl (fun c53 => absurd c53 (by rw [ecX]; exact nI_ge (by omega) (by omega))) (fun c53 => ?_)
    refine x_iload (q := 58) dX12_odds_56 rfl rfl ?_
    refine x_iload (q := 60) dX12_odds_58 rfl rfl ?_
    refine x_iload (q := 62) dX12_odds_60 rfl rfl ?_
    refine x_ishr (q := 63) dX12_odds_62 rfl ?_
    refine x_iconst (1) (q := 64) dX12_odds_63 rfl (by decide) ?_
    refine x_iand (q := 65) dX12_odds_64 rfl ?_
    refine x_iconst (1) (q := 66) dX12_odds_65 rfl (by decide) ?_
    refine x_icmp_ne (t := 96) (q := 69) dX12_odds_66 (by decide) rfl (fun c66 => ?_) (fun c66 => ?_)
    · refine x_iconst (0) (q := 97) dX12_odds_96 rfl (by decide) ?_
      refine x_iadd (q := 98) dX12_odds_97 rfl ?_
      refine x_nmi (fun v1 ev1 => ?_)
      refine x_istore (L2 := [some (.ref 100), some (.int (nI y)), some (.int pt), some (.int k), some (.int (nI N)), some (.int (nI (sumW I b N.testBit sn))), some (.int v1), some (.int (nI i))]) (q := 100) dX12_odds_98 rfl (by decide) rfl rfl ?_
      obtain ⟨v2, ev2⟩ : ∃ y : Int32, y = (nI i) + 1 := ⟨_, rfl⟩
      refine x_iinc (v := v2) (L2 := [some (.ref 100), some (.int (nI y)), some (.int pt), some (.int k), some (.int (nI N)), some (.int (nI (sumW I b N.testBit sn))), some (.int v1), some (.int v2)]) (q := 103) dX12_odds_100 rfl (by decide) rfl rfl (by rw [ev2]; rfl) rfl ?_
      refine x_goto (t := 47) dX12_odds_103 (by decide) ?_
      rw [show v2 = nI (i + 1) by rw [ev2, nI_p1]]
      have e7 : N.testBit i = false := by
        cases q : N.testBit i
        · rfl
        · exact absurd ((bit_1 (by omega) (by omega)).mpr q) c66
      have e9 : v1 = nI (sumW I b (odB I b hn st y N) (i + 1)) := by
        have q : odB I b hn st y N i = false := by unfold odB; rw [e7, Bool.false_and]
        rw [sumW_s, q, ev1]
        exact nI_add _ 0
      rw [e9]
      exact ih (i + 1) X (by omega) hX
    · refine x_aload_n (q := 70) dX12_odds_69 rfl rfl ?_
      refine x_iload_n (q := 71) dX12_odds_70 rfl rfl ?_
      refine x_aload_n (q := 72) dX12_odds_71 rfl rfl ?_
      refine q_gr (K := 31) (b := 123) (q := 75) dX12_odds_72 rfl cl_12 (by decide) tw_1113 rfl rfl rfl ?_
      refine x_iload (q := 77) dX12_odds_75 rfl rfl ?_
      refine q_iald (q := 78) dX12_odds_77 rfl rfl (vp_in_nI (by omega) (by decide)) ?_
      refine x_iconst (0) (q := 79) dX12_odds_78 rfl (by decide) ?_
      refine x_iconst (0) (q := 80) dX12_odds_79 rfl (by decide) ?_
      refine q_callV (ci := 12) (N := 79) (T := TX12) (As := [.int (nI y), .int (X 123 (nI i).toNatClampNeg), .int 0, .int 0]) (rest := [.int (nI (sumW I b (odB I b hn st y N) i))]) (q := 83) dX12_odds_80 rfl okX12_firstWhite tw_1512 rfl rfl (by rw [hci, esl]; exact kk_mfw r J hb h hX hy hshI (much := 0) (sat := 0) (at0 := 0) (by decide) (at_nI (by decide))) rfl rfl (Nat.le_of_ble_eq_true rfl) ⟨by decide, by decide⟩ ⟨rfl, rfl⟩ (fun rv_ Y r_ J_ hv_ => ?_)
      obtain ⟨a1_, hY, a3_, a4_⟩ := hv_
      rw [a1_, a3_, a4_]
      show Wq MX12_odds 83 [some (.ref 100), some (.int (nI y)), some (.int pt), some (.int k), some (.int (nI N)), some (.int (nI (sumW I b N.testBit sn))), some (.int (nI (sumW I b (odB I b hn st y N) i))), some (.int (nI i))] [.int (fwV I b hn st y (I (b + 8) i) 0 0), .int (nI (sumW I b (odB I b hn st y N) i))] Y r J _
      refine x_if_le (t := 96) (q := 86) dX12_odds_83 (by decide) rfl (fun c83 => ?_) (fun c83 => ?_)
      · refine x_iconst (0) (q := 97) dX12_odds_96 rfl (by decide) ?_
        refine x_iadd (q := 98) dX12_odds_97 rfl ?_
        refine x_nmi (fun v3 ev3 => ?_)
        refine x_istore (L2 := [some (.ref 100), some (.int (nI y)), some (.int pt), some (.int k), some (.int (nI N)), some (.int (nI (sumW I b N.testBit sn))), some (.int v3), some (.int (nI i))]) (q := 100) dX12_odds_98 rfl (by decide) rfl rfl ?_
        obtain ⟨v4, ev4⟩ : ∃ y : Int32, y = (nI i) + 1 := ⟨_, rfl⟩
        refine x_iinc (v := v4) (L2 := [some (.ref 100), some (.int (nI y)), some (.int pt), some (.int k), some (.int (nI N)), some (.int (nI (sumW I b N.testBit sn))), some (.int v3), some (.int v4)]) (q := 103) dX12_odds_100 rfl (by decide) rfl rfl (by rw [ev4]; rfl) rfl ?_
        refine x_goto (t := 47) dX12_odds_103 (by decide) ?_
        rw [show v4 = nI (i + 1) by rw [ev4, nI_p1]]
        have e7 : N.testBit i = true := (bit_1 (by omega) (by omega)).mp (by first | exact c66 | exact Classical.not_not.mp c66)
        have e9 : v3 = nI (sumW I b (odB I b hn st y N) (i + 1)) := by
          rw [sumW_s]
          first | (have q : odB I b hn st y N i = true := by (unfold odB; rw [e7, decide_eq_false (fwV_pos.mp c83)]; rfl)) | (have q : odB I b hn st y N i = false := by (unfold odB; rw [e7, decide_eq_true (Classical.not_not.mp (fun z => absurd c83 (fwV_pos.mpr z)))]; rfl))
          rw [ev3, q]
          first | exact nI_add _ 0 | (rw [hci, hY 124 i (by unfold scr; omega), (h.2.2.2.1.2.2.2.2.2.1 i (by omega)).2, (wg_ok h.2.1 (by omega)).1, nI_add, if_pos rfl])
        rw [e9]
        exact ih (i + 1) Y (by omega) hY
      · refine x_aload_n (q := 87) dX12_odds_86 rfl rfl ?_
        refine q_gr (K := 32) (b := 124) (q := 90) dX12_odds_87 rfl cl_12 (by decide) tw_1114 rfl rfl rfl ?_
        refine x_iload (q := 92) dX12_odds_90 rfl rfl ?_
        refine q_iald (q := 93) dX12_odds_92 rfl rfl (vp_in_nI (by omega) (by decide)) ?_
        refine x_goto (t := 97) dX12_odds_93 (by decide) ?_
        refine x_iadd (q := 98) dX12_odds_97 rfl ?_
        refine x_nmi (fun v5 ev5 => ?_)
        refine x_istore (L2 := [some (.ref 100), some (.int (nI y)), some (.int pt), some (.int k), some (.int (nI N)), some (.int (nI (sumW I b N.testBit sn))), some (.int v5), some (.int (nI i))]) (q := 100) dX12_odds_98 rfl (by decide) rfl rfl ?_
        obtain ⟨v6, ev6⟩ : ∃ y : Int32, y = (nI i) + 1 := ⟨_, rfl⟩
        refine x_iinc (v := v6) (L2 := [some (.ref 100), some (.int (nI y)), some (.int pt), some (.int k), some (.int (nI N)), some (.int (nI (sumW I b N.testBit sn))), some (.int v5), some (.int v6)]) (q := 103) dX12_odds_100 rfl (by decide) rfl rfl (by rw [ev6]; rfl) rfl ?_
        refine x_goto (t := 47) dX12_odds_103 (by decide) ?_
        rw [show v6 = nI (i + 1) by rw [ev6, nI_p1]]
        have e7 : N.testBit i = true := (bit_1 (by omega) (by omega)).mp (by first | exact c66 | exact Classical.not_not.mp c66)
        have e9 : v5 = nI (sumW I b (odB I b hn st y N) (i + 1)) := by
          rw [sumW_s]
          first | (have q : odB I b hn st y N i = true := by (unfold odB; rw [e7, decide_eq_false (fwV_pos.mp c83)]; rfl)) | (have q : odB I b hn st y N i = false := by (unfold odB; rw [e7, decide_eq_true (Classical.not_not.mp (fun z => absurd c83 (fwV_pos.mpr z)))]; rfl))
          rw [ev5, q]
          first | exact nI_add _ 0 | (rw [hci, hY 124 i (by unfold scr; omega), (h.2.2.2.1.2.2.2.2.2.1 i (by omega)).2, (wg_ok h.2.1 (by omega)).1, nI_add, if_pos rfl])
        rw [e9]
        exact ih (i + 1) Y (by omega) hY
set_option maxRecDepth 100000 in
theorem c_Modds_g {I : MI} {b yn wn hn sn st : Nat} (hb : b ≤ 28) (r : MR) (J : MJ) (h : RelL I b yn wn hn sn st) {y : Nat} (hy : y < yn) {gn : Nat} (g1 : gn ≤ 30) (g3 : I 100 72 = nI gn) (g4 : GlA I b yn hn sn gn) (pt k : Int32) (hp : 0 ≤ pt ∧ pt ≤ 1) (h0 : ¬ lftN I b hn sn gn k = 0) : Cq yX12_odds MX12_odds [.ref 100, .int (nI y), .int pt, .int k] I r J (Rk (lowF (sumW I b (odB I b hn st y (lftN I b hn sn gn k)) sn) (sumW I b (lftN I b hn sn gn k).testBit sn) pt) I r J) := by
  have h8 : yn ≤ 8 := h.1.2.2.1
  have em : I 100 41 = nI yn := h.2.2.1.1
  have hs7 : sn ≤ 7 := h.2.1.2.2.2.1
  have hlt := lftN_lt (I := I) (b := b) (hn := hn) (gn := gn) (k := k) hs7
  refine cq_of [some (.ref 100), some (.int (nI y)), some (.int pt), some (.int k), none, none, none, none] 4 (by decide +kernel) rfl rfl (Nat.le_of_ble_eq_true rfl) rfl ?_
  refine x_aload_n (q := 1) dX12_odds_0 rfl rfl ?_
  refine x_iload_n (q := 2) dX12_odds_1 rfl rfl ?_
  refine q_callV (ci := 12) (N := 79) (T := TX12) (As := [.int (nI y)]) (rest := []) (q := 5) dX12_odds_2 rfl okX12_isYard tw_1485 rfl rfl (c_mYard_g I r J em h8 hy) rfl rfl (Nat.le_of_ble_eq_true rfl) ⟨by decide, by decide⟩ ⟨rfl, rfl⟩ (fun rv_ I_ r_ J_ hv_ => ?_)
  obtain ⟨a1_, a2_, a3_, a4_⟩ := hv_
  rw [a1_, a2_, a3_, a4_]
  show Wq MX12_odds 5 [some (.ref 100), some (.int (nI y)), some (.int pt), some (.int k), none, none, none, none] [.int 1] I r J _
  refine x_if_eq (t := 17) (q := 8) dX12_odds_5 (by decide) rfl (fun c5 => absurd c5 ((by decide))) (fun c5 => ?_)
  refine x_iload_n (q := 9) dX12_odds_8 rfl rfl ?_
  refine x_iconst (0) (q := 10) dX12_odds_9 rfl (by decide) ?_
  refine x_iconst (1) (q := 11) dX12_odds_10 rfl (by decide) ?_
  refine q_callS (As := [.int pt, .int 0, .int 1]) (rest := []) (q := 14) dX12_odds_11 rfl okX12_isIn tw_1450 (c_isIn_g I r J hp.1 hp.2) rfl rfl (Nat.le_of_ble_eq_true rfl) ⟨by decide, by decide⟩ ⟨rfl, rfl⟩ (fun rv_ I_ r_ J_ hv_ => ?_)
  obtain ⟨a1_, a2_, a3_, a4_⟩ := hv_
  rw [a1_, a2_, a3_, a4_]
  show Wq MX12_odds 14 [some (.ref 100), some (.int (nI y)), some (.int pt), some (.int k), none, none, none, none] [.int 1] I r J _
  refine x_if_ne (t := 19) (q := 17) dX12_odds_14 (by decide) rfl (fun c14 => ?_) (fun c14 => absurd c14 ((by decide)))
  refine x_aload_n (q := 20) dX12_odds_19 rfl rfl ?_
  refine x_iload_n (q := 21) dX12_odds_20 rfl rfl ?_
  refine q_callV (ci := 12) (N := 79) (T := TX12) (As := [.int k]) (rest := []) (q := 24) dX12_odds_21 rfl okX12_left tw_1532 rfl rfl (c_Mleft hb h g1 g3 g4 k r J) rfl rfl (Nat.le_of_ble_eq_true rfl) ⟨by decide, by decide⟩ ⟨rfl, rfl⟩ (fun rv_ X r_ J_ hv_ => ?_)
  obtain ⟨a1_, hX, a3_, a4_⟩ := hv_
  rw [a1_, a3_, a4_]
  show Wq MX12_odds 24 [some (.ref 100), some (.int (nI y)), some (.int pt), some (.int k), none, none, none, none] [.int (nI (lftN I b hn sn gn k))] X r J _
  refine x_istore (L2 := [some (.ref 100), some (.int (nI y)), some (.int pt), some (.int k), some (.int (nI (lftN I b hn sn gn k))), none, none, none]) (q := 26) dX12_odds_24 rfl (by decide) rfl rfl ?_
  refine x_iload (q := 28) dX12_odds_26 rfl rfl ?_
  refine x_if_ne (t := 33) (q := 31) dX12_odds_28 (by decide) rfl (fun c28 => ?_) (fun c28 => absurd c28 (nI_ne0 (by omega) (by omega)))
  refine x_aload_n (q := 34) dX12_odds_33 rfl rfl ?_
  refine x_iload (q := 36) dX12_odds_34 rfl rfl ?_
  refine q_callV (ci := 12) (N := 79) (T := TX12) (As := [.int (nI (lftN I b hn sn gn k))]) (rest := []) (q := 39) dX12_odds_36 rfl okX12_weightOf tw_1552 rfl rfl (c_mwof (RelL_k hX hb h).2.1 (RelL_k hX hb h).2.2.2.1 (N := lftN I b hn sn gn k) (by omega) r J) rfl rfl (Nat.le_of_ble_eq_true rfl) ⟨by decide, by decide⟩ ⟨rfl, rfl⟩ (fun rv_ I_ r_ J_ hv_ => ?_)
  obtain ⟨a1_, a2_, a3_, a4_⟩ := hv_
  rw [sumW_k hX hb] at a1_
  rw [a1_, a2_, a3_, a4_]
  show Wq MX12_odds 39 [some (.ref 100), some (.int (nI y)), some (.int pt), some (.int k), some (.int (nI (lftN I b hn sn gn k))), none, none, none] [.int (nI (sumW I b (lftN I b hn sn gn k).testBit sn))] X r J _
  refine x_istore (L2 := [some (.ref 100), some (.int (nI y)), some (.int pt), some (.int k), some (.int (nI (lftN I b hn sn gn k))), some (.int (nI (sumW I b (lftN I b hn sn gn k).testBit sn))), none, none]) (q := 41) dX12_odds_39 rfl (by decide) rfl rfl ?_
  refine x_iconst (0) (q := 42) dX12_odds_41 rfl (by decide) ?_
  refine x_istore (L2 := [some (.ref 100), some (.int (nI y)), some (.int pt), some (.int k), some (.int (nI (lftN I b hn sn gn k))), some (.int (nI (sumW I b (lftN I b hn sn gn k).testBit sn))), some (.int 0), none]) (q := 44) dX12_odds_42 rfl (by decide) rfl rfl ?_
  refine x_iconst (0) (q := 45) dX12_odds_44 rfl (by decide) ?_
  refine x_istore (L2 := [some (.ref 100), some (.int (nI y)), some (.int pt), some (.int k), some (.int (nI (lftN I b hn sn gn k))), some (.int (nI (sumW I b (lftN I b hn sn gn k).testBit sn))), some (.int 0), some (.int 0)]) (q := 47) dX12_odds_45 rfl (by decide) rfl rfl ?_
  exact l_Modds hb r J h hy (N := lftN I b hn sn gn k) (by omega) (W_pos h.2.1 h0) pt k sn 0 X (by omega) hX
set_option maxRecDepth 100000 in
theorem c_Modds_1 {I : MI} {b yn wn hn sn st : Nat} (hb : b ≤ 28) (r : MR) (J : MJ) (h : RelL I b yn wn hn sn st) {x : Int32} (hno : ¬ ∃ k, k < yn ∧ x = nI k) {gn : Nat} (g1 : gn ≤ 30) (g3 : I 100 72 = nI gn) (g4 : GlA I b yn hn sn gn) (pt k : Int32) : Cq yX12_odds MX12_odds [.ref 100, .int x, .int pt, .int k] I r J (Rk (-1) I r J) := by
  have h8 : yn ≤ 8 := h.1.2.2.1
  have em : I 100 41 = nI yn := h.2.2.1.1
  have hs7 : sn ≤ 7 := h.2.1.2.2.2.1
  have hlt := lftN_lt (I := I) (b := b) (hn := hn) (gn := gn) (k := k) hs7
  refine cq_of [some (.ref 100), some (.int x), some (.int pt), some (.int k), none, none, none, none] 4 (by decide +kernel) rfl rfl (Nat.le_of_ble_eq_true rfl) rfl ?_
  refine x_aload_n (q := 1) dX12_odds_0 rfl rfl ?_
  refine x_iload_n (q := 2) dX12_odds_1 rfl rfl ?_
  refine q_callV (ci := 12) (N := 79) (T := TX12) (As := [.int x]) (rest := []) (q := 5) dX12_odds_2 rfl okX12_isYard tw_1485 rfl rfl (c_mYard_b I r J em h8 hno) rfl rfl (Nat.le_of_ble_eq_true rfl) ⟨by decide, by decide⟩ ⟨rfl, rfl⟩ (fun rv_ I_ r_ J_ hv_ => ?_)
  obtain ⟨a1_, a2_, a3_, a4_⟩ := hv_
  rw [a1_, a2_, a3_, a4_]
  show Wq MX12_odds 5 [some (.ref 100), some (.int x), some (.int pt), some (.int k), none, none, none, none] [.int 0] I r J _
  refine x_if_eq (t := 17) (q := 8) dX12_odds_5 (by decide) rfl (fun c5 => ?_) (fun c5 => absurd c5 ((by decide)))
  refine x_iconst (-1) (q := 18) dX12_odds_17 rfl (by decide) ?_
  refine q_iret dX12_odds_18 rfl ?_
  exact Rk_same
set_option maxRecDepth 100000 in
theorem c_Modds_2 {I : MI} {b yn wn hn sn st : Nat} (hb : b ≤ 28) (r : MR) (J : MJ) (h : RelL I b yn wn hn sn st) {y : Nat} (hy : y < yn) {gn : Nat} (g1 : gn ≤ 30) (g3 : I 100 72 = nI gn) (g4 : GlA I b yn hn sn gn) (pt k : Int32) (hno : ¬ ((0 ≤ pt ∧ pt ≤ 1) ∧ ¬ lftN I b hn sn gn k = 0)) : Cq yX12_odds MX12_odds [.ref 100, .int (nI y), .int pt, .int k] I r J (Rk (-1) I r J) := by
  have h8 : yn ≤ 8 := h.1.2.2.1
  have em : I 100 41 = nI yn := h.2.2.1.1
  have hs7 : sn ≤ 7 := h.2.1.2.2.2.1
  have hlt := lftN_lt (I := I) (b := b) (hn := hn) (gn := gn) (k := k) hs7
  refine cq_of [some (.ref 100), some (.int (nI y)), some (.int pt), some (.int k), none, none, none, none] 4 (by decide +kernel) rfl rfl (Nat.le_of_ble_eq_true rfl) rfl ?_
  refine x_aload_n (q := 1) dX12_odds_0 rfl rfl ?_
  refine x_iload_n (q := 2) dX12_odds_1 rfl rfl ?_
  refine q_callV (ci := 12) (N := 79) (T := TX12) (As := [.int (nI y)]) (rest := []) (q := 5) dX12_odds_2 rfl okX12_isYard tw_1485 rfl rfl (c_mYard_g I r J em h8 hy) rfl rfl (Nat.le_of_ble_eq_true rfl) ⟨by decide, by decide⟩ ⟨rfl, rfl⟩ (fun rv_ I_ r_ J_ hv_ => ?_)
  obtain ⟨a1_, a2_, a3_, a4_⟩ := hv_
  rw [a1_, a2_, a3_, a4_]
  show Wq MX12_odds 5 [some (.ref 100), some (.int (nI y)), some (.int pt), some (.int k), none, none, none, none] [.int 1] I r J _
  refine x_if_eq (t := 17) (q := 8) dX12_odds_5 (by decide) rfl (fun c5 => absurd c5 ((by decide))) (fun c5 => ?_)
  refine x_iload_n (q := 9) dX12_odds_8 rfl rfl ?_
  refine x_iconst (0) (q := 10) dX12_odds_9 rfl (by decide) ?_
  refine x_iconst (1) (q := 11) dX12_odds_10 rfl (by decide) ?_
  refine q_callS (As := [.int pt, .int 0, .int 1]) (rest := []) (q := 14) dX12_odds_11 rfl okX12_isIn tw_1450 (c_isIn _ _ _ _ r J) rfl rfl (Nat.le_of_ble_eq_true rfl) ⟨by decide, by decide⟩ ⟨rfl, rfl⟩ (fun rv_ I_ r_ J_ hv_ => ?_)
  obtain ⟨a1_, a2_, a3_, a4_⟩ := hv_
  rw [a1_, a2_, a3_, a4_]
  show Wq MX12_odds 14 [some (.ref 100), some (.int (nI y)), some (.int pt), some (.int k), none, none, none, none] [.int (inF pt 0 1)] I r J _
  refine x_if_ne (t := 19) (q := 17) dX12_odds_14 (by decide) rfl (fun c14 => ?_) (fun c14 => ?_)
  · refine x_aload_n (q := 20) dX12_odds_19 rfl rfl ?_
    refine x_iload_n (q := 21) dX12_odds_20 rfl rfl ?_
    refine q_callV (ci := 12) (N := 79) (T := TX12) (As := [.int k]) (rest := []) (q := 24) dX12_odds_21 rfl okX12_left tw_1532 rfl rfl (c_Mleft hb h g1 g3 g4 k r J) rfl rfl (Nat.le_of_ble_eq_true rfl) ⟨by decide, by decide⟩ ⟨rfl, rfl⟩ (fun rv_ X r_ J_ hv_ => ?_)
    obtain ⟨a1_, hX, a3_, a4_⟩ := hv_
    rw [a1_, a3_, a4_]
    show Wq MX12_odds 24 [some (.ref 100), some (.int (nI y)), some (.int pt), some (.int k), none, none, none, none] [.int (nI (lftN I b hn sn gn k))] X r J _
    refine x_istore (L2 := [some (.ref 100), some (.int (nI y)), some (.int pt), some (.int k), some (.int (nI (lftN I b hn sn gn k))), none, none, none]) (q := 26) dX12_odds_24 rfl (by decide) rfl rfl ?_
    refine x_iload (q := 28) dX12_odds_26 rfl rfl ?_
    refine x_if_ne (t := 33) (q := 31) dX12_odds_28 (by decide) rfl (fun c28 => ?_) (fun c28 => ?_)
    · exact absurd ⟨inF_1 c14, fun z => c28 (by rw [z]; rfl)⟩ hno
    · refine x_iconst (-1) (q := 32) dX12_odds_31 rfl (by decide) ?_
      refine q_iret dX12_odds_32 rfl ?_
      first | exact Rk_same | exact ⟨rfl, hX, rfl, rfl⟩
  · refine x_iconst (-1) (q := 18) dX12_odds_17 rfl (by decide) ?_
    refine q_iret dX12_odds_18 rfl ?_
    first | exact Rk_same | exact ⟨rfl, hX, rfl, rfl⟩
theorem odB_k {I X : MI} {b hn st y N : Nat} (hk : Kp I X) (hb : b ≤ 28) (hy : y < 8) : odB X b hn st y N = odB I b hn st y N := by
  funext i
  unfold odB
  rw [fwV_k hk hb hy, hk.L hb (b + 8) ⟨by omega, by omega⟩]
theorem op_odds (x pt k : Int32) : OpOk yX11_odds MX11_odds yX12_odds MX12_odds [.int x, .int pt, .int k] := by
  intro I r J hrel
  obtain ⟨b, yn, wn, hn, sn, st, hr, hl, hR, hJ⟩ := hrel
  have hb := (refs_L hr).2
  have h8 : yn ≤ 8 := hl.1.2.2.1
  obtain ⟨gn, g1, g2, g3, g4⟩ := hl.2.2.2.2.2.1
  by_cases h1 : ∃ k, k < yn ∧ x = nI k
  · obtain ⟨y, hy, rfl⟩ := h1
    by_cases h2 : (0 ≤ pt ∧ pt ≤ 1) ∧ ¬ lftN I b hn sn gn k = 0
    · exact op_kp hr hl hR hJ (c_Xodds_g J hr hl hy g1 g2 g3 g4 pt k h2.1 h2.2) (fun X hX q1 q2 => by
        have q := c_Modds_g hb r J q1 hy g1 (by rw [hX 100 72 (by unfold scr; omega)]; exact g3) (GlA_k hX hb h8 g4) pt k h2.1 (by rw [lftN_k hX hb h8 g4]; exact h2.2)
        rw [lftN_k hX hb h8 g4, odB_k hX hb (by omega), sumW_k hX hb, sumW_k hX hb] at q
        exact q)
    · exact op_kp hr hl hR hJ (c_Xodds_2 J hr hl hy g1 g2 g3 g4 pt k h2) (fun X hX q1 q2 => c_Modds_2 hb r J q1 hy g1 (by rw [hX 100 72 (by unfold scr; omega)]; exact g3) (GlA_k hX hb h8 g4) pt k (by rw [lftN_k hX hb h8 g4]; exact h2))
  · exact op_kp hr hl hR hJ (c_Xodds_1 J hr hl h1 g1 g2 g3 g4 pt k) (fun X hX q1 q2 => c_Modds_1 hb r J q1 h1 g1 (by rw [hX 100 72 (by unfold scr; omega)]; exact g3) (GlA_k hX hb h8 g4) pt k)
