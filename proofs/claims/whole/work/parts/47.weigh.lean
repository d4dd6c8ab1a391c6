def BX (C : Nat → Nat) (T0 : Nat) (i : Nat) (s : Int32) (c : Nat) : Prop := (s = -1 ∧ c = T0 ∧ ∀ a, a < i → T0 < C a) ∨ (∃ a, a < i ∧ s = nI a ∧ c = C a ∧ C a ≤ T0 ∧ (∀ a', a' < a → C a < C a') ∧ ∀ a', a' < i → C a ≤ C a')
def BM (C : Nat → Nat) (T0 : Nat) (i : Nat) (s : Int32) (c : Nat) : Prop := (s = -1 ∧ c = T0 ∧ ∀ a, i ≤ a → a < 25 → T0 < C a) ∨ (∃ a, i ≤ a ∧ a < 25 ∧ s = nI a ∧ c = C a ∧ C a ≤ T0 ∧ (∀ a', i ≤ a' → a' < a → C a < C a') ∧ ∀ a', i ≤ a' → a' < 25 → C a ≤ C a')
theorem B_eq {C : Nat → Nat} {T0 : Nat} {s s' : Int32} {c c' : Nat} (h : BX C T0 25 s c) (h' : BM C T0 0 s' c') : s' = s ∧ c' = c := by
  rcases h with ⟨e1, e2, e3⟩ | ⟨a, a1, a2, a3, a4, a5, a6⟩
  · rcases h' with ⟨f1, f2, f3⟩ | ⟨a', b0, b1, b2, b3, b4, b5, b6⟩
    · exact ⟨by rw [e1, f1], by rw [e2, f2]⟩
    · have := e3 a' b1
      omega
  · rcases h' with ⟨f1, f2, f3⟩ | ⟨a', b0, b1, b2, b3, b4, b5, b6⟩
    · have := f3 a (by omega) a1
      omega
    · have q1 := a6 a' b1
      have q2 := b6 a (by omega) a1
      have e : a = a' := by
        rcases Nat.lt_trichotomy a a' with q | q | q
        · have := b5 a (by omega) q
          omega
        · exact q
        · have := a5 a' q
          omega
      subst e
      exact ⟨by rw [a2, b2], by rw [a3, b3]⟩
theorem BX_s {C : Nat → Nat} {T0 i : Nat} {s : Int32} {c : Nat} {mo : Int} (hi : i < 25) (h : BX C T0 i s c) (hm : (s = -1 ∧ mo = c) ∨ (¬ s = -1 ∧ mo = (c : Int) - 1)) : ((C i : Int) ≤ mo → BX C T0 (i + 1) (nI i) (C i)) ∧ (¬ (C i : Int) ≤ mo → BX C T0 (i + 1) s c) := by
  rcases h with ⟨e1, e2, e3⟩ | ⟨a, a1, a2, a3, a4, a5, a6⟩
  · have em : mo = c := by
      rcases hm with q | q
      · exact q.2
      · exact absurd e1 q.1
    refine ⟨fun q => Or.inr ⟨i, by omega, rfl, rfl, by omega, fun a' ha' => ?_, fun a' ha' => ?_⟩, fun q => Or.inl ⟨e1, e2, fun a ha => ?_⟩⟩
    · have := e3 a' ha'
      omega
    · by_cases z : a' = i
      · rw [z]; exact Nat.le_refl _
      · have := e3 a' (by omega)
        omega
    · by_cases z : a = i
      · subst z; omega
      · exact e3 a (by omega)
  · have hne : ¬ s = -1 := by
      intro z
      rw [a2] at z
      have := congrArg Int32.toInt z
      rw [nI_toInt (by omega)] at this
      have c : (-1 : Int32).toInt = -1 := by decide
      omega
    have em : mo = (c : Int) - 1 := by
      rcases hm with q | q
      · exact absurd q.1 hne
      · exact q.2
    refine ⟨fun q => Or.inr ⟨i, by omega, rfl, rfl, by omega, fun a' ha' => ?_, fun a' ha' => ?_⟩, fun q => Or.inr ⟨a, by omega, a2, a3, a4, a5, fun a' ha' => ?_⟩⟩
    · have := a6 a' ha'
      omega
    · by_cases z : a' = i
      · rw [z]; exact Nat.le_refl _
      · have := a6 a' (by omega)
        omega
    · by_cases z : a' = i
      · subst z; omega
      · exact a6 a' (by omega)
theorem BM_s {C : Nat → Nat} {T0 i : Nat} {s : Int32} {c : Nat} (hi : i < 25) (h : BM C T0 (i + 1) s c) : (C i ≤ c → BM C T0 i (nI i) (C i)) ∧ (¬ C i ≤ c → BM C T0 i s c) := by
  rcases h with ⟨e1, e2, e3⟩ | ⟨a, a0, a1, a2, a3, a4, a5, a6⟩
  · refine ⟨fun q => Or.inr ⟨i, by omega, hi, rfl, rfl, by omega, fun a' _ ha' => by omega, fun a' h1 h2 => ?_⟩, fun q => Or.inl ⟨e1, e2, fun a h1 h2 => ?_⟩⟩
    · by_cases z : a' = i
      · rw [z]; exact Nat.le_refl _
      · have := e3 a' (by omega) h2
        omega
    · by_cases z : a = i
      · subst z; omega
      · exact e3 a (by omega) h2
  · refine ⟨fun q => Or.inr ⟨i, by omega, hi, rfl, rfl, by omega, fun a' _ ha' => by omega, fun a' h1 h2 => ?_⟩, fun q => Or.inr ⟨a, by omega, a1, a2, a3, a4, fun a' h1 h2 => ?_, fun a' h1 h2 => ?_⟩⟩
    · by_cases z : a' = i
      · rw [z]; exact Nat.le_refl _
      · have := a6 a' (by omega) h2
        omega
    · by_cases z : a' = i
      · subst z; omega
      · exact a5 a' (by omega) h2
    · by_cases z : a' = i
      · subst z; omega
      · exact a6 a' (by omega) h2
theorem plB_k {I X : MI} {b yn hn st N : Nat} {much : Int32} {at0 : Nat} (hk : Kp I X) (hb : b ≤ 28) (i y : Nat) (hy : y < 8) : plB X b hn st N much at0 i y = plB I b hn st N much at0 i y := by
  unfold plB
  rw [fwV_k hk hb hy, hk.L hb (b + 8) ⟨by omega, by omega⟩]
theorem cY_c {p q : Nat → Bool} : ∀ n, (∀ k, k < n → p k = q k) → cY p n = cY q n := by
  intro n
  induction n with
  | zero => intro _; rfl
  | succ n ih =>
    intro h
    rw [cY_s, cY_s, ih (fun k hk => h k (by omega)), h n (by omega)]
theorem pS_c {hm hm' : Nat} {w w' : Nat → Nat} {L : Nat} {P P' : Nat → Nat → Bool} {yn : Nat} (e1 : hm = hm') : ∀ n, (∀ i, i < n → w i = w' i) → (∀ i, i < n → ∀ y, y < yn → P i y = P' i y) → pS hm w L P yn n = pS hm' w' L P' yn n := by
  intro n
  induction n with
  | zero => intro _ _; rfl
  | succ n ih =>
    intro h1 h2
    rw [pS_s, pS_s, ih (fun i hi => h1 i (by omega)) (fun i hi => h2 i (by omega))]
    unfold pI
    rw [e1, h1 n (by omega), cY_c yn (fun y hy => h2 n (by omega) y hy)]
theorem pS_k {I X : MI} {b yn hn st N L : Nat} {much : Int32} {at0 : Nat} (hk : Kp I X) (hb : b ≤ 28) (h8 : yn ≤ 8) (n : Nat) : pS (hmN X b) (wgN X b) L (plB X b hn st N much at0) yn n = pS (hmN I b) (wgN I b) L (plB I b hn st N much at0) yn n := by
  refine pS_c ?_ n (fun i _ => ?_) (fun i _ y hy => plB_k (yn := yn) hk hb i y (by omega))
  · unfold hmN
    rw [hk.L hb b ⟨by omega, by omega⟩]
  · unfold wgN
    rw [hk.L hb (b + 9) ⟨by omega, by omega⟩]
def WgP (I : MI) (N L : Nat) (bs : Int32) (bc : Nat) (X : MI) : Prop := Kp I X ∧ X 79 0 = nI N ∧ X 79 1 = nI L ∧ X 79 2 = bs ∧ X 79 3 = nI bc
def CF (I : MI) (b yn sn hn st N L : Nat) (much : Int32) (a : Nat) : Nat := clN I b * sumW I b L.testBit sn + pS (hmN I b) (wgN I b) L (plB I b hn st N much a) yn sn
def T0F (I : MI) (b yn sn hn st N L : Nat) : Nat := pS (hmN I b) (wgN I b) L (plB I b hn st N 0 0) yn sn
def WgF (I : MI) (b yn sn hn st N L : Nat) (much : Int32) (X : MI) : Prop := ∃ bs bc, BX (CF I b yn sn hn st N L much) (T0F I b yn sn hn st N L) 25 bs bc ∧ WgP I N L bs bc X
theorem BX_le {C : Nat → Nat} {T0 i : Nat} {s : Int32} {c : Nat} (h : BX C T0 i s c) : c ≤ T0 := by
  rcases h with ⟨e1, e2, e3⟩ | ⟨a, a1, a2, a3, a4, a5, a6⟩
  · omega
  · omega
set_option maxRecDepth 100000 in
theorem l_wgh {I : MI} {b yn wn hn sn st : Nat} {r : MR} (J : MJ) (hr : RefOk r b) (h : RelL I b yn wn hn sn st) {N L : Nat} (hN : N < 1000) (hL : L < 1000) {much : Int32} (hm : 0 ≤ much.toInt ∧ much.toInt ≤ 99) : ∀ (f : Nat) (i : Nat) (X : MI) (bs : Int32) (bc : Nat) (x8 x9 : Option Value) (_ : i + f = 25) (_ : BX (CF I b yn sn hn st N L much) (T0F I b yn sn hn st N L) i bs bc) (_ : WgP I N L bs bc X), Wq MX9_weigh 52 [some (.ref 79), some (.ref 58), some (.ref 76), some (.int (nI N)), some (.int much), some (.int (nI L)), some (.int (nI (clN I b * sumW I b L.testBit sn))), some (.int (nI i)), x8, x9] [] X r J (Rp none (WgF I b yn sn hn st N L much) r J) := by
  have hb28 := (refs_L hr).2
  have h8 : yn ≤ 8 := h.1.2.2.1
  have hs7 : sn ≤ 7 := h.2.1.2.2.2.1
  obtain ⟨eh, hh9, ec, hc9⟩ := cost_ok h.2.1
  have hw9 : ∀ k, k < sn → wgN I b k ≤ 99 := fun k hk => (wg_ok h.2.1 hk).2.2
  have hW := sumW_le h.2.1 L.testBit sn (Nat.le_refl _)
  have hfee : clN I b * sumW I b L.testBit sn ≤ 9999 * 693 := Nat.mul_le_mul hc9 (by omega)
  have hT : ∀ mu a, pS (hmN I b) (wgN I b) L (plB I b hn st N mu a) yn sn ≤ 55434456 := fun mu a => by have := pS_le (L := L) (P := plB I b hn st N mu a) hh9 h8 sn hw9; omega
  intro f
  induction f with
  | zero =>
    intro i X bs bc x8 x9 hik hB hX
    refine x_iload (q := 54) dX9_weigh_52 rfl rfl ?_
    refine x_bipush (24) (q := 56) dX9_weigh_54 rfl (by decide) ?_
    refine x_icmp_gt (t := 127) (q := 59) dX9_weigh_56 (by decide) rfl (fun c56 => ?_) (fun c56 => absurd c56 (fun q => q ((nI_ltI (a := 24) (by omega) (by omega)).mpr (by omega))))
    refine q_vret dX9_weigh_127 rfl ?_
    rw [show i = 25 by omega] at hB
    exact ⟨rfl, ⟨bs, bc, hB, hX⟩, rfl, rfl⟩
  | succ f ih =>
    intro i X bs bc x8 x9 hik hB hX
    obtain ⟨hK, x0, x1, x2, x3⟩ := hX
    have hle := BX_le hB
    have hT0 : T0F I b yn sn hn st N L ≤ 55434456 := hT 0 0
    have hRX := RelL_k hK hb28 h
    refine x_iload (q := 54) dX9_weigh_52 rfl rfl ?_
    refine x_bipush (24) (q := 56) dX9_weigh_54 rfl (by decide) ?_
    refine x_icmp_gt (t := 127) (q := 59) dX9_weigh_56 (by decide) rfl (fun c56 => absurd c56 (fun q => absurd ((nI_ltI (a := 24) (by omega) (by omega)).mp q) (by omega))) (fun c56 => ?_)
    refine x_aload_n (q := 60) dX9_weigh_59 rfl rfl ?_
    refine q_gi (K := 2) (q := 63) dX9_weigh_60 rfl cl_9 (by decide) tw_467 rfl rfl ?_
    refine x_iconst (-1) (q := 64) dX9_weigh_63 rfl (by decide) ?_
    refine x_icmp_ne (t := 74) (q := 67) dX9_weigh_64 (by decide) rfl (fun c64 => ?_) (fun c64 => ?_)
    · refine x_aload_n (q := 75) dX9_weigh_74 rfl rfl ?_
      refine q_gi (K := 3) (q := 78) dX9_weigh_75 rfl cl_9 (by decide) tw_469 rfl rfl ?_
      refine x_iconst (1) (q := 79) dX9_weigh_78 rfl (by decide) ?_
      refine x_isub (q := 80) dX9_weigh_79 rfl ?_
      refine x_nmi (fun v1 ev1 => ?_)
      refine x_istore (L2 := [some (.ref 79), some (.ref 58), some (.ref 76), some (.int (nI N)), some (.int much), some (.int (nI L)), some (.int (nI (clN I b * sumW I b L.testBit sn))), some (.int (nI i)), some (.int v1), x9]) (q := 82) dX9_weigh_80 rfl (by decide) rfl rfl ?_
      refine x_iload (q := 84) dX9_weigh_82 rfl rfl ?_
      refine x_aload_n (q := 85) dX9_weigh_84 rfl rfl ?_
      refine x_aload_n (q := 86) dX9_weigh_85 rfl rfl ?_
      refine x_aload_n (q := 87) dX9_weigh_86 rfl rfl ?_
      refine x_iload (q := 89) dX9_weigh_87 rfl rfl ?_
      refine x_iload (q := 91) dX9_weigh_89 rfl rfl ?_
      refine x_iload (q := 93) dX9_weigh_91 rfl rfl ?_
      refine x_iload (q := 95) dX9_weigh_93 rfl rfl ?_
      refine x_isub (q := 96) dX9_weigh_95 rfl ?_
      refine q_callV (ci := 9) (N := 4) (T := TX9) (As := [.ref 58, .ref 76, .int much, .int (nI i), .int (v1 - (nI (clN I b * sumW I b L.testBit sn)))]) (rest := [.int (nI (clN I b * sumW I b L.testBit sn))]) (q := 99) dX9_weigh_96 rfl okX9_sumHarm tw_911 rfl rfl (c_sumH J hr hRX x0 x1 hN hL hm (show i < 1000 by omega) _) rfl rfl (Nat.le_of_ble_eq_true rfl) ⟨by decide, by decide⟩ ⟨rfl, rfl⟩ (fun rv_ Y r_ J_ hv_ => ?_)
      obtain ⟨R, a1_, hQ, hY, a3_, a4_⟩ := hv_
      rw [pS_k hK hb28 h8] at hQ
      rw [a1_, a3_, a4_]
      show Wq MX9_weigh 99 [some (.ref 79), some (.ref 58), some (.ref 76), some (.int (nI N)), some (.int much), some (.int (nI L)), some (.int (nI (clN I b * sumW I b L.testBit sn))), some (.int (nI i)), some (.int v1), x9] [.int (nI R), .int (nI (clN I b * sumW I b L.testBit sn))] Y r J _
      refine x_iadd (q := 100) dX9_weigh_99 rfl ?_
      refine x_nmi (fun v2 ev2 => ?_)
      refine x_istore (L2 := [some (.ref 79), some (.ref 58), some (.ref 76), some (.int (nI N)), some (.int much), some (.int (nI L)), some (.int (nI (clN I b * sumW I b L.testBit sn))), some (.int (nI i)), some (.int v1), some (.int v2)]) (q := 102) dX9_weigh_100 rfl (by decide) rfl rfl ?_
      refine x_iload (q := 104) dX9_weigh_102 rfl rfl ?_
      refine x_iload (q := 106) dX9_weigh_104 rfl rfl ?_
      refine x_icmp_gt (t := 121) (q := 109) dX9_weigh_106 (by decide) rfl (fun c106 => ?_) (fun c106 => ?_)
      · obtain ⟨v3, ev3⟩ : ∃ y_ : Int32, y_ = (nI i) + 1 := ⟨_, rfl⟩
        refine x_iinc (v := v3) (L2 := [some (.ref 79), some (.ref 58), some (.ref 76), some (.int (nI N)), some (.int much), some (.int (nI L)), some (.int (nI (clN I b * sumW I b L.testBit sn))), some (.int v3), some (.int v1), some (.int v2)]) (q := 124) dX9_weigh_121 rfl (by decide) rfl rfl (by rw [ev3]; rfl) rfl ?_
        refine x_goto (t := 52) dX9_weigh_124 (by decide) ?_
        rw [show v3 = nI (i + 1) by rw [ev3, nI_p1]]
        have hbc : bc < 2 ^ 31 := by omega
        have ht3 := hT much i
        have hmo : ∃ mo : Int, v1.toInt = mo ∧ ((bs = -1 ∧ mo = bc) ∨ (¬ bs = -1 ∧ mo = (bc : Int) - 1)) := by
          rw [x2] at c64
          first | exact ⟨_, rfl, Or.inl ⟨c64, by rw [ev1, x3, nI_toInt hbc]⟩⟩ | exact ⟨_, rfl, Or.inr ⟨c64, by rw [ev1, x3, Kit.i32_sub (by rw [nI_toInt hbc]; have k1 : (1 : Int32).toInt = 1 := (by decide); omega) (by rw [nI_toInt hbc]; have k1 : (1 : Int32).toInt = 1 := (by decide); omega), nI_toInt hbc]; rfl⟩⟩
        obtain ⟨mo, em, hmc⟩ := hmo
        have hm2 : -1 ≤ mo ∧ mo ≤ 55434456 := by rcases hmc with z | z <;> omega
        have hfi : (nI (clN I b * sumW I b L.testBit sn)).toInt = (clN I b * sumW I b L.testBit sn : Nat) := nI_toInt (by omega)
        have ed : (v1 - nI (clN I b * sumW I b L.testBit sn)).toInt = mo - (clN I b * sumW I b L.testBit sn : Nat) := by rw [Kit.i32_sub (by rw [em, hfi]; omega) (by rw [em, hfi]; omega), em, hfi]
        obtain ⟨hQ1, hQ2⟩ := hQ
        rw [ed] at hQ2
        have ecst : v2 = nI (clN I b * sumW I b L.testBit sn + R) := by rw [ev2, nI_add]
        have ect : v2.toInt = ((clN I b * sumW I b L.testBit sn + R : Nat) : Int) := by rw [ecst]; exact nI_toInt (by omega)
        have hCi : CF I b yn sn hn st N L much i = clN I b * sumW I b L.testBit sn + pS (hmN I b) (wgN I b) L (plB I b hn st N much i) yn sn := rfl
        have hBs := BX_s (by omega) hB hmc
        have hgt : mo < v2.toInt := by rw [← em]; exact Int32.lt_iff_toInt_lt.mp c106
        refine ih (i + 1) Y bs bc _ _ (by omega) (hBs.2 (by rw [hCi]; omega)) ⟨hK.tr hY.kp, ?_, ?_, ?_, ?_⟩
        all_goals rw [hY 79 (by decide) (by decide)]
        · exact x0
        · exact x1
        · exact x2
        · exact x3
      · refine x_aload_n (q := 110) dX9_weigh_109 rfl rfl ?_
        refine x_iload (q := 112) dX9_weigh_110 rfl rfl ?_
        refine q_pi (K := 2) (q := 115) dX9_weigh_112 rfl cl_9 (by decide) tw_467 rfl rfl rfl rfl (fun I4 eI4 => ?_)
        refine x_aload_n (q := 116) dX9_weigh_115 rfl rfl ?_
        refine x_iload (q := 118) dX9_weigh_116 rfl rfl ?_
        refine q_pi (K := 3) (q := 121) dX9_weigh_118 rfl cl_9 (by decide) tw_469 rfl rfl rfl rfl (fun I5 eI5 => ?_)
        obtain ⟨v6, ev6⟩ : ∃ y_ : Int32, y_ = (nI i) + 1 := ⟨_, rfl⟩
        refine x_iinc (v := v6) (L2 := [some (.ref 79), some (.ref 58), some (.ref 76), some (.int (nI N)), some (.int much), some (.int (nI L)), some (.int (nI (clN I b * sumW I b L.testBit sn))), some (.int v6), some (.int v1), some (.int v2)]) (q := 124) dX9_weigh_121 rfl (by decide) rfl rfl (by rw [ev6]; rfl) rfl ?_
        refine x_goto (t := 52) dX9_weigh_124 (by decide) ?_
        rw [show v6 = nI (i + 1) by rw [ev6, nI_p1]]
        have hbc : bc < 2 ^ 31 := by omega
        have ht3 := hT much i
        have hmo : ∃ mo : Int, v1.toInt = mo ∧ ((bs = -1 ∧ mo = bc) ∨ (¬ bs = -1 ∧ mo = (bc : Int) - 1)) := by
          rw [x2] at c64
          first | exact ⟨_, rfl, Or.inl ⟨c64, by rw [ev1, x3, nI_toInt hbc]⟩⟩ | exact ⟨_, rfl, Or.inr ⟨c64, by rw [ev1, x3, Kit.i32_sub (by rw [nI_toInt hbc]; have k1 : (1 : Int32).toInt = 1 := (by decide); omega) (by rw [nI_toInt hbc]; have k1 : (1 : Int32).toInt = 1 := (by decide); omega), nI_toInt hbc]; rfl⟩⟩
        obtain ⟨mo, em, hmc⟩ := hmo
        have hm2 : -1 ≤ mo ∧ mo ≤ 55434456 := by rcases hmc with z | z <;> omega
        have hfi : (nI (clN I b * sumW I b L.testBit sn)).toInt = (clN I b * sumW I b L.testBit sn : Nat) := nI_toInt (by omega)
        have ed : (v1 - nI (clN I b * sumW I b L.testBit sn)).toInt = mo - (clN I b * sumW I b L.testBit sn : Nat) := by rw [Kit.i32_sub (by rw [em, hfi]; omega) (by rw [em, hfi]; omega), em, hfi]
        obtain ⟨hQ1, hQ2⟩ := hQ
        rw [ed] at hQ2
        have ecst : v2 = nI (clN I b * sumW I b L.testBit sn + R) := by rw [ev2, nI_add]
        have ect : v2.toInt = ((clN I b * sumW I b L.testBit sn + R : Nat) : Int) := by rw [ecst]; exact nI_toInt (by omega)
        have hCi : CF I b yn sn hn st N L much i = clN I b * sumW I b L.testBit sn + pS (hmN I b) (wgN I b) L (plB I b hn st N much i) yn sn := rfl
        have hBs := BX_s (by omega) hB hmc
        have hle2 : v2.toInt ≤ mo := by rw [← em]; exact Int32.le_iff_toInt_le.mp (Int32.not_lt.mp c106)
        have hRT : R = pS (hmN I b) (wgN I b) L (plB I b hn st N much i) yn sn := by
          rcases hQ2 with z | z
          · exact z
          · omega
        have eC : v2 = nI (CF I b yn sn hn st N L much i) := by rw [ecst, hRT, hCi]
        refine ih (i + 1) I5 (nI i) (CF I b yn sn hn st N L much i) _ _ (by omega) (hBs.1 (by rw [hCi, ← hRT]; omega)) ⟨?_, ?_, ?_, ?_, ?_⟩
        · rw [eI5, eI4]
          exact (hK.tr hY.kp).tr ((Kp_up (by unfold scr; omega)).tr (Kp_up (by unfold scr; omega)))
        · rw [eI5, ups (by decide), eI4, ups (by decide), hY 79 (by decide) (by decide)]
          exact x0
        · rw [eI5, ups (by decide), eI4, ups (by decide), hY 79 (by decide) (by decide)]
          exact x1
        · rw [eI5, ups (by decide), eI4, upq]
        · rw [eI5, upq, eC]
    · refine x_aload_n (q := 68) dX9_weigh_67 rfl rfl ?_
      refine q_gi (K := 3) (q := 71) dX9_weigh_68 rfl cl_9 (by decide) tw_469 rfl rfl ?_
      refine x_goto (t := 80) dX9_weigh_71 (by decide) ?_
      refine x_nmi (fun v7 ev7 => ?_)
      refine x_istore (L2 := [some (.ref 79), some (.ref 58), some (.ref 76), some (.int (nI N)), some (.int much), some (.int (nI L)), some (.int (nI (clN I b * sumW I b L.testBit sn))), some (.int (nI i)), some (.int v7), x9]) (q := 82) dX9_weigh_80 rfl (by decide) rfl rfl ?_
      refine x_iload (q := 84) dX9_weigh_82 rfl rfl ?_
      refine x_aload_n (q := 85) dX9_weigh_84 rfl rfl ?_
      refine x_aload_n (q := 86) dX9_weigh_85 rfl rfl ?_
      refine x_aload_n (q := 87) dX9_weigh_86 rfl rfl ?_
      refine x_iload (q := 89) dX9_weigh_87 rfl rfl ?_
      refine x_iload (q := 91) dX9_weigh_89 rfl rfl ?_
      refine x_iload (q := 93) dX9_weigh_91 rfl rfl ?_
      refine x_iload (q := 95) dX9_weigh_93 rfl rfl ?_
      refine x_isub (q := 96) dX9_weigh_95 rfl ?_
      refine q_callV (ci := 9) (N := 4) (T := TX9) (As := [.ref 58, .ref 76, .int much, .int (nI i), .int (v7 - (nI (clN I b * sumW I b L.testBit sn)))]) (rest := [.int (nI (clN I b * sumW I b L.testBit sn))]) (q := 99) dX9_weigh_96 rfl okX9_sumHarm tw_911 rfl rfl (c_sumH J hr hRX x0 x1 hN hL hm (show i < 1000 by omega) _) rfl rfl (Nat.le_of_ble_eq_true rfl) ⟨by decide, by decide⟩ ⟨rfl, rfl⟩ (fun rv_ Y r_ J_ hv_ => ?_)
      obtain ⟨R, a1_, hQ, hY, a3_, a4_⟩ := hv_
      rw [pS_k hK hb28 h8] at hQ
      rw [a1_, a3_, a4_]
      show Wq MX9_weigh 99 [some (.ref 79), some (.ref 58), some (.ref 76), some (.int (nI N)), some (.int much), some (.int (nI L)), some (.int (nI (clN I b * sumW I b L.testBit sn))), some (.int (nI i)), some (.int v7), x9] [.int (nI R), .int (nI (clN I b * sumW I b L.testBit sn))] Y r J _
      refine x_iadd (q := 100) dX9_weigh_99 rfl ?_
      refine x_nmi (fun v8 ev8 => ?_)
      refine x_istore (L2 := [some (.ref 79), some (.ref 58), some (.ref 76), some (.int (nI N)), some (.int much), some (.int (nI L)), some (.int (nI (clN I b * sumW I b L.testBit sn))), some (.int (nI i)), some (.int v7), some (.int v8)]) (q := 102) dX9_weigh_100 rfl (by decide) rfl rfl ?_
      refine x_iload (q := 104) dX9_weigh_102 rfl rfl ?_
      refine x_iload (q := 106) dX9_weigh_104 rfl rfl ?_
      refine x_icmp_gt (t := 121) (q := 109) dX9_weigh_106 (by decide) rfl (fun c106 => ?_) (fun c106 => ?_)
      · obtain ⟨v9, ev9⟩ : ∃ y_ : Int32, y_ = (nI i) + 1 := ⟨_, rfl⟩
        refine x_iinc (v := v9) (L2 := [some (.ref 79), some (.ref 58), some (.ref 76), some (.int (nI N)), some (.int much), some (.int (nI L)), some (.int (nI (clN I b * sumW I b L.testBit sn))), some (.int v9), some (.int v7), some (.int v8)]) (q := 124) dX9_weigh_121 rfl (by decide) rfl rfl (by rw [ev9]; rfl) rfl ?_
        refine x_goto (t := 52) dX9_weigh_124 (by decide) ?_
        rw [show v9 = nI (i + 1) by rw [ev9, nI_p1]]
        have hbc : bc < 2 ^ 31 := by omega
        have ht3 := hT much i
        have hmo : ∃ mo : Int, v7.toInt = mo ∧ ((bs = -1 ∧ mo = bc) ∨ (¬ bs = -1 ∧ mo = (bc : Int) - 1)) := by
          rw [x2] at c64
          first | exact ⟨_, rfl, Or.inl ⟨c64, by rw [ev7, x3, nI_toInt hbc]⟩⟩ | exact ⟨_, rfl, Or.inr ⟨c64, by rw [ev7, x3, Kit.i32_sub (by rw [nI_toInt hbc]; have k1 : (1 : Int32).toInt = 1 := (by decide); omega) (by rw [nI_toInt hbc]; have k1 : (1 : Int32).toInt = 1 := (by decide); omega), nI_toInt hbc]; rfl⟩⟩
        obtain ⟨mo, em, hmc⟩ := hmo
        have hm2 : -1 ≤ mo ∧ mo ≤ 55434456 := by rcases hmc with z | z <;> omega
        have hfi : (nI (clN I b * sumW I b L.testBit sn)).toInt = (clN I b * sumW I b L.testBit sn : Nat) := nI_toInt (by omega)
        have ed : (v7 - nI (clN I b * sumW I b L.testBit sn)).toInt = mo - (clN I b * sumW I b L.testBit sn : Nat) := by rw [Kit.i32_sub (by rw [em, hfi]; omega) (by rw [em, hfi]; omega), em, hfi]
        obtain ⟨hQ1, hQ2⟩ := hQ
        rw [ed] at hQ2
        have ecst : v8 = nI (clN I b * sumW I b L.testBit sn + R) := by rw [ev8, nI_add]
        have ect : v8.toInt = ((clN I b * sumW I b L.testBit sn + R : Nat) : Int) := by rw [ecst]; exact nI_toInt (by omega)
        have hCi : CF I b yn sn hn st N L much i = clN I b * sumW I b L.testBit sn + pS (hmN I b) (wgN I b) L (plB I b hn st N much i) yn sn := rfl
        have hBs := BX_s (by omega) hB hmc
        have hgt : mo < v8.toInt := by rw [← em]; exact Int32.lt_iff_toInt_lt.mp c106
        refine ih (i + 1) Y bs bc _ _ (by omega) (hBs.2 (by rw [hCi]; omega)) ⟨hK.tr hY.kp, ?_, ?_, ?_, ?_⟩
        all_goals rw [hY 79 (by decide) (by decide)]
        · exact x0
        · exact x1
        · exact x2
        · exact x3
      · refine x_aload_n (q := 110) dX9_weigh_109 rfl rfl ?_
        refine x_iload (q := 112) dX9_weigh_110 rfl rfl ?_
        refine q_pi (K := 2) (q := 115) dX9_weigh_112 rfl cl_9 (by decide) tw_467 rfl rfl rfl rfl (fun I10 eI10 => ?_)
        refine x_aload_n (q := 116) dX9_weigh_115 rfl rfl ?_
        refine x_iload (q := 118) dX9_weigh_116 rfl rfl ?_
        refine q_pi (K := 3) (q := 121) dX9_weigh_118 rfl cl_9 (by decide) tw_469 rfl rfl rfl rfl (fun I11 eI11 => ?_)
        obtain ⟨v12, ev12⟩ : ∃ y_ : Int32, y_ = (nI i) + 1 := ⟨_, rfl⟩
        refine x_iinc (v := v12) (L2 := [some (.ref 79), some (.ref 58), some (.ref 76), some (.int (nI N)), some (.int much), some (.int (nI L)), some (.int (nI (clN I b * sumW I b L.testBit sn))), some (.int v12), some (.int v7), some (.int v8)]) (q := 124) dX9_weigh_121 rfl (by decide) rfl rfl (by rw [ev12]; rfl) rfl ?_
        refine x_goto (t := 52) dX9_weigh_124 (by decide) ?_
        rw [show v12 = nI (i + 1) by rw [ev12, nI_p1]]
        have hbc : bc < 2 ^ 31 := by omega
        have ht3 := hT much i
        have hmo : ∃ mo : Int, v7.toInt = mo ∧ ((bs = -1 ∧ mo = bc) ∨ (¬ bs = -1 ∧ mo = (bc : Int) - 1)) := by
          rw [x2] at c64
          first | exact ⟨_, rfl, Or.inl ⟨c64, by rw [ev7, x3, nI_toInt hbc]⟩⟩ | exact ⟨_, rfl, Or.inr ⟨c64, by rw [ev7, x3, Kit.i32_sub (by rw [nI_toInt hbc]; have k1 : (1 : Int32).toInt = 1 := (by decide); omega) (by rw [nI_toInt hbc]; have k1 : (1 : Int32).toInt = 1 := (by decide); omega), nI_toInt hbc]; rfl⟩⟩
        obtain ⟨mo, em, hmc⟩ := hmo
        have hm2 : -1 ≤ mo ∧ mo ≤ 55434456 := by rcases hmc with z | z <;> omega
        have hfi : (nI (clN I b * sumW I b L.testBit sn)).toInt = (clN I b * sumW I b L.testBit sn : Nat) := nI_toInt (by omega)
        have ed : (v7 - nI (clN I b * sumW I b L.testBit sn)).toInt = mo - (clN I b * sumW I b L.testBit sn : Nat) := by rw [Kit.i32_sub (by rw [em, hfi]; omega) (by rw [em, hfi]; omega), em, hfi]
        obtain ⟨hQ1, hQ2⟩ := hQ
        rw [ed] at hQ2
        have ecst : v8 = nI (clN I b * sumW I b L.testBit sn + R) := by rw [ev8, nI_add]
        have ect : v8.toInt = ((clN I b * sumW I b L.testBit sn + R : Nat) : Int) := by rw [ecst]; exact nI_toInt (by omega)
        have hCi : CF I b yn sn hn st N L much i = clN I b * sumW I b L.testBit sn + pS (hmN I b) (wgN I b) L (plB I b hn st N much i) yn sn := rfl
        have hBs := BX_s (by omega) hB hmc
        have hle2 : v8.toInt ≤ mo := by rw [← em]; exact Int32.le_iff_toInt_le.mp (Int32.not_lt.mp c106)
        have hRT : R = pS (hmN I b) (wgN I b) L (plB I b hn st N much i) yn sn := by
          rcases hQ2 with z | z
          · exact z
          · omega
        have eC : v8 = nI (CF I b yn sn hn st N L much i) := by rw [ecst, hRT, hCi]
        refine ih (i + 1) I11 (nI i) (CF I b yn sn hn st N L much i) _ _ (by omega) (hBs.1 (by rw [hCi, ← hRT]; omega)) ⟨?_, ?_, ?_, ?_, ?_⟩
        · rw [eI11, eI10]
          exact (hK.tr hY.kp).tr ((Kp_up (by unfold scr; omega)).tr (Kp_up (by unfold scr; omega)))
        · rw [eI11, ups (by decide), eI10, ups (by decide), hY 79 (by decide) (by decide)]
          exact x0
        · rw [eI11, ups (by decide), eI10, ups (by decide), hY 79 (by decide) (by decide)]
          exact x1
        · rw [eI11, ups (by decide), eI10, upq]
        · rw [eI11, upq, eC]
set_option maxRecDepth 100000 in
theorem c_weigh {I : MI} {b yn wn hn sn st : Nat} {r : MR} (J : MJ) (hr : RefOk r b) (h : RelL I b yn wn hn sn st) {N L : Nat} (hN : N < 1000) (hL : L < 1000) {much : Int32} (hm : 0 ≤ much.toInt ∧ much.toInt ≤ 99) : Cq yX9_weigh MX9_weigh [.ref 79, .ref 58, .ref 76, .int (nI N), .int much, .int (nI L)] I r J (Rp none (WgF I b yn sn hn st N L much) r J) := by
  have hb28 := (refs_L hr).2
  have h8 : yn ≤ 8 := h.1.2.2.1
  have hs7 : sn ≤ 7 := h.2.1.2.2.2.1
  obtain ⟨eh, hh9, ec, hc9⟩ := cost_ok h.2.1
  have hw9 : ∀ k, k < sn → wgN I b k ≤ 99 := fun k hk => (wg_ok h.2.1 hk).2.2
  have hW := sumW_le h.2.1 L.testBit sn (Nat.le_refl _)
  have hfee : clN I b * sumW I b L.testBit sn ≤ 9999 * 693 := Nat.mul_le_mul hc9 (by omega)
  have hT : ∀ mu a, pS (hmN I b) (wgN I b) L (plB I b hn st N mu a) yn sn ≤ 55434456 := fun mu a => by have := pS_le (L := L) (P := plB I b hn st N mu a) hh9 h8 sn hw9; omega
  refine cq_of [some (.ref 79), some (.ref 58), some (.ref 76), some (.int (nI N)), some (.int much), some (.int (nI L)), none, none, none, none] 4 (by decide +kernel) rfl rfl (Nat.le_of_ble_eq_true rfl) rfl ?_
  refine x_aload_n (q := 1) dX9_weigh_0 rfl rfl ?_
  refine x_iload_n (q := 2) dX9_weigh_1 rfl rfl ?_
  refine q_pi (K := 0) (q := 5) dX9_weigh_2 rfl cl_9 (by decide) tw_465 rfl rfl rfl rfl (fun I1 eI1 => ?_)
  refine x_aload_n (q := 6) dX9_weigh_5 rfl rfl ?_
  refine x_iload (q := 8) dX9_weigh_6 rfl rfl ?_
  refine q_pi (K := 1) (q := 11) dX9_weigh_8 rfl cl_9 (by decide) tw_466 rfl rfl rfl rfl (fun I2 eI2 => ?_)
  have hK2 : Kp I I2 := by rw [eI2, eI1]; exact (Kp_up (by unfold scr; omega)).tr (Kp_up (by unfold scr; omega))
  have x20 : I2 79 0 = nI N := by rw [eI2, ups (by decide), eI1, upq]
  have x21 : I2 79 1 = nI L := by rw [eI2, upq]
  refine x_aload_n (q := 12) dX9_weigh_11 rfl rfl ?_
  refine q_gr (K := 0) (b := b) (q := 15) dX9_weigh_12 rfl cl_1 (by decide) tw_423 rfl rfl (by rw [← hr.2.1]; rfl) ?_
  refine q_gi (K := 13) (q := 18) dX9_weigh_15 rfl cl_5 (by decide) tw_215 h.1.1 rfl ?_
  refine x_aload_n (q := 19) dX9_weigh_18 rfl rfl ?_
  refine q_gr (K := 0) (b := b) (q := 22) dX9_weigh_19 rfl cl_1 (by decide) tw_423 rfl rfl (by rw [← hr.2.1]; rfl) ?_
  refine x_iload (q := 24) dX9_weigh_22 rfl rfl ?_
  refine q_callV (ci := 5) (N := 18) (T := TX5) (As := [.int (nI L)]) (rest := [.int (I2 b 13)]) (q := 27) dX9_weigh_24 rfl okX5_weightOf tw_909 h.1.1 rfl (c_wof (RelL_k hK2 hb28 h).1.1 (RelL_k hK2 hb28 h).2.1 hL r J) rfl rfl (Nat.le_of_ble_eq_true rfl) ⟨by decide, by decide⟩ ⟨rfl, rfl⟩ (fun rv_ I_ r_ J_ hv_ => ?_)
  obtain ⟨a1_, a2_, a3_, a4_⟩ := hv_
  rw [sumW_k hK2 hb28] at a1_
  rw [a1_, a2_, a3_, a4_]
  show Wq MX9_weigh 27 [some (.ref 79), some (.ref 58), some (.ref 76), some (.int (nI N)), some (.int much), some (.int (nI L)), none, none, none, none] [.int (nI (sumW I b L.testBit sn)), .int (I2 b 13)] I2 r J _
  refine x_imul (q := 28) dX9_weigh_27 rfl ?_
  refine x_nmi (fun v3 ev3 => ?_)
  refine x_istore (L2 := [some (.ref 79), some (.ref 58), some (.ref 76), some (.int (nI N)), some (.int much), some (.int (nI L)), some (.int v3), none, none, none]) (q := 30) dX9_weigh_28 rfl (by decide) rfl rfl ?_
  rw [hK2.L hb28 b ⟨by omega, by omega⟩, ec, pk_mul] at ev3
  subst ev3
  refine x_aload_n (q := 31) dX9_weigh_30 rfl rfl ?_
  refine x_iconst (-1) (q := 32) dX9_weigh_31 rfl (by decide) ?_
  refine q_pi (K := 2) (q := 35) dX9_weigh_32 rfl cl_9 (by decide) tw_467 rfl rfl rfl rfl (fun I4 eI4 => ?_)
  have hK3 : Kp I I4 := by rw [eI4]; exact hK2.tr (Kp_up (by unfold scr; omega))
  have x30 : I4 79 0 = nI N := by rw [eI4, ups (by decide)]; exact x20
  have x31 : I4 79 1 = nI L := by rw [eI4, ups (by decide)]; exact x21
  have x32 : I4 79 2 = -1 := by rw [eI4, upq]
  refine x_aload_n (q := 36) dX9_weigh_35 rfl rfl ?_
  refine x_aload_n (q := 37) dX9_weigh_36 rfl rfl ?_
  refine x_aload_n (q := 38) dX9_weigh_37 rfl rfl ?_
  refine x_aload_n (q := 39) dX9_weigh_38 rfl rfl ?_
  refine x_iconst (0) (q := 40) dX9_weigh_39 rfl (by decide) ?_
  refine x_iconst (0) (q := 41) dX9_weigh_40 rfl (by decide) ?_
  refine x_ldc (v := 1000000000) (q := 43) dX9_weigh_41 rfl tw_910 ?_
  refine q_callV (ci := 9) (N := 4) (T := TX9) (As := [.ref 58, .ref 76, .int 0, .int 0, .int 1000000000]) (rest := [.ref 79]) (q := 46) dX9_weigh_43 rfl okX9_sumHarm tw_911 rfl rfl (c_sumH J hr (RelL_k hK3 hb28 h) x30 x31 hN hL (much := 0) (at0 := 0) (by decide) (by decide) 1000000000) rfl rfl (Nat.le_of_ble_eq_true rfl) ⟨by decide, by decide⟩ ⟨rfl, rfl⟩ (fun rv_ Y r_ J_ hv_ => ?_)
  obtain ⟨R, a1_, hQ, hY, a3_, a4_⟩ := hv_
  rw [pS_k hK3 hb28 h8] at hQ
  rw [a1_, a3_, a4_]
  show Wq MX9_weigh 46 [some (.ref 79), some (.ref 58), some (.ref 76), some (.int (nI N)), some (.int much), some (.int (nI L)), some (.int (nI (clN I b * sumW I b L.testBit sn))), none, none, none] [.int (nI R), .ref 79] Y r J _
  refine q_pi (K := 3) (q := 49) dX9_weigh_46 rfl cl_9 (by decide) tw_469 rfl rfl rfl rfl (fun I5 eI5 => ?_)
  refine x_iconst (0) (q := 50) dX9_weigh_49 rfl (by decide) ?_
  refine x_istore (L2 := [some (.ref 79), some (.ref 58), some (.ref 76), some (.int (nI N)), some (.int much), some (.int (nI L)), some (.int (nI (clN I b * sumW I b L.testBit sn))), some (.int 0), none, none]) (q := 52) dX9_weigh_50 rfl (by decide) rfl rfl ?_
  have hT0 := hT 0 0
  have hRT : R = T0F I b yn sn hn st N L := by
    obtain ⟨q1, q2⟩ := hQ
    rcases q2 with z | z
    · exact z
    · have k9 : (1000000000 : Int32).toInt = 1000000000 := by decide
      rw [k9] at z
      omega
  refine l_wgh J hr h hN hL hm 25 0 I5 (-1) R _ _ (by omega) (Or.inl ⟨rfl, hRT, fun a ha => absurd ha (by omega)⟩) ⟨?_, ?_, ?_, ?_, ?_⟩
  · rw [eI5]
    exact (hK3.tr hY.kp).tr (Kp_up (by unfold scr; omega))
  · rw [eI5, ups (by decide), hY 79 (by decide) (by decide)]
    exact x30
  · rw [eI5, ups (by decide), hY 79 (by decide) (by decide)]
    exact x31
  · rw [eI5, ups (by decide), hY 79 (by decide) (by decide)]
    exact x32
  · rw [eI5, upq]
