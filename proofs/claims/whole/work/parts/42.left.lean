def GlA (I : MI) (b yn hn sn gn : Nat) : Prop := ∀ g, g < gn → I 139 g = I 89 g ∧ I 140 g = I 90 g ∧ (I 90 g = -1 ∨ 0 ≤ (I 90 g).toInt) ∧ ∃ y l s : Nat, y < yn ∧ l < laN I b y ∧ s ≤ 72 ∧ I 134 g = nI y ∧ I 135 g = nI l ∧ I 136 g = nI s ∧ Ib (I 137 g) (-999) 999 ∧ Ib (I 138 g) 0 99 ∧ I 91 g = nI (bitsN (fitB I b hn y l s (I 137 g) (I 138 g)) sn)
theorem bitc {p q : Nat → Bool} {n : Nat} (h : ∀ k, p k = q k) : bitsN p n = bitsN q n := bitsN_c n (fun k _ => h k)
theorem b01 (p : Bool) : (if p then (1 : Int32) else 0) = 0 ∨ (if p then (1 : Int32) else 0) = 1 := by cases p <;> simp
set_option maxRecDepth 100000 in
theorem l_left {I : MI} {b yn hn sn gn : Nat} (hb : SH b = (15, 18)) (es : I b 12 = nI sn) (hs7 : sn ≤ 7) (g1 : gn ≤ 30) (g2 : I 88 3 = nI gn) (g4 : GlA I b yn hn sn gn) (h8 : yn ≤ 8) (h5 : ∀ y, y < yn → laN I b y ≤ 5) (k : Int32) (r : MR) (J : MJ) : ∀ (f : Nat) (i : Nat) (x5 : Option Value) (_ : i + f = gn), Wq MX2_leftAt 12 [some (.ref 88), some (.int k), some (.ref b), some (.int (nI (bitsN (fun s => lftB I b hn k i s) sn))), some (.int (nI i)), x5] [] I r J (Rt (some (.int (nI (lftN I b hn sn gn k)))) I r J) := by
  intro f
  induction f with
  | zero =>
    intro i x5 hik
    refine x_iload (q := 14) dX2_leftAt_12 rfl rfl ?_
    refine x_aload_n (q := 15) dX2_leftAt_14 rfl rfl ?_
    refine q_gi (K := 3) (q := 18) dX2_leftAt_15 rfl cl_2 (by decide) tw_536 rfl rfl ?_
    refine x_icmp_ge (t := 82) (q := 21) dX2_leftAt_18 (by decide) rfl (fun c18 => ?_) (fun c18 => absurd c18 (fun q => q (by rw [g2]; exact nI_le (by omega) (by omega))))
    refine x_iload_n (q := 83) dX2_leftAt_82 rfl rfl ?_
    refine q_iret dX2_leftAt_83 rfl ?_
    have ei : i = gn := by omega
    subst ei
    exact ⟨rfl, rfl, rfl, rfl⟩
  | succ f ih =>
    intro i x5 hik
    refine x_iload (q := 14) dX2_leftAt_12 rfl rfl ?_
    refine x_aload_n (q := 15) dX2_leftAt_14 rfl rfl ?_
    refine q_gi (K := 3) (q := 18) dX2_leftAt_15 rfl cl_2 (by decide) tw_536 rfl rfl ?_
    refine x_icmp_ge (t := 82) (q := 21) dX2_leftAt_18 (by decide) rfl (fun c18 => absurd c18 (by rw [g2]; exact nI_ge (by omega) (by omega))) (fun c18 => ?_)
    refine x_aload_n (q := 22) dX2_leftAt_21 rfl rfl ?_
    refine q_gr (K := 1) (b := 90) (q := 25) dX2_leftAt_22 rfl cl_2 (by decide) tw_534 rfl rfl rfl ?_
    refine x_iload (q := 27) dX2_leftAt_25 rfl rfl ?_
    refine q_iald (q := 28) dX2_leftAt_27 rfl rfl (vp_in_nI (by omega) (by decide)) ?_
    refine x_iconst (-1) (q := 29) dX2_leftAt_28 rfl (by decide) ?_
    refine x_icmp_eq (t := 47) (q := 32) dX2_leftAt_29 (by decide) rfl (fun c29 => ?_) (fun c29 => ?_)
    · refine x_iconst (0) (q := 48) dX2_leftAt_47 rfl (by decide) ?_
      refine x_istore (L2 := [some (.ref 88), some (.int k), some (.ref b), some (.int (nI (bitsN (fun s => lftB I b hn k i s) sn))), some (.int (nI i)), some (.int 0)]) (q := 50) dX2_leftAt_48 rfl (by decide) rfl rfl ?_
      refine x_aload_n (q := 51) dX2_leftAt_50 rfl rfl ?_
      refine q_gr (K := 0) (b := 89) (q := 54) dX2_leftAt_51 rfl cl_2 (by decide) tw_533 rfl rfl rfl ?_
      refine x_iload (q := 56) dX2_leftAt_54 rfl rfl ?_
      refine q_iald (q := 57) dX2_leftAt_56 rfl rfl (vp_in_nI (by omega) (by decide)) ?_
      refine x_iload_n (q := 58) dX2_leftAt_57 rfl rfl ?_
      refine x_icmp_gt (t := 76) (q := 61) dX2_leftAt_58 (by decide) rfl (fun c58 => ?_) (fun c58 => ?_)
      · obtain ⟨v1, ev1⟩ : ∃ y : Int32, y = (nI i) + 1 := ⟨_, rfl⟩
        refine x_iinc (v := v1) (L2 := [some (.ref 88), some (.int k), some (.ref b), some (.int (nI (bitsN (fun s => lftB I b hn k i s) sn))), some (.int v1), some (.int 0)]) (q := 79) dX2_leftAt_76 rfl (by decide) rfl rfl (by rw [ev1]; rfl) rfl ?_
        refine x_goto (t := 12) dX2_leftAt_79 (by decide) ?_
        have hci : (nI i).toNatClampNeg = i := nI_clamp (by omega)
        obtain ⟨p1, p2, p3, -⟩ := g4 i (by omega)
        try rw [hci] at c29
        try rw [hci] at c40
        try rw [hci] at c58
        have hcn : cntB I k i = false := by
          rw [← Bool.not_eq_true, cnt_x p1 p2 p3]
          rintro ⟨q1, q2⟩
          first | exact q1 c58 | (rcases q2 with q | q; exact c29 q; exact c40 q)
        have e9 : bitsN (fun s => lftB I b hn k (i + 1) s) sn = bitsN (fun s => lftB I b hn k i s) sn := bitc (fun s => by simp [lftB, hcn])
        rw [← e9]
        rw [show v1 = nI (i + 1) by rw [ev1, nI_p1]]
        exact ih (i + 1) _ (by omega)
      · refine x_iload (q := 63) dX2_leftAt_61 rfl rfl ?_
        refine x_if_ne (t := 76) (q := 66) dX2_leftAt_63 (by decide) rfl (fun c63 => absurd c63 ((by decide))) (fun c63 => ?_)
        refine x_iload_n (q := 67) dX2_leftAt_66 rfl rfl ?_
        refine x_aload_n (q := 68) dX2_leftAt_67 rfl rfl ?_
        refine q_gr (K := 2) (b := 91) (q := 71) dX2_leftAt_68 rfl cl_2 (by decide) tw_535 rfl rfl rfl ?_
        refine x_iload (q := 73) dX2_leftAt_71 rfl rfl ?_
        refine q_iald (q := 74) dX2_leftAt_73 rfl rfl (vp_in_nI (by omega) (by decide)) ?_
        refine x_iand (q := 75) dX2_leftAt_74 rfl ?_
        refine x_nmi (fun v2 ev2 => ?_)
        refine x_istore_n (L2 := [some (.ref 88), some (.int k), some (.ref b), some (.int v2), some (.int (nI i)), some (.int 0)]) (q := 76) dX2_leftAt_75 rfl (by decide) rfl rfl ?_
        obtain ⟨v3, ev3⟩ : ∃ y : Int32, y = (nI i) + 1 := ⟨_, rfl⟩
        refine x_iinc (v := v3) (L2 := [some (.ref 88), some (.int k), some (.ref b), some (.int v2), some (.int v3), some (.int 0)]) (q := 79) dX2_leftAt_76 rfl (by decide) rfl rfl (by rw [ev3]; rfl) rfl ?_
        refine x_goto (t := 12) dX2_leftAt_79 (by decide) ?_
        have hci : (nI i).toNatClampNeg = i := nI_clamp (by omega)
        obtain ⟨p1, p2, p3, -⟩ := g4 i (by omega)
        try rw [hci] at c29
        try rw [hci] at c40
        try rw [hci] at c58
        have hct : cntB I k i = true := (cnt_x p1 p2 p3).mpr ⟨c58, by first | exact Or.inl c29 | exact Or.inr c40⟩
        have e9 : v2 = nI (bitsN (fun s => lftB I b hn k (i + 1) s) sn) := by
          rw [ev2, hci, gl_fit g4 h8 h5 (by omega), nI_and, bitsN_and]
          exact congrArg nI (bitc (fun s => by simp [lftB, hct]))
        rw [e9]
        rw [show v3 = nI (i + 1) by rw [ev3, nI_p1]]
        exact ih (i + 1) _ (by omega)
    · refine x_aload_n (q := 33) dX2_leftAt_32 rfl rfl ?_
      refine q_gr (K := 1) (b := 90) (q := 36) dX2_leftAt_33 rfl cl_2 (by decide) tw_534 rfl rfl rfl ?_
      refine x_iload (q := 38) dX2_leftAt_36 rfl rfl ?_
      refine q_iald (q := 39) dX2_leftAt_38 rfl rfl (vp_in_nI (by omega) (by decide)) ?_
      refine x_iload_n (q := 40) dX2_leftAt_39 rfl rfl ?_
      refine x_icmp_gt (t := 47) (q := 43) dX2_leftAt_40 (by decide) rfl (fun c40 => ?_) (fun c40 => ?_)
      · refine x_iconst (0) (q := 48) dX2_leftAt_47 rfl (by decide) ?_
        refine x_istore (L2 := [some (.ref 88), some (.int k), some (.ref b), some (.int (nI (bitsN (fun s => lftB I b hn k i s) sn))), some (.int (nI i)), some (.int 0)]) (q := 50) dX2_leftAt_48 rfl (by decide) rfl rfl ?_
        refine x_aload_n (q := 51) dX2_leftAt_50 rfl rfl ?_
        refine q_gr (K := 0) (b := 89) (q := 54) dX2_leftAt_51 rfl cl_2 (by decide) tw_533 rfl rfl rfl ?_
        refine x_iload (q := 56) dX2_leftAt_54 rfl rfl ?_
        refine q_iald (q := 57) dX2_leftAt_56 rfl rfl (vp_in_nI (by omega) (by decide)) ?_
        refine x_iload_n (q := 58) dX2_leftAt_57 rfl rfl ?_
        refine x_icmp_gt (t := 76) (q := 61) dX2_leftAt_58 (by decide) rfl (fun c58 => ?_) (fun c58 => ?_)
        · obtain ⟨v4, ev4⟩ : ∃ y : Int32, y = (nI i) + 1 := ⟨_, rfl⟩
          refine x_iinc (v := v4) (L2 := [some (.ref 88), some (.int k), some (.ref b), some (.int (nI (bitsN (fun s => lftB I b hn k i s) sn))), some (.int v4), some (.int 0)]) (q := 79) dX2_leftAt_76 rfl (by decide) rfl rfl (by rw [ev4]; rfl) rfl ?_
          refine x_goto (t := 12) dX2_leftAt_79 (by decide) ?_
          have hci : (nI i).toNatClampNeg = i := nI_clamp (by omega)
          obtain ⟨p1, p2, p3, -⟩ := g4 i (by omega)
          try rw [hci] at c29
          try rw [hci] at c40
          try rw [hci] at c58
          have hcn : cntB I k i = false := by
            rw [← Bool.not_eq_true, cnt_x p1 p2 p3]
            rintro ⟨q1, q2⟩
            first | exact q1 c58 | (rcases q2 with q | q; exact c29 q; exact c40 q)
          have e9 : bitsN (fun s => lftB I b hn k (i + 1) s) sn = bitsN (fun s => lftB I b hn k i s) sn := bitc (fun s => by simp [lftB, hcn])
          rw [← e9]
          rw [show v4 = nI (i + 1) by rw [ev4, nI_p1]]
          exact ih (i + 1) _ (by omega)
        · refine x_iload (q := 63) dX2_leftAt_61 rfl rfl ?_
          refine x_if_ne (t := 76) (q := 66) dX2_leftAt_63 (by decide) rfl (fun c63 => absurd c63 ((by decide))) (fun c63 => ?_)
          refine x_iload_n (q := 67) dX2_leftAt_66 rfl rfl ?_
          refine x_aload_n (q := 68) dX2_leftAt_67 rfl rfl ?_
          refine q_gr (K := 2) (b := 91) (q := 71) dX2_leftAt_68 rfl cl_2 (by decide) tw_535 rfl rfl rfl ?_
          refine x_iload (q := 73) dX2_leftAt_71 rfl rfl ?_
          refine q_iald (q := 74) dX2_leftAt_73 rfl rfl (vp_in_nI (by omega) (by decide)) ?_
          refine x_iand (q := 75) dX2_leftAt_74 rfl ?_
          refine x_nmi (fun v5 ev5 => ?_)
          refine x_istore_n (L2 := [some (.ref 88), some (.int k), some (.ref b), some (.int v5), some (.int (nI i)), some (.int 0)]) (q := 76) dX2_leftAt_75 rfl (by decide) rfl rfl ?_
          obtain ⟨v6, ev6⟩ : ∃ y : Int32, y = (nI i) + 1 := ⟨_, rfl⟩
          refine x_iinc (v := v6) (L2 := [some (.ref 88), some (.int k), some (.ref b), some (.int v5), some (.int v6), some (.int 0)]) (q := 79) dX2_leftAt_76 rfl (by decide) rfl rfl (by rw [ev6]; rfl) rfl ?_
          refine x_goto (t := 12) dX2_leftAt_79 (by decide) ?_
          have hci : (nI i).toNatClampNeg = i := nI_clamp (by omega)
          obtain ⟨p1, p2, p3, -⟩ := g4 i (by omega)
          try rw [hci] at c29
          try rw [hci] at c40
          try rw [hci] at c58
          have hct : cntB I k i = true := (cnt_x p1 p2 p3).mpr ⟨c58, by first | exact Or.inl c29 | exact Or.inr c40⟩
          have e9 : v5 = nI (bitsN (fun s => lftB I b hn k (i + 1) s) sn) := by
            rw [ev5, hci, gl_fit g4 h8 h5 (by omega), nI_and, bitsN_and]
            exact congrArg nI (bitc (fun s => by simp [lftB, hct]))
          rw [e9]
          rw [show v6 = nI (i + 1) by rw [ev6, nI_p1]]
          exact ih (i + 1) _ (by omega)
      · refine x_iconst (1) (q := 44) dX2_leftAt_43 rfl (by decide) ?_
        refine x_goto (t := 48) dX2_leftAt_44 (by decide) ?_
        refine x_istore (L2 := [some (.ref 88), some (.int k), some (.ref b), some (.int (nI (bitsN (fun s => lftB I b hn k i s) sn))), some (.int (nI i)), some (.int 1)]) (q := 50) dX2_leftAt_48 rfl (by decide) rfl rfl ?_
        refine x_aload_n (q := 51) dX2_leftAt_50 rfl rfl ?_
        refine q_gr (K := 0) (b := 89) (q := 54) dX2_leftAt_51 rfl cl_2 (by decide) tw_533 rfl rfl rfl ?_
        refine x_iload (q := 56) dX2_leftAt_54 rfl rfl ?_
        refine q_iald (q := 57) dX2_leftAt_56 rfl rfl (vp_in_nI (by omega) (by decide)) ?_
        refine x_iload_n (q := 58) dX2_leftAt_57 rfl rfl ?_
        refine x_icmp_gt (t := 76) (q := 61) dX2_leftAt_58 (by decide) rfl (fun c58 => ?_) (fun c58 => ?_)
        · obtain ⟨v7, ev7⟩ : ∃ y : Int32, y = (nI i) + 1 := ⟨_, rfl⟩
          refine x_iinc (v := v7) (L2 := [some (.ref 88), some (.int k), some (.ref b), some (.int (nI (bitsN (fun s => lftB I b hn k i s) sn))), some (.int v7), some (.int 1)]) (q := 79) dX2_leftAt_76 rfl (by decide) rfl rfl (by rw [ev7]; rfl) rfl ?_
          refine x_goto (t := 12) dX2_leftAt_79 (by decide) ?_
          have hci : (nI i).toNatClampNeg = i := nI_clamp (by omega)
          obtain ⟨p1, p2, p3, -⟩ := g4 i (by omega)
          try rw [hci] at c29
          try rw [hci] at c40
          try rw [hci] at c58
          have hcn : cntB I k i = false := by
            rw [← Bool.not_eq_true, cnt_x p1 p2 p3]
            rintro ⟨q1, q2⟩
            first | exact q1 c58 | (rcases q2 with q | q; exact c29 q; exact c40 q)
          have e9 : bitsN (fun s => lftB I b hn k (i + 1) s) sn = bitsN (fun s => lftB I b hn k i s) sn := bitc (fun s => by simp [lftB, hcn])
          rw [← e9]
          rw [show v7 = nI (i + 1) by rw [ev7, nI_p1]]
          exact ih (i + 1) _ (by omega)
        · refine x_iload (q := 63) dX2_leftAt_61 rfl rfl ?_
          refine x_if_ne (t := 76) (q := 66) dX2_leftAt_63 (by decide) rfl (fun c63 => ?_) (fun c63 => absurd c63 ((by decide)))
          obtain ⟨v8, ev8⟩ : ∃ y : Int32, y = (nI i) + 1 := ⟨_, rfl⟩
          refine x_iinc (v := v8) (L2 := [some (.ref 88), some (.int k), some (.ref b), some (.int (nI (bitsN (fun s => lftB I b hn k i s) sn))), some (.int v8), some (.int 1)]) (q := 79) dX2_leftAt_76 rfl (by decide) rfl rfl (by rw [ev8]; rfl) rfl ?_
          refine x_goto (t := 12) dX2_leftAt_79 (by decide) ?_
          have hci : (nI i).toNatClampNeg = i := nI_clamp (by omega)
          obtain ⟨p1, p2, p3, -⟩ := g4 i (by omega)
          try rw [hci] at c29
          try rw [hci] at c40
          try rw [hci] at c58
          have hcn : cntB I k i = false := by
            rw [← Bool.not_eq_true, cnt_x p1 p2 p3]
            rintro ⟨q1, q2⟩
            first | exact q1 c58 | (rcases q2 with q | q; exact c29 q; exact c40 q)
          have e9 : bitsN (fun s => lftB I b hn k (i + 1) s) sn = bitsN (fun s => lftB I b hn k i s) sn := bitc (fun s => by simp [lftB, hcn])
          rw [← e9]
          rw [show v8 = nI (i + 1) by rw [ev8, nI_p1]]
          exact ih (i + 1) _ (by omega)
set_option maxRecDepth 100000 in
theorem c_leftAt {I : MI} {b yn hn sn gn : Nat} (hb : SH b = (15, 18)) (es : I b 12 = nI sn) (hs7 : sn ≤ 7) (g1 : gn ≤ 30) (g2 : I 88 3 = nI gn) (g4 : GlA I b yn hn sn gn) (h8 : yn ≤ 8) (h5 : ∀ y, y < yn → laN I b y ≤ 5) (k : Int32) (r : MR) (J : MJ) : Cq yX2_leftAt MX2_leftAt [.ref 88, .int k, .ref b] I r J (Rt (some (.int (nI (lftN I b hn sn gn k)))) I r J) := by
  refine cq_of [some (.ref 88), some (.int k), some (.ref b), none, none, none] 3 (by decide +kernel) rfl rfl (Nat.le_of_ble_eq_true rfl) rfl ?_
  refine x_iconst (1) (q := 1) dX2_leftAt_0 rfl (by decide) ?_
  refine x_aload_n (q := 2) dX2_leftAt_1 rfl rfl ?_
  refine q_gi (K := 12) (q := 5) dX2_leftAt_2 rfl cl_5 (by decide) tw_212 hb rfl ?_
  refine x_ishl (q := 6) dX2_leftAt_5 rfl ?_
  refine x_iconst (1) (q := 7) dX2_leftAt_6 rfl (by decide) ?_
  refine x_isub (q := 8) dX2_leftAt_7 rfl ?_
  refine x_nmi (fun v1 ev1 => ?_)
  refine x_istore_n (L2 := [some (.ref 88), some (.int k), some (.ref b), some (.int v1), none, none]) (q := 9) dX2_leftAt_8 rfl (by decide) rfl rfl ?_
  refine x_iconst (0) (q := 10) dX2_leftAt_9 rfl (by decide) ?_
  refine x_istore (L2 := [some (.ref 88), some (.int k), some (.ref b), some (.int v1), some (.int 0), none]) (q := 12) dX2_leftAt_10 rfl (by decide) rfl rfl ?_
  have e9 : v1 = nI (bitsN (fun s => lftB I b hn k 0 s) sn) := by
    rw [ev1, es, sh1m (by omega), ← bitsN_all]
    rfl
  rw [e9]
  exact l_left hb es hs7 g1 g2 g4 h8 h5 k r J gn 0 _ (by omega)
/-- the class's left, from the relation -/
theorem k_left {I : MI} {b yn wn hn sn st gn : Nat} (r : MR) (J : MJ) (h : RelL I b yn wn hn sn st) (g1 : gn ≤ 30) (g2 : I 88 3 = nI gn) (g4 : GlA I b yn hn sn gn) (k : Int32) : Cq yX2_leftAt MX2_leftAt [.ref 88, .int k, .ref b] I r J (Rt (some (.int (nI (lftN I b hn sn gn k)))) I r J) := c_leftAt h.1.1 h.2.1.2.2.1 h.2.1.2.2.2.1 g1 g2 g4 h.1.2.2.1 (fun y hy => (la5 h.1 hy).2) k r J
set_option maxRecDepth 100000 in
theorem c_Xleft {I : MI} {b yn wn hn sn st : Nat} {r : MR} (J : MJ) (hr : RefOk r b) (h : RelL I b yn wn hn sn st) {gn : Nat} (g1 : gn ≤ 30) (g2 : I 88 3 = nI gn) (g3 : I 100 72 = nI gn) (g4 : GlA I b yn hn sn gn) (k : Int32) : Cq yX11_left MX11_left [.ref 0, .int k] I r J (Rk (nI (lftN I b hn sn gn k)) I r J) := by
  refine cq_of [some (.ref 0), some (.int k)] 0 (by decide +kernel) rfl rfl (Nat.le_of_ble_eq_true rfl) rfl ?_
  refine x_aload_n (q := 1) dX11_left_0 rfl rfl ?_
  refine q_gr (K := 10) (b := 88) (q := 4) dX11_left_1 rfl cl_11 (by decide) tw_577 rfl rfl rfl ?_
  refine x_iload_n (q := 5) dX11_left_4 rfl rfl ?_
  refine x_aload_n (q := 6) dX11_left_5 rfl rfl ?_
  refine q_gr (K := 2) (b := b) (q := 9) dX11_left_6 rfl cl_11 (by decide) tw_569 rfl rfl (by rw [← hr.1]; rfl) ?_
  refine q_callV (ci := 2) (N := 9) (T := TX2) (As := [.int k, .ref b]) (rest := []) (q := 12) dX11_left_9 rfl okX2_leftAt tw_886 rfl rfl (k_left r J h g1 g2 g4 k) rfl rfl (Nat.le_of_ble_eq_true rfl) ⟨by decide, by decide⟩ ⟨rfl, rfl⟩ (fun rv_ I_ r_ J_ hv_ => ?_)
  obtain ⟨a1_, a2_, a3_, a4_⟩ := hv_
  rw [a1_, a2_, a3_, a4_]
  show Wq MX11_left 12 [some (.ref 0), some (.int k)] [.int (nI (lftN I b hn sn gn k))] I r J _
  refine q_iret dX11_left_12 rfl ?_
  exact Rk_same
theorem GE_beg {I : MI} {b yn hn y : Nat} (h : LOk I b yn hn) (hd : RLd I b yn hn) (hy : y < yn) : GE (laN I b y) (wGet I y) (begG I b y) := by
  have h5 := (la5 h hy).2
  refine ⟨fun j hj => ?_, fun j j1 j2 => ?_⟩
  · unfold wGet begG
    rw [if_pos (by omega), if_pos (by omega)]
    exact (hd.2.2.1 y hy).2.2.2.2 j hj
  · unfold wGet begG
    rw [if_neg (by omega), if_neg (by omega)]
theorem GB_beg {I : MI} {b yn hn y : Nat} (h : LOk I b yn hn) (hy : y < yn) : GB (laN I b y) 0 (begG I b y) := by
  obtain ⟨so, la, q1, q2, q3, q4, q5, q6, q7, q8⟩ := h.2.2.2.2.2.1 y hy
  have ela : laN I b y = la := la_of (so := so) q3 q5
  have z : (0 : Int32).toInt = 0 := by decide
  have e : ∀ j, 5 ≤ j → begG I b y j = 0 := fun j hj => if_neg (by omega)
  unfold GB
  rw [e 5 (by decide), e 6 (by decide), e 7 (by decide), e 8 (by decide), z, ela]
  refine ⟨fun j hj => ?_, by omega, by omega, by omega, by omega, by omega, by omega⟩
  have e2 : begG I b y j = I (b + 11 + 2 * y) j := if_pos (by omega)
  rw [e2]
  have := q8 j hj
  omega
theorem GB_GE {la n : Nat} {G G' : GT} (h : GE la G G') (hb : GB la n G') : GB la n G := by
  obtain ⟨b1, b2⟩ := hb
  unfold GB
  rw [h.2 5 (by decide) (by decide), h.2 6 (by decide) (by decide), h.2 7 (by decide) (by decide), h.2 8 (by decide) (by decide)]
  exact ⟨fun j hj => by rw [h.1 j hj]; exact b1 j hj, b2⟩
set_option maxRecDepth 100000 in
theorem l_wbh {I : MI} {b yn hn y s l : Nat} (hL : LOk I b yn hn) (hD : RLd I b yn hn) (hy : y < yn) {sh : Int32} (hsh : ShOk sh) (hs : s ≤ 72) (hl : l < laN I b y) (r : MR) (J : MJ) : ∀ (f : Nat) (k : Nat) (_ : k + f = s), Wq MX12_warmBehind 8 [some (.ref 100), some (.int (nI y)), some (.int (nI l)), some (.int (nI s)), some (.int sh), some (.int (nI k))] [] (mPut I (trajY I b y hn sh 0 k (wGet I y))) r J (Rk (warmAt I b y hn sh s l) I r J) := by
  have h8 : yn ≤ 8 := hL.2.2.1
  have h5 := (la5 hL hy).2
  have hG : GB (laN I b y) 0 (wGet I y) := GB_GE (GE_beg hL hD hy) (GB_beg hL hy)
  intro f
  induction f with
  | zero =>
    intro k hik
    refine x_iload (q := 10) dX12_warmBehind_8 rfl rfl ?_
    refine x_iload_n (q := 11) dX12_warmBehind_10 rfl rfl ?_
    refine x_icmp_ge (t := 29) (q := 14) dX12_warmBehind_11 (by decide) rfl (fun c11 => ?_) (fun c11 => absurd c11 (fun q => q (nI_le (by omega) (by omega))))
    refine x_aload_n (q := 30) dX12_warmBehind_29 rfl rfl ?_
    refine q_gr (K := 48) (b := 125) (q := 33) dX12_warmBehind_30 rfl cl_12 (by decide) tw_1130 rfl rfl rfl ?_
    refine x_iload_n (q := 34) dX12_warmBehind_33 rfl rfl ?_
    refine q_iald (q := 35) dX12_warmBehind_34 rfl rfl (vp_in_nI (by omega) (by decide)) ?_
    refine q_iret dX12_warmBehind_35 rfl ?_
    rw [nI_clamp (by omega), mPut_w _ _ _ (by omega), show k = s by omega]
    have e9 : trajY I b y hn sh 0 s (wGet I y) l = (warmAt I b y hn sh s l) := (GE_traj hL hy (GE_beg hL hD hy) s).1 l hl
    rw [e9]
    exact ⟨rfl, Kp_m _, rfl, rfl⟩
  | succ f ih =>
    intro k hik
    refine x_iload (q := 10) dX12_warmBehind_8 rfl rfl ?_
    refine x_iload_n (q := 11) dX12_warmBehind_10 rfl rfl ?_
    refine x_icmp_ge (t := 29) (q := 14) dX12_warmBehind_11 (by decide) rfl (fun c11 => absurd c11 (nI_ge (by omega) (by omega))) (fun c11 => ?_)
    refine x_aload_n (q := 15) dX12_warmBehind_14 rfl rfl ?_
    refine x_iload_n (q := 16) dX12_warmBehind_15 rfl rfl ?_
    refine x_iload (q := 18) dX12_warmBehind_16 rfl rfl ?_
    refine x_iload (q := 20) dX12_warmBehind_18 rfl rfl ?_
    refine q_callV (ci := 12) (N := 79) (T := TX12) (As := [.int (nI y), .int (nI k), .int sh]) (rest := []) (q := 23) dX12_warmBehind_20 rfl okX12_goOn tw_1457 rfl rfl (by have q := c_mstep (s := 0 + k) (n := 0 + k) hL hD hy hsh (by omega) (by omega) (GB_traj hL hy hsh 0 hG k (by omega)) r J; rw [Nat.zero_add] at q; exact q) rfl rfl (Nat.le_of_ble_eq_true rfl) ⟨by decide, by decide⟩ ⟨rfl, rfl⟩ (fun rv_ I_ r_ J_ hv_ => ?_)
    obtain ⟨a1_, a2_, a3_, a4_⟩ := hv_
    rw [show stepY I b y hn sh k (trajY I b y hn sh 0 k (wGet I y)) = (trajY I b y hn sh 0 (k + 1) (wGet I y)) by show _ = stepY I b y hn sh (0 + k) _; rw [Nat.zero_add]] at a2_
    rw [a1_, a2_, a3_, a4_]
    show Wq MX12_warmBehind 23 [some (.ref 100), some (.int (nI y)), some (.int (nI l)), some (.int (nI s)), some (.int sh), some (.int (nI k))] [] (mPut I (trajY I b y hn sh 0 (k + 1) (wGet I y))) r J _
    obtain ⟨v1, ev1⟩ : ∃ y : Int32, y = (nI k) + 1 := ⟨_, rfl⟩
    refine x_iinc (v := v1) (L2 := [some (.ref 100), some (.int (nI y)), some (.int (nI l)), some (.int (nI s)), some (.int sh), some (.int v1)]) (q := 26) dX12_warmBehind_23 rfl (by decide) rfl rfl (by rw [ev1]; rfl) rfl ?_
    refine x_goto (t := 8) dX12_warmBehind_26 (by decide) ?_
    rw [show v1 = nI (k + 1) by rw [ev1, nI_p1]]
    exact ih (k + 1) (by omega)
set_option maxRecDepth 100000 in
theorem c_wbh {I : MI} {b yn hn y s l : Nat} (hL : LOk I b yn hn) (hD : RLd I b yn hn) (hy : y < yn) {sh : Int32} (hsh : ShOk sh) (hs : s ≤ 72) (hl : l < laN I b y) (r : MR) (J : MJ) : Cq yX12_warmBehind MX12_warmBehind [.ref 100, .int (nI y), .int (nI l), .int (nI s), .int sh] I r J (Rk (warmAt I b y hn sh s l) I r J) := by
  have h8 : yn ≤ 8 := hL.2.2.1
  have h5 := (la5 hL hy).2
  have hG : GB (laN I b y) 0 (wGet I y) := GB_GE (GE_beg hL hD hy) (GB_beg hL hy)
  refine cq_of [some (.ref 100), some (.int (nI y)), some (.int (nI l)), some (.int (nI s)), some (.int sh), none] 1 (by decide +kernel) rfl rfl (Nat.le_of_ble_eq_true rfl) rfl ?_
  refine x_aload_n (q := 1) dX12_warmBehind_0 rfl rfl ?_
  refine x_iload_n (q := 2) dX12_warmBehind_1 rfl rfl ?_
  refine q_callV (ci := 12) (N := 79) (T := TX12) (As := [.int (nI y)]) (rest := []) (q := 5) dX12_warmBehind_2 rfl okX12_beginYard tw_1548 rfl rfl (by have q := c_beginYard y (by omega) I (mGet I) r J; rw [mPut_get] at q; exact q) rfl rfl (Nat.le_of_ble_eq_true rfl) ⟨by decide, by decide⟩ ⟨rfl, rfl⟩ (fun rv_ I_ r_ J_ hv_ => ?_)
  obtain ⟨a1_, a2_, a3_, a4_⟩ := hv_
  rw [a1_, a2_, a3_, a4_]
  show Wq MX12_warmBehind 5 [some (.ref 100), some (.int (nI y)), some (.int (nI l)), some (.int (nI s)), some (.int sh), none] [] (mPut I (wGet I y)) r J _
  refine x_iconst (0) (q := 6) dX12_warmBehind_5 rfl (by decide) ?_
  refine x_istore (L2 := [some (.ref 100), some (.int (nI y)), some (.int (nI l)), some (.int (nI s)), some (.int sh), some (.int 0)]) (q := 8) dX12_warmBehind_6 rfl (by decide) rfl rfl ?_
  exact l_wbh hL hD hy hsh hs hl r J s 0 (by omega)
set_option maxRecDepth 100000 in
theorem c_counts {g : Nat} (hg : g < 30) (k : Int32) (I : MI) (r : MR) (J : MJ) : Cq yX12_counts MX12_counts [.ref 100, .int (nI g), .int k] I r J (Rt (some (.int (if cntB I k g then 1 else 0))) I r J) := by
  refine cq_of [some (.ref 100), some (.int (nI g)), some (.int k)] 0 (by decide +kernel) rfl rfl (Nat.le_of_ble_eq_true rfl) rfl ?_
  refine x_aload_n (q := 1) dX12_counts_0 rfl rfl ?_
  refine q_gr (K := 70) (b := 139) (q := 4) dX12_counts_1 rfl cl_12 (by decide) tw_1152 rfl rfl rfl ?_
  refine x_iload_n (q := 5) dX12_counts_4 rfl rfl ?_
  refine q_iald (q := 6) dX12_counts_5 rfl rfl (vp_in_nI (by omega) (by decide)) ?_
  refine x_iload_n (q := 7) dX12_counts_6 rfl rfl ?_
  refine x_icmp_gt (t := 33) (q := 10) dX12_counts_7 (by decide) rfl (fun c7 => ?_) (fun c7 => ?_)
  · refine x_iconst (0) (q := 34) dX12_counts_33 rfl (by decide) ?_
    refine q_zret dX12_counts_34 rfl (Or.inl rfl) ?_
    have hci : (nI g).toNatClampNeg = g := nI_clamp (by omega)
    try rw [hci] at c7
    try rw [hci] at c16
    try rw [hci] at c26
    have e9 : (if cntB I k g then (1 : Int32) else 0) = 0 := by
      unfold cntB
      first | simp [c7, c16, c26, Int32.not_lt.mp c7] | simp [c7, c16, Int32.not_lt.mp c7] | simp [c7, c16, Int32.not_lt.mp c7, Int32.not_le.mp c26] | simp [Int32.not_le.mpr c7] | simp [c7]
    rw [e9]
    exact ⟨rfl, rfl, rfl, rfl⟩
  · refine x_aload_n (q := 11) dX12_counts_10 rfl rfl ?_
    refine q_gr (K := 71) (b := 140) (q := 14) dX12_counts_11 rfl cl_12 (by decide) tw_1153 rfl rfl rfl ?_
    refine x_iload_n (q := 15) dX12_counts_14 rfl rfl ?_
    refine q_iald (q := 16) dX12_counts_15 rfl rfl (vp_in_nI (by omega) (by decide)) ?_
    refine x_if_lt (t := 29) (q := 19) dX12_counts_16 (by decide) rfl (fun c16 => ?_) (fun c16 => ?_)
    · refine x_iconst (1) (q := 30) dX12_counts_29 rfl (by decide) ?_
      refine x_goto (t := 34) dX12_counts_30 (by decide) ?_
      refine q_zret dX12_counts_34 rfl (Or.inr rfl) ?_
      have hci : (nI g).toNatClampNeg = g := nI_clamp (by omega)
      try rw [hci] at c7
      try rw [hci] at c16
      try rw [hci] at c26
      have e9 : (if cntB I k g then (1 : Int32) else 0) = 1 := by
        unfold cntB
        first | simp [c7, c16, c26, Int32.not_lt.mp c7] | simp [c7, c16, Int32.not_lt.mp c7] | simp [c7, c16, Int32.not_lt.mp c7, Int32.not_le.mp c26] | simp [Int32.not_le.mpr c7] | simp [c7]
      rw [e9]
      exact ⟨rfl, rfl, rfl, rfl⟩
    · refine x_aload_n (q := 20) dX12_counts_19 rfl rfl ?_
      refine q_gr (K := 71) (b := 140) (q := 23) dX12_counts_20 rfl cl_12 (by decide) tw_1153 rfl rfl rfl ?_
      refine x_iload_n (q := 24) dX12_counts_23 rfl rfl ?_
      refine q_iald (q := 25) dX12_counts_24 rfl rfl (vp_in_nI (by omega) (by decide)) ?_
      refine x_iload_n (q := 26) dX12_counts_25 rfl rfl ?_
      refine x_icmp_le (t := 33) (q := 29) dX12_counts_26 (by decide) rfl (fun c26 => ?_) (fun c26 => ?_)
      · refine x_iconst (0) (q := 34) dX12_counts_33 rfl (by decide) ?_
        refine q_zret dX12_counts_34 rfl (Or.inl rfl) ?_
        have hci : (nI g).toNatClampNeg = g := nI_clamp (by omega)
        try rw [hci] at c7
        try rw [hci] at c16
        try rw [hci] at c26
        have e9 : (if cntB I k g then (1 : Int32) else 0) = 0 := by
          unfold cntB
          first | simp [c7, c16, c26, Int32.not_lt.mp c7] | simp [c7, c16, Int32.not_lt.mp c7] | simp [c7, c16, Int32.not_lt.mp c7, Int32.not_le.mp c26] | simp [Int32.not_le.mpr c7] | simp [c7]
        rw [e9]
        exact ⟨rfl, rfl, rfl, rfl⟩
      · refine x_iconst (1) (q := 30) dX12_counts_29 rfl (by decide) ?_
        refine x_goto (t := 34) dX12_counts_30 (by decide) ?_
        refine q_zret dX12_counts_34 rfl (Or.inr rfl) ?_
        have hci : (nI g).toNatClampNeg = g := nI_clamp (by omega)
        try rw [hci] at c7
        try rw [hci] at c16
        try rw [hci] at c26
        have e9 : (if cntB I k g then (1 : Int32) else 0) = 1 := by
          unfold cntB
          first | simp [c7, c16, c26, Int32.not_lt.mp c7] | simp [c7, c16, Int32.not_lt.mp c7] | simp [c7, c16, Int32.not_lt.mp c7, Int32.not_le.mp c26] | simp [Int32.not_le.mpr c7] | simp [c7]
        rw [e9]
        exact ⟨rfl, rfl, rfl, rfl⟩
set_option maxRecDepth 100000 in
theorem c_isSo {I : MI} {b yn hn sn gn g s : Nat} (hL : LOk I b yn hn) (hD : RLd I b yn hn) (g1 : gn ≤ 30) (g4 : GlA I b yn hn sn gn) (hg : g < gn) (hsh : ShOk (I (b + 8) s)) (r : MR) (J : MJ) : Cq yX12_isSo MX12_isSo [.ref 100, .int (nI g), .int (I (b + 8) s)] I r J (Rk (if gfit I b hn g s then 1 else 0) I r J) := by
  have h8 : yn ≤ 8 := hL.2.2.1
  obtain ⟨-, -, -, y, l, t, p1, p2, p3, p4, p5, p6, p7, p8, p9⟩ := g4 g hg
  have h5 := (la5 hL p1).2
  have hci : (nI g).toNatClampNeg = g := nI_clamp (by omega)
  have efit : gfit I b hn g s = fitB I b hn y l t (I 137 g) (I 138 g) s := by
    unfold gfit
    rw [p4, p5, p6, nI_clamp (by omega), nI_clamp (by omega), nI_clamp (by omega)]
  refine cq_of [some (.ref 100), some (.int (nI g)), some (.int (I (b + 8) s)), none] 1 (by decide +kernel) rfl rfl (Nat.le_of_ble_eq_true rfl) rfl ?_
  refine x_aload_n (q := 1) dX12_isSo_0 rfl rfl ?_
  refine x_aload_n (q := 2) dX12_isSo_1 rfl rfl ?_
  refine q_gr (K := 65) (b := 134) (q := 5) dX12_isSo_2 rfl cl_12 (by decide) tw_1147 rfl rfl rfl ?_
  refine x_iload_n (q := 6) dX12_isSo_5 rfl rfl ?_
  refine q_iald (q := 7) dX12_isSo_6 rfl rfl (vp_in_nI (by omega) (by decide)) ?_
  refine x_aload_n (q := 8) dX12_isSo_7 rfl rfl ?_
  refine q_gr (K := 66) (b := 135) (q := 11) dX12_isSo_8 rfl cl_12 (by decide) tw_1148 rfl rfl rfl ?_
  refine x_iload_n (q := 12) dX12_isSo_11 rfl rfl ?_
  refine q_iald (q := 13) dX12_isSo_12 rfl rfl (vp_in_nI (by omega) (by decide)) ?_
  refine x_aload_n (q := 14) dX12_isSo_13 rfl rfl ?_
  refine q_gr (K := 67) (b := 136) (q := 17) dX12_isSo_14 rfl cl_12 (by decide) tw_1149 rfl rfl rfl ?_
  refine x_iload_n (q := 18) dX12_isSo_17 rfl rfl ?_
  refine q_iald (q := 19) dX12_isSo_18 rfl rfl (vp_in_nI (by omega) (by decide)) ?_
  refine x_iload_n (q := 20) dX12_isSo_19 rfl rfl ?_
  rw [hci, p4, p5, p6]
  refine q_callV (ci := 12) (N := 79) (T := TX12) (As := [.int (nI y), .int (nI l), .int (nI t), .int (I (b + 8) s)]) (rest := []) (q := 23) dX12_isSo_20 rfl okX12_warmBehind tw_1544 rfl rfl (c_wbh hL hD p1 hsh p3 p2 r J) rfl rfl (Nat.le_of_ble_eq_true rfl) ⟨by decide, by decide⟩ ⟨rfl, rfl⟩ (fun rv_ X r_ J_ hv_ => ?_)
  obtain ⟨a1_, hk, a3_, a4_⟩ := hv_
  rw [a1_, a3_, a4_]
  show Wq MX12_isSo 23 [some (.ref 100), some (.int (nI g)), some (.int (I (b + 8) s)), none] [.int (warmAt I b y hn (I (b + 8) s) t l)] X r J _
  refine x_aload_n (q := 24) dX12_isSo_23 rfl rfl ?_
  refine q_gr (K := 68) (b := 137) (q := 27) dX12_isSo_24 rfl cl_12 (by decide) tw_1150 rfl rfl rfl ?_
  refine x_iload_n (q := 28) dX12_isSo_27 rfl rfl ?_
  refine q_iald (q := 29) dX12_isSo_28 rfl rfl (vp_in_nI (by omega) (by decide)) ?_
  refine x_isub (q := 30) dX12_isSo_29 rfl ?_
  refine x_nmi (fun v1 ev1 => ?_)
  refine x_istore_n (L2 := [some (.ref 100), some (.int (nI g)), some (.int (I (b + 8) s)), some (.int v1)]) (q := 31) dX12_isSo_30 rfl (by decide) rfl rfl ?_
  refine x_iload_n (q := 32) dX12_isSo_31 rfl rfl ?_
  refine x_if_ge (t := 40) (q := 35) dX12_isSo_32 (by decide) rfl (fun c32 => ?_) (fun c32 => ?_)
  · refine x_iload_n (q := 41) dX12_isSo_40 rfl rfl ?_
    refine x_aload_n (q := 42) dX12_isSo_41 rfl rfl ?_
    refine q_gr (K := 69) (b := 138) (q := 45) dX12_isSo_42 rfl cl_12 (by decide) tw_1151 rfl rfl rfl ?_
    refine x_iload_n (q := 46) dX12_isSo_45 rfl rfl ?_
    refine q_iald (q := 47) dX12_isSo_46 rfl rfl (vp_in_nI (by omega) (by decide)) ?_
    refine x_icmp_gt (t := 54) (q := 50) dX12_isSo_47 (by decide) rfl (fun c47 => ?_) (fun c47 => ?_)
    · refine x_iconst (0) (q := 55) dX12_isSo_54 rfl (by decide) ?_
      refine q_zret dX12_isSo_55 rfl (Or.inl rfl) ?_
      rw [hci, hk 137 g (by unfold scr; omega)] at ev1
      try rw [hci, hk 138 g (by unfold scr; omega)] at c47
      have e9 : (if gfit I b hn g s then (1 : Int32) else 0) = 0 := by
        rw [efit]
        unfold fitB
        rw [← ev1]
        first | rw [if_pos (decide_eq_true (by rw [if_pos c32]; exact Int32.not_lt.mp c47))] | rw [if_neg (fun z => by have z2 := of_decide_eq_true z; rw [if_pos c32] at z2; exact absurd z2 (Int32.not_le.mpr c47))] | rw [if_pos (decide_eq_true (by rw [if_neg c32, Int32.zero_sub]; exact Int32.not_lt.mp c47))] | rw [if_neg (fun z => by have z2 := of_decide_eq_true z; rw [if_neg c32, Int32.zero_sub] at z2; exact absurd z2 (Int32.not_le.mpr c47))]
      rw [e9]
      exact ⟨rfl, hk, rfl, rfl⟩
    · refine x_iconst (1) (q := 51) dX12_isSo_50 rfl (by decide) ?_
      refine x_goto (t := 55) dX12_isSo_51 (by decide) ?_
      refine q_zret dX12_isSo_55 rfl (Or.inr rfl) ?_
      rw [hci, hk 137 g (by unfold scr; omega)] at ev1
      try rw [hci, hk 138 g (by unfold scr; omega)] at c47
      have e9 : (if gfit I b hn g s then (1 : Int32) else 0) = 1 := by
        rw [efit]
        unfold fitB
        rw [← ev1]
        first | rw [if_pos (decide_eq_true (by rw [if_pos c32]; exact Int32.not_lt.mp c47))] | rw [if_neg (fun z => by have z2 := of_decide_eq_true z; rw [if_pos c32] at z2; exact absurd z2 (Int32.not_le.mpr c47))] | rw [if_pos (decide_eq_true (by rw [if_neg c32, Int32.zero_sub]; exact Int32.not_lt.mp c47))] | rw [if_neg (fun z => by have z2 := of_decide_eq_true z; rw [if_neg c32, Int32.zero_sub] at z2; exact absurd z2 (Int32.not_le.mpr c47))]
      rw [e9]
      exact ⟨rfl, hk, rfl, rfl⟩
  · refine x_iload_n (q := 36) dX12_isSo_35 rfl rfl ?_
    refine x_ineg (q := 37) dX12_isSo_36 rfl ?_
    refine x_goto (t := 41) dX12_isSo_37 (by decide) ?_
    refine x_aload_n (q := 42) dX12_isSo_41 rfl rfl ?_
    refine q_gr (K := 69) (b := 138) (q := 45) dX12_isSo_42 rfl cl_12 (by decide) tw_1151 rfl rfl rfl ?_
    refine x_iload_n (q := 46) dX12_isSo_45 rfl rfl ?_
    refine q_iald (q := 47) dX12_isSo_46 rfl rfl (vp_in_nI (by omega) (by decide)) ?_
    refine x_icmp_gt (t := 54) (q := 50) dX12_isSo_47 (by decide) rfl (fun c47 => ?_) (fun c47 => ?_)
    · refine x_iconst (0) (q := 55) dX12_isSo_54 rfl (by decide) ?_
      refine q_zret dX12_isSo_55 rfl (Or.inl rfl) ?_
      rw [hci, hk 137 g (by unfold scr; omega)] at ev1
      try rw [hci, hk 138 g (by unfold scr; omega)] at c47
      have e9 : (if gfit I b hn g s then (1 : Int32) else 0) = 0 := by
        rw [efit]
        unfold fitB
        rw [← ev1]
        first | rw [if_pos (decide_eq_true (by rw [if_pos c32]; exact Int32.not_lt.mp c47))] | rw [if_neg (fun z => by have z2 := of_decide_eq_true z; rw [if_pos c32] at z2; exact absurd z2 (Int32.not_le.mpr c47))] | rw [if_pos (decide_eq_true (by rw [if_neg c32, Int32.zero_sub]; exact Int32.not_lt.mp c47))] | rw [if_neg (fun z => by have z2 := of_decide_eq_true z; rw [if_neg c32, Int32.zero_sub] at z2; exact absurd z2 (Int32.not_le.mpr c47))]
      rw [e9]
      exact ⟨rfl, hk, rfl, rfl⟩
    · refine x_iconst (1) (q := 51) dX12_isSo_50 rfl (by decide) ?_
      refine x_goto (t := 55) dX12_isSo_51 (by decide) ?_
      refine q_zret dX12_isSo_55 rfl (Or.inr rfl) ?_
      rw [hci, hk 137 g (by unfold scr; omega)] at ev1
      try rw [hci, hk 138 g (by unfold scr; omega)] at c47
      have e9 : (if gfit I b hn g s then (1 : Int32) else 0) = 1 := by
        rw [efit]
        unfold fitB
        rw [← ev1]
        first | rw [if_pos (decide_eq_true (by rw [if_pos c32]; exact Int32.not_lt.mp c47))] | rw [if_neg (fun z => by have z2 := of_decide_eq_true z; rw [if_pos c32] at z2; exact absurd z2 (Int32.not_le.mpr c47))] | rw [if_pos (decide_eq_true (by rw [if_neg c32, Int32.zero_sub]; exact Int32.not_lt.mp c47))] | rw [if_neg (fun z => by have z2 := of_decide_eq_true z; rw [if_neg c32, Int32.zero_sub] at z2; exact absurd z2 (Int32.not_le.mpr c47))]
      rw [e9]
      exact ⟨rfl, hk, rfl, rfl⟩
theorem Kp.L {I X : MI} {b : Nat} (hk : Kp I X) (hb : b ≤ 28) : ∀ c, regL b c → X c = I c := fun c q => hk.cell (fun j s => by unfold regL at q; unfold scr at s; omega)
theorem gfit_k {I X : MI} {b hn g : Nat} (hk : Kp I X) (hb : b ≤ 28) (hy : (I 134 g).toNatClampNeg < 8) : gfit X b hn g = gfit I b hn g := by
  funext k
  unfold gfit fitB warmAt begG
  rw [hk 134 g (by unfold scr; omega), hk 135 g (by unfold scr; omega), hk 136 g (by unfold scr; omega), hk 137 g (by unfold scr; omega), hk 138 g (by unfold scr; omega), hk.L hb (b + 8) ⟨by omega, by omega⟩, hk.L hb (b + 11 + 2 * (I 134 g).toNatClampNeg) ⟨by omega, by omega⟩, trajY_c (hk.L hb) hy]
theorem cntB_k {I X : MI} {k : Int32} {g : Nat} (hk : Kp I X) : cntB X k g = cntB I k g := by
  unfold cntB
  rw [hk 139 g (by unfold scr; omega), hk 140 g (by unfold scr; omega)]
theorem gl_y {I : MI} {b yn hn sn gn g : Nat} (g4 : GlA I b yn hn sn gn) (h8 : yn ≤ 8) (hg : g < gn) : (I 134 g).toNatClampNeg < 8 := by
  obtain ⟨-, -, -, y, l, t, p1, p2, p3, p4, -⟩ := g4 g hg
  rw [p4, nI_clamp (by omega)]
  omega
theorem lftB_k {I X : MI} {b yn hn sn gn : Nat} {k : Int32} (hk : Kp I X) (hb : b ≤ 28) (h8 : yn ≤ 8) (g4 : GlA I b yn hn sn gn) (s : Nat) : ∀ g, g ≤ gn → lftB X b hn k g s = lftB I b hn k g s := by
  intro g
  induction g with
  | zero => intro _; rfl
  | succ g ih =>
    intro hg
    unfold lftB
    rw [ih (by omega), cntB_k hk, gfit_k hk hb (gl_y g4 h8 (by omega))]
theorem lftN_k {I X : MI} {b yn hn sn gn : Nat} {k : Int32} (hk : Kp I X) (hb : b ≤ 28) (h8 : yn ≤ 8) (g4 : GlA I b yn hn sn gn) : lftN X b hn sn gn k = lftN I b hn sn gn k := bitsN_c sn (fun s _ => lftB_k hk hb h8 g4 s gn (Nat.le_refl _))
theorem GlA_k {I X : MI} {b yn hn sn gn : Nat} (hk : Kp I X) (hb : b ≤ 28) (h8 : yn ≤ 8) (g4 : GlA I b yn hn sn gn) : GlA X b yn hn sn gn := fun g hg => Gl1_c (I := I) (hk.L hb) (fun c _ _ => hk c g (by unfold scr; omega)) (fun c _ _ => hk c g (by unfold scr; omega)) h8 (g4 g hg)
set_option maxRecDepth 100000 in
theorem l_Ml1 {I : MI} {b yn wn hn sn st gn : Nat} (hb : b ≤ 28) (h : RelL I b yn wn hn sn st) (g1 : gn ≤ 30) (g3 : I 100 72 = nI gn) (g4 : GlA I b yn hn sn gn) (k : Int32) (r : MR) (J : MJ) {s : Nat} (hs : s < sn) (z : Int32) (post : Option Value → MI → MR → MJ → Prop) (kx : ∀ (X : MI) (x5 : Option Value), Kp I X → Wq MX12_left 70 [some (.ref 100), some (.int k), some (.int z), some (.int (nI s)), some (.int (if lftB I b hn k gn s then 1 else 0)), x5] [] X r J post) : ∀ (f : Nat) (g : Nat) (X : MI) (_ : g + f = gn) (_ : Kp I X), Wq MX12_left 18 [some (.ref 100), some (.int k), some (.int z), some (.int (nI s)), some (.int (if lftB I b hn k g s then 1 else 0)), some (.int (nI g))] [] X r J (post) := by
  have h8 : yn ≤ 8 := h.1.2.2.1
  have hs7 : sn ≤ 7 := h.2.1.2.2.2.1
  have es : I 100 44 = nI sn := h.2.2.2.1.2.1
  intro f
  induction f with
  | zero =>
    intro g X hik hX
    have e72 : X 100 72 = nI gn := by rw [hX 100 72 (by unfold scr; omega)]; exact g3
    have hLX := RelL_k hX hb h
    have hslp : X 123 s = X (b + 8) s := (hLX.2.2.2.1.2.2.2.2.2.1 s hs).1
    have hshX : ShOk (X (b + 8) s) := ((hLX.2.1.2.2.2.2.1 s hs).1)
    have hcs : (nI s).toNatClampNeg = s := nI_clamp (by omega)
    refine x_iload (q := 20) dX12_left_18 rfl rfl ?_
    refine x_aload_n (q := 21) dX12_left_20 rfl rfl ?_
    refine q_gi (K := 72) (q := 24) dX12_left_21 rfl cl_12 (by decide) tw_1154 rfl rfl ?_
    refine x_icmp_ge (t := 70) (q := 27) dX12_left_24 (by decide) rfl (fun c24 => ?_) (fun c24 => absurd c24 (fun q => q (by rw [e72]; exact nI_le (by omega) (by omega))))
    have eg : g = gn := by omega
    subst eg
    exact kx X _ hX
  | succ f ih =>
    intro g X hik hX
    have e72 : X 100 72 = nI gn := by rw [hX 100 72 (by unfold scr; omega)]; exact g3
    have hLX := RelL_k hX hb h
    have hslp : X 123 s = X (b + 8) s := (hLX.2.2.2.1.2.2.2.2.2.1 s hs).1
    have hshX : ShOk (X (b + 8) s) := ((hLX.2.1.2.2.2.2.1 s hs).1)
    have hcs : (nI s).toNatClampNeg = s := nI_clamp (by omega)
    refine x_iload (q := 20) dX12_left_18 rfl rfl ?_
    refine x_aload_n (q := 21) dX12_left_20 rfl rfl ?_
    refine q_gi (K := 72) (q := 24) dX12_left_21 rfl cl_12 (by decide) tw_1154 rfl rfl ?_
    refine x_icmp_ge (t := 70) (q := 27) dX12_left_24 (by decide) rfl (fun c24 => absurd c24 (by rw [e72]; exact nI_ge (by omega) (by omega))) (fun c24 => ?_)
    refine x_iload (q := 29) dX12_left_27 rfl rfl ?_
    refine x_if_eq (t := 70) (q := 32) dX12_left_29 (by decide) rfl (fun c29 => ?_) (fun c29 => ?_)
    · have hlg : lftB I b hn k g s = false := by
        cases q : lftB I b hn k g s
        · rfl
        · rw [q] at c29; exact absurd c29 (by decide)
      have e9 := lftB_mono hlg (gn - g)
      rw [show g + (gn - g) = gn by omega] at e9
      have q9 := kx X (some (.int (nI g))) hX
      rw [e9] at q9
      rw [hlg]
      exact q9
    · refine x_aload_n (q := 33) dX12_left_32 rfl rfl ?_
      refine x_iload (q := 35) dX12_left_33 rfl rfl ?_
      refine x_iload_n (q := 36) dX12_left_35 rfl rfl ?_
      refine q_callV (ci := 12) (N := 79) (T := TX12) (As := [.int (nI g), .int k]) (rest := []) (q := 39) dX12_left_36 rfl okX12_counts tw_1536 rfl rfl (c_counts (by omega) k X r J) rfl rfl (Nat.le_of_ble_eq_true rfl) ⟨by decide, by decide⟩ ⟨rfl, rfl⟩ (fun rv_ I_ r_ J_ hv_ => ?_)
      obtain ⟨a1_, a2_, a3_, a4_⟩ := hv_
      rw [a1_, a2_, a3_, a4_]
      show Wq MX12_left 39 [some (.ref 100), some (.int k), some (.int z), some (.int (nI s)), some (.int (if lftB I b hn k g s then 1 else 0)), some (.int (nI g))] [.int (if cntB X k g then 1 else 0)] X r J _
      refine x_if_eq (t := 57) (q := 42) dX12_left_39 (by decide) rfl (fun c39 => ?_) (fun c39 => ?_)
      · refine x_iconst (1) (q := 58) dX12_left_57 rfl (by decide) ?_
        refine x_goto (t := 62) dX12_left_58 (by decide) ?_
        refine x_istore (L2 := [some (.ref 100), some (.int k), some (.int z), some (.int (nI s)), some (.int 1), some (.int (nI g))]) (q := 64) dX12_left_62 rfl (by decide) rfl rfl ?_
        obtain ⟨v1, ev1⟩ : ∃ y : Int32, y = (nI g) + 1 := ⟨_, rfl⟩
        refine x_iinc (v := v1) (L2 := [some (.ref 100), some (.int k), some (.int z), some (.int (nI s)), some (.int 1), some (.int v1)]) (q := 67) dX12_left_64 rfl (by decide) rfl rfl (by rw [ev1]; rfl) rfl ?_
        refine x_goto (t := 18) dX12_left_67 (by decide) ?_
        have ec := cntB_k (k := k) (g := g) hX
        have ef := gfit_k (hn := hn) hX hb (gl_y g4 h8 (show g < gn by omega))
        have hlg : lftB I b hn k g s = true := by
          cases q : lftB I b hn k g s
          · rw [q] at c29; exact absurd rfl c29
          · rfl
        rw [show v1 = nI (g + 1) by rw [ev1, nI_p1]]
        have e9 : (1 : Int32) = if lftB I b hn k (g + 1) s then 1 else 0 := by
          show _ = if (lftB I b hn k g s && (!cntB I k g || gfit I b hn g s)) then 1 else 0
          rw [hlg, ← ec, ← ef]
          first | (cases q : cntB X k g <;> cases q2 : gfit X b hn g s <;> simp_all)
        rw [e9]
        exact ih (g + 1) X (by omega) hX
      · refine x_aload_n (q := 43) dX12_left_42 rfl rfl ?_
        refine x_iload (q := 45) dX12_left_43 rfl rfl ?_
        refine x_aload_n (q := 46) dX12_left_45 rfl rfl ?_
        refine q_gr (K := 31) (b := 123) (q := 49) dX12_left_46 rfl cl_12 (by decide) tw_1113 rfl rfl rfl ?_
        refine x_iload_n (q := 50) dX12_left_49 rfl rfl ?_
        refine q_iald (q := 51) dX12_left_50 rfl rfl (vp_in_nI (by omega) (by decide)) ?_
        refine q_callV (ci := 12) (N := 79) (T := TX12) (As := [.int (nI g), .int (X 123 (nI s).toNatClampNeg)]) (rest := []) (q := 54) dX12_left_51 rfl okX12_isSo tw_1540 rfl rfl (by rw [hcs, hslp]; exact c_isSo (s := s) hLX.1 hLX.2.2.1 g1 (GlA_k hX hb h8 g4) (by omega) hshX r J) rfl rfl (Nat.le_of_ble_eq_true rfl) ⟨by decide, by decide⟩ ⟨rfl, rfl⟩ (fun rv_ Y r_ J_ hv_ => ?_)
        obtain ⟨a1_, hk, a3_, a4_⟩ := hv_
        rw [a1_, a3_, a4_]
        show Wq MX12_left 54 [some (.ref 100), some (.int k), some (.int z), some (.int (nI s)), some (.int (if lftB I b hn k g s then 1 else 0)), some (.int (nI g))] [.int (if gfit X b hn g s then 1 else 0)] Y r J _
        refine x_if_eq (t := 61) (q := 57) dX12_left_54 (by decide) rfl (fun c54 => ?_) (fun c54 => ?_)
        · refine x_iconst (0) (q := 62) dX12_left_61 rfl (by decide) ?_
          refine x_istore (L2 := [some (.ref 100), some (.int k), some (.int z), some (.int (nI s)), some (.int 0), some (.int (nI g))]) (q := 64) dX12_left_62 rfl (by decide) rfl rfl ?_
          obtain ⟨v2, ev2⟩ : ∃ y : Int32, y = (nI g) + 1 := ⟨_, rfl⟩
          refine x_iinc (v := v2) (L2 := [some (.ref 100), some (.int k), some (.int z), some (.int (nI s)), some (.int 0), some (.int v2)]) (q := 67) dX12_left_64 rfl (by decide) rfl rfl (by rw [ev2]; rfl) rfl ?_
          refine x_goto (t := 18) dX12_left_67 (by decide) ?_
          have ec := cntB_k (k := k) (g := g) hX
          have ef := gfit_k (hn := hn) hX hb (gl_y g4 h8 (show g < gn by omega))
          have hlg : lftB I b hn k g s = true := by
            cases q : lftB I b hn k g s
            · rw [q] at c29; exact absurd rfl c29
            · rfl
          rw [show v2 = nI (g + 1) by rw [ev2, nI_p1]]
          have e9 : (0 : Int32) = if lftB I b hn k (g + 1) s then 1 else 0 := by
            show _ = if (lftB I b hn k g s && (!cntB I k g || gfit I b hn g s)) then 1 else 0
            rw [hlg, ← ec, ← ef]
            first | (cases q : cntB X k g <;> cases q2 : gfit X b hn g s <;> simp_all)
          rw [e9]
          exact ih (g + 1) Y (by omega) (hX.tr hk)
        · refine x_iconst (1) (q := 58) dX12_left_57 rfl (by decide) ?_
          refine x_goto (t := 62) dX12_left_58 (by decide) ?_
          refine x_istore (L2 := [some (.ref 100), some (.int k), some (.int z), some (.int (nI s)), some (.int 1), some (.int (nI g))]) (q := 64) dX12_left_62 rfl (by decide) rfl rfl ?_
          obtain ⟨v3, ev3⟩ : ∃ y : Int32, y = (nI g) + 1 := ⟨_, rfl⟩
          refine x_iinc (v := v3) (L2 := [some (.ref 100), some (.int k), some (.int z), some (.int (nI s)), some (.int 1), some (.int v3)]) (q := 67) dX12_left_64 rfl (by decide) rfl rfl (by rw [ev3]; rfl) rfl ?_
          refine x_goto (t := 18) dX12_left_67 (by decide) ?_
          have ec := cntB_k (k := k) (g := g) hX
          have ef := gfit_k (hn := hn) hX hb (gl_y g4 h8 (show g < gn by omega))
          have hlg : lftB I b hn k g s = true := by
            cases q : lftB I b hn k g s
            · rw [q] at c29; exact absurd rfl c29
            · rfl
          rw [show v3 = nI (g + 1) by rw [ev3, nI_p1]]
          have e9 : (1 : Int32) = if lftB I b hn k (g + 1) s then 1 else 0 := by
            show _ = if (lftB I b hn k g s && (!cntB I k g || gfit I b hn g s)) then 1 else 0
            rw [hlg, ← ec, ← ef]
            first | (cases q : cntB X k g <;> cases q2 : gfit X b hn g s <;> simp_all)
          rw [e9]
          exact ih (g + 1) Y (by omega) (hX.tr hk)
set_option maxRecDepth 100000 in
theorem l_Ml {I : MI} {b yn wn hn sn st gn : Nat} (hb : b ≤ 28) (h : RelL I b yn wn hn sn st) (g1 : gn ≤ 30) (g3 : I 100 72 = nI gn) (g4 : GlA I b yn hn sn gn) (k : Int32) (r : MR) (J : MJ) : ∀ (f : Nat) (s : Nat) (X : MI) (x4 x5 : Option Value) (_ : s + f = sn) (_ : Kp I X), Wq MX12_left 4 [some (.ref 100), some (.int k), some (.int (nI (bitsN (fun s => lftB I b hn k gn s) s))), some (.int (nI s)), x4, x5] [] X r J (Rk (nI (lftN I b hn sn gn k)) I r J) := by
  have h8 : yn ≤ 8 := h.1.2.2.1
  have hs7 : sn ≤ 7 := h.2.1.2.2.2.1
  have es : I 100 44 = nI sn := h.2.2.2.1.2.1
  intro f
  induction f with
  | zero =>
    intro s X x4 x5 hik hX
    have e44 : X 100 44 = nI sn := by rw [hX 100 44 (by unfold scr; omega)]; exact es
    refine x_iload_n (q := 5) dX12_left_4 rfl rfl ?_
    refine x_aload_n (q := 6) dX12_left_5 rfl rfl ?_
    refine q_gi (K := 44) (q := 9) dX12_left_6 rfl cl_12 (by decide) tw_1126 rfl rfl ?_
    refine x_icmp_ge (t := 91) (q := 12) dX12_left_9 (by decide) rfl (fun c9 => ?_) (fun c9 => absurd c9 (fun q => q (by rw [e44]; exact nI_le (by omega) (by omega))))
    refine x_iload_n (q := 92) dX12_left_91 rfl rfl ?_
    refine q_iret dX12_left_92 rfl ?_
    rw [show s = sn by omega]
    exact ⟨rfl, hX, rfl, rfl⟩
  | succ f ih =>
    intro s X x4 x5 hik hX
    have e44 : X 100 44 = nI sn := by rw [hX 100 44 (by unfold scr; omega)]; exact es
    refine x_iload_n (q := 5) dX12_left_4 rfl rfl ?_
    refine x_aload_n (q := 6) dX12_left_5 rfl rfl ?_
    refine q_gi (K := 44) (q := 9) dX12_left_6 rfl cl_12 (by decide) tw_1126 rfl rfl ?_
    refine x_icmp_ge (t := 91) (q := 12) dX12_left_9 (by decide) rfl (fun c9 => absurd c9 (by rw [e44]; exact nI_ge (by omega) (by omega))) (fun c9 => ?_)
    refine x_iconst (1) (q := 13) dX12_left_12 rfl (by decide) ?_
    refine x_istore (L2 := [some (.ref 100), some (.int k), some (.int (nI (bitsN (fun s => lftB I b hn k gn s) s))), some (.int (nI s)), some (.int 1), x5]) (q := 15) dX12_left_13 rfl (by decide) rfl rfl ?_
    refine x_iconst (0) (q := 16) dX12_left_15 rfl (by decide) ?_
    refine x_istore (L2 := [some (.ref 100), some (.int k), some (.int (nI (bitsN (fun s => lftB I b hn k gn s) s))), some (.int (nI s)), some (.int 1), some (.int 0)]) (q := 18) dX12_left_16 rfl (by decide) rfl rfl ?_
    refine l_Ml1 hb h g1 g3 g4 k r J (s := s) (by omega) _ _ (fun Y y5 hY => ?_) gn 0 X (by omega) hX
    refine x_iload_n (q := 71) dX12_left_70 rfl rfl ?_
    refine x_iload (q := 73) dX12_left_71 rfl rfl ?_
    refine x_if_eq (t := 82) (q := 76) dX12_left_73 (by decide) rfl (fun c73 => ?_) (fun c73 => ?_)
    · refine x_iconst (0) (q := 83) dX12_left_82 rfl (by decide) ?_
      refine x_ior (q := 84) dX12_left_83 rfl ?_
      refine x_nmi (fun v1 ev1 => ?_)
      refine x_istore_n (L2 := [some (.ref 100), some (.int k), some (.int v1), some (.int (nI s)), some (.int (if lftB I b hn k gn s then 1 else 0)), y5]) (q := 85) dX12_left_84 rfl (by decide) rfl rfl ?_
      obtain ⟨v2, ev2⟩ : ∃ y : Int32, y = (nI s) + 1 := ⟨_, rfl⟩
      refine x_iinc (v := v2) (L2 := [some (.ref 100), some (.int k), some (.int v1), some (.int v2), some (.int (if lftB I b hn k gn s then 1 else 0)), y5]) (q := 88) dX12_left_85 rfl (by decide) rfl rfl (by rw [ev2]; rfl) rfl ?_
      refine x_goto (t := 4) dX12_left_88 (by decide) ?_
      rw [show v2 = nI (s + 1) by rw [ev2, nI_p1]]
      have e9 : v1 = nI (bitsN (fun s => lftB I b hn k gn s) (s + 1)) := by
        rw [ev1]
        cases q : lftB I b hn k gn s
        · first | (exfalso; rw [q] at c73; exact absurd rfl c73) | (rw [show (0 : Int32) = nI 0 from rfl, nI_or, bitsN_1 _ s 0 (by simp [q])])
        · first | (exfalso; rw [q] at c73; exact absurd c73 (by decide)) | (rw [sh1 (by omega), nI_or, bitsN_1 _ s (2 ^ s) (by simp [q])])
      rw [e9]
      exact ih (s + 1) Y _ _ (by omega) hY
    · refine x_iconst (1) (q := 77) dX12_left_76 rfl (by decide) ?_
      refine x_iload_n (q := 78) dX12_left_77 rfl rfl ?_
      refine x_ishl (q := 79) dX12_left_78 rfl ?_
      refine x_goto (t := 83) dX12_left_79 (by decide) ?_
      refine x_ior (q := 84) dX12_left_83 rfl ?_
      refine x_nmi (fun v3 ev3 => ?_)
      refine x_istore_n (L2 := [some (.ref 100), some (.int k), some (.int v3), some (.int (nI s)), some (.int (if lftB I b hn k gn s then 1 else 0)), y5]) (q := 85) dX12_left_84 rfl (by decide) rfl rfl ?_
      obtain ⟨v4, ev4⟩ : ∃ y : Int32, y = (nI s) + 1 := ⟨_, rfl⟩
      refine x_iinc (v := v4) (L2 := [some (.ref 100), some (.int k), some (.int v3), some (.int v4), some (.int (if lftB I b hn k gn s then 1 else 0)), y5]) (q := 88) dX12_left_85 rfl (by decide) rfl rfl (by rw [ev4]; rfl) rfl ?_
      refine x_goto (t := 4) dX12_left_88 (by decide) ?_
      rw [show v4 = nI (s + 1) by rw [ev4, nI_p1]]
      have e9 : v3 = nI (bitsN (fun s => lftB I b hn k gn s) (s + 1)) := by
        rw [ev3]
        cases q : lftB I b hn k gn s
        · first | (exfalso; rw [q] at c73; exact absurd rfl c73) | (rw [show (0 : Int32) = nI 0 from rfl, nI_or, bitsN_1 _ s 0 (by simp [q])])
        · first | (exfalso; rw [q] at c73; exact absurd c73 (by decide)) | (rw [sh1 (by omega), nI_or, bitsN_1 _ s (2 ^ s) (by simp [q])])
      rw [e9]
      exact ih (s + 1) Y _ _ (by omega) hY
set_option maxRecDepth 100000 in
theorem c_Mleft {I : MI} {b yn wn hn sn st gn : Nat} (hb : b ≤ 28) (h : RelL I b yn wn hn sn st) (g1 : gn ≤ 30) (g3 : I 100 72 = nI gn) (g4 : GlA I b yn hn sn gn) (k : Int32) (r : MR) (J : MJ) : Cq yX12_left MX12_left [.ref 100, .int k] I r J (Rk (nI (lftN I b hn sn gn k)) I r J) := by
  have h8 : yn ≤ 8 := h.1.2.2.1
  have hs7 : sn ≤ 7 := h.2.1.2.2.2.1
  have es : I 100 44 = nI sn := h.2.2.2.1.2.1
  refine cq_of [some (.ref 100), some (.int k), none, none, none, none] 4 (by decide +kernel) rfl rfl (Nat.le_of_ble_eq_true rfl) rfl ?_
  refine x_iconst (0) (q := 1) dX12_left_0 rfl (by decide) ?_
  refine x_istore_n (L2 := [some (.ref 100), some (.int k), some (.int 0), none, none, none]) (q := 2) dX12_left_1 rfl (by decide) rfl rfl ?_
  refine x_iconst (0) (q := 3) dX12_left_2 rfl (by decide) ?_
  refine x_istore_n (L2 := [some (.ref 100), some (.int k), some (.int 0), some (.int 0), none, none]) (q := 4) dX12_left_3 rfl (by decide) rfl rfl ?_
  exact l_Ml hb h g1 g3 g4 k r J sn 0 I _ _ (by omega) Kp.rfl'
theorem op_left (k : Int32) : OpOk yX11_left MX11_left yX12_left MX12_left [.int k] := by
  intro I r J hrel
  obtain ⟨b, yn, wn, hn, sn, st, hr, hl, hR, hJ⟩ := hrel
  have hb := (refs_L hr).2
  have h8 : yn ≤ 8 := hl.1.2.2.1
  obtain ⟨gn, g1, g2, g3, g4⟩ := hl.2.2.2.2.2.1
  exact op_kp hr hl hR hJ (c_Xleft J hr hl g1 g2 g3 g4 k) (fun X hX q1 q2 => by
    have q := c_Mleft hb q1 g1 (by rw [hX 100 72 (by unfold scr; omega)]; exact g3) (GlA_k hX hb h8 g4) k r J
    rw [lftN_k hX hb h8 g4] at q
    exact q)
