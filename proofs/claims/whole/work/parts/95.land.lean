theorem rel_new {T : Nat → Nat} {n : Nat} {A V Z : MI} {L : MJ} {c y w h s : Nat} (hc : SH c = (15, 18)) (hrg : 2 ≤ c ∧ c + 26 ≤ 54) (hZ : ∀ i, i < 26 → Z (c + i) = A i) (hD : MD T n A y w h s V L) (cp : CP V Z) (fx : FX A y w h s Z) (d2 : Z 58 2 = 0) (d3 : Z 58 3 = 0) (d4 : Z 58 4 = A 0 16) (gr : ∀ z, z < y → (∀ j, j < 5 → gGet Z (60 + 2 * z) j = A (11 + 2 * z) j) ∧ ∀ j, 5 ≤ j → j < 9 → gGet Z (60 + 2 * z) j = 0) (g88 : Z 88 3 = 0) (b99 : ∀ k, k < 3 → Z 99 k = 0) : RelL Z c y w h s 0 := by
  obtain ⟨⟨k1, k5, k9, k12⟩, ⟨y8, w16, h12, s7⟩, -, hMN, hMy, hMh, hMs, hMw, tb, t256, k17, o4, o5, o6, o7, o8⟩ := hD
  obtain ⟨p1, p2, p3, p4, p5, p6, p7, p8⟩ := cp
  obtain ⟨x41, x42, x43, x44, x45, x46, x47, x55, x56, x57, x72, x61⟩ := fx
  have z0 : Z c = A 0 := hZ 0 (by decide)
  have zy : ∀ z, z < 8 → Z (c + 10 + 2 * z) = A (10 + 2 * z) ∧ Z (c + 11 + 2 * z) = A (11 + 2 * z) := fun z hz => ⟨by rw [show c + 10 + 2 * z = c + (10 + 2 * z) by omega]; exact hZ _ (by omega), by rw [show c + 11 + 2 * z = c + (11 + 2 * z) by omega]; exact hZ _ (by omega)⟩
  have z2 := hZ 2 (by decide)
  have z3 := hZ 3 (by decide)
  have z4 := hZ 4 (by decide)
  have z5 := hZ 5 (by decide)
  have z6 := hZ 6 (by decide)
  have z7 := hZ 7 (by decide)
  have z8 := hZ 8 (by decide)
  have z9 := hZ 9 (by decide)
  have oIb : ∀ {k j a : Nat} {d : Int32}, oM A V tb k j a d → Ib d 0 9999 → Ib (A 0 a) 0 9999 := fun {k j a d} o hd => by
    by_cases z : tb.testBit k = true
    · obtain ⟨v, v1, v2, -⟩ := o.2 z
      rw [v2]; exact ibn_ (by omega) (by omega) (by omega)
    · rw [(o.1 (eq_false_of_ne_true z)).2]; exact hd
  have i13 := oIb o4 ⟨by decide, by decide⟩
  have i14 := oIb o5 ⟨by decide, by decide⟩
  have i16 := oIb o7 ⟨by decide, by decide⟩
  have hla : ∀ z, z < y → laN Z c z = (A (10 + 2 * z) 4).toNatClampNeg := fun z hz => by unfold laN; rw [(zy z (by omega)).1]
  have la5 : ∀ z, z < y → (A (10 + 2 * z) 4).toNatClampNeg ≤ 5 ∧ ∀ j, j < (A (10 + 2 * z) 4).toNatClampNeg → Ib (A (11 + 2 * z) j) (-200) 200 := fun z hz => by
    obtain ⟨so, la, g1, g2, g3, g4, g5, g6, g7, g8⟩ := (hMy z hz).1
    rw [g3, nI_clamp (by omega)]
    exact ⟨g5, g8⟩
  refine ⟨⟨hc, by rw [z0]; exact k1, y8, by rw [z0]; exact k9, h12, fun z hz => ?_, ?_⟩, ⟨by rw [z0]; exact k5, w16, by rw [z0]; exact k12, s7, fun k hk => ?_, fun i hi => ?_, by rw [z0]; exact i13, by rw [z0]; exact i14, ?_⟩, ⟨x41, x43, fun z hz => ?_, fun k hk => ?_⟩, ⟨x42, x44, by rw [x45, z0], by rw [x46, z0], by rw [x47, z0], fun k hk => ?_, fun i hi a e ha he hw => ?_, fun a e ha he hne => ?_⟩, ⟨d2, x55, by decide, by rw [x56, d3], by rw [d3]; exact ⟨by decide, by decide⟩, by rw [x57, d4], by rw [d4]; exact i16, fun z hz => ?_⟩, ⟨0, by decide, g88, x72, fun g hg => absurd hg (by omega)⟩, fun k hk => ⟨by rw [p8 k hk, b99 k hk], Or.inl (b99 k hk), fun z => absurd (by rw [b99 k hk] at z; exact z) (by decide)⟩⟩
  · obtain ⟨so, la, g1, g2, g3, g4, g5, g6, g7, g8⟩ := (hMy z hz).1
    refine ⟨so, la, ?_, g2, ?_, g4, g5, ?_, ?_, fun j hj => ?_⟩
    · rw [(zy z (by omega)).1]; exact g1
    · rw [(zy z (by omega)).1]; exact g3
    · rw [(zy z (by omega)).1]; exact g6
    · rw [(zy z (by omega)).1]; exact g7
    · rw [(zy z (by omega)).2]; exact g8 j hj
  · unfold hOk
    rw [z5, z6, z7]
    exact ⟨fun k hk => (hMh.1 k hk).2, hMh.2⟩
  · rw [z8, z9]; exact (hMs k hk).2
  · obtain ⟨f, t, k, a1, a2, a3, a4, a5, a6, a7, a8, -⟩ := hMw.1 i hi
    exact ⟨f, t, k, by rw [z2]; exact a1, by rw [z3]; exact a2, by rw [z4]; exact a3, a4, a5, a6, a7, a8⟩
  · rw [z0]
    by_cases z : tb.testBit 6 = true
    · exact Or.inr (o8 z)
    · exact Or.inl (o6.1 (eq_false_of_ne_true z)).2
  · have q := (hMy z hz).2
    have q1 := p1 z (by omega)
    rw [(zy z (by omega)).1, (zy z (by omega)).2, hla z hz]
    refine ⟨q1.1.trans q.1, q1.2.1.trans q.2.1, q1.2.2.1.trans q.2.2.1, q1.2.2.2.trans q.2.2.2.1, fun j hj => ?_⟩
    have l5 := (la5 z hz).1
    rw [p2 (5 * z + j) (by omega)]
    exact q.2.2.2.2 j hj
  · have q := (hMh.1 k hk).1
    have q1 := p4 k (by omega)
    rw [z5, z6, z7]
    exact ⟨q1.1.trans q.1, q1.2.1.trans q.2.1, q1.2.2.trans q.2.2⟩
  · have q := (hMs k hk).1
    have q1 := p5 k (by omega)
    rw [z8, z9]
    exact ⟨q1.1.trans q.1, q1.2.trans q.2⟩
  · obtain ⟨f, t, k, a1, a2, a3, a4, a5, a6, a7, a8, a9, a10⟩ := hMw.1 i hi
    unfold wayIs at hw
    rw [z2, z3, a1, a2, nI_eq (by omega) (by omega), nI_eq (by omega) (by omega), nI_eq (by omega) (by omega), nI_eq (by omega) (by omega)] at hw
    rw [z4, a3, p3 (8 * a + e) (by omega)]
    rcases hw with hw | hw
    · rw [← hw.1, ← hw.2]; exact a9
    · rw [← hw.1, ← hw.2]; exact a10
  · rw [p3 (8 * a + e) (by omega)] at hne
    rcases hMw.2 a e ha he with q | ⟨i, hi, q⟩
    · exact absurd q hne
    · refine ⟨i, hi, ?_⟩
      unfold wayIs
      rw [z2, z3]
      exact q
  · have g := gr z hz
    have l5 := (la5 z hz).1
    have q := (hMy z hz).2
    have yv : ∀ j, 5 ≤ j → j < 9 → yGet Z z j = 0 := fun j j1 j2 => by
      unfold yGet
      rw [if_neg (by omega)]
      exact p7 _ (by omega)
    have e5 := g.2 5 (by decide) (by decide)
    have e6 := g.2 6 (by decide) (by decide)
    have e7 := g.2 7 (by decide) (by decide)
    have e8 := g.2 8 (by decide) (by decide)
    have c0 : (0 : Int32).toInt = 0 := by decide
    rw [hla z hz]
    refine ⟨⟨fun j hj => ?_, fun j j1 j2 => by rw [g.2 j j1 j2, yv j j1 j2]⟩, ⟨fun j hj => ?_, by rw [e5, c0]; decide, by rw [e6, c0]; decide, by rw [e7, c0]; decide, by rw [e5, e6, e7, c0]; decide, by rw [e8, c0]; decide, by rw [e8, c0]; decide⟩, ?_⟩
    · rw [g.1 j (by omega)]
      unfold yGet
      rw [if_pos (by omega), p6 (5 * z + j) (by omega)]
      exact (q.2.2.2.2 j hj).symm
    · rw [g.1 j (by omega)]
      have i := (la5 z hz).2 j hj
      exact ⟨by have := i.1; omega, by have := i.2; omega⟩
    · rw [e8, c0, d4]
      have i := i16.2
      omega
theorem gGet_c {X Y : MI} {g : Nat} (h1 : Y g = X g) (h2 : Y (g + 1) = X (g + 1)) : gGet Y g = gGet X g := by
  unfold gGet
  rw [h1, h2]
theorem op_land : OpOk yX11_land MX11_land yX12_land MX12_land [] := by
  intro I r J hrel
  obtain ⟨b, yn, wn, hn, sn, st, hr, hl, ⟨⟨tl, t17, e01, e11, hby⟩, hRf, hRt, hRo⟩, hJ⟩ := hrel
  obtain ⟨T, hTd⟩ : ∃ T : Nat → Nat, T = fun j => (I 101 j).toNatClampNeg := ⟨_, rfl⟩
  have hTj : ∀ j, j < tl → T j < 256 ∧ I 101 j = nI (T j) ∧ I 1 j = bI (T j) := fun j hj => by
    obtain ⟨c, c1, c2, c3⟩ := hby j hj
    have e : T j = c := by rw [hTd]; show (I 101 j).toNatClampNeg = c; rw [c2, nI_clamp (by omega)]
    rw [e]
    exact ⟨c1, c2, c3⟩
  have hTX : TX T tl I := ⟨t17, fun j hj => ⟨(hTj j hj).1, (hTj j hj).2.2⟩⟩
  obtain ⟨c, hc1⟩ : ∃ c, r 1 = c := ⟨_, rfl⟩
  have hbc : bcP b c := by
    rcases hr.2.2 with q | q
    · exact Or.inl ⟨q.1, hc1.symm.trans q.2⟩
    · exact Or.inr ⟨q.1, hc1.symm.trans q.2⟩
  have hbs := bc_s hbc
  have hdis : ∀ d, regL b d → ¬ regL c d := fun d q z => by
    unfold regL at q z
    rcases hbc with e | e <;> omega
  have hini := ini_n (X := I) (b := c)
  obtain ⟨R, hR⟩ : ∃ R, R = pF T tl (tl + 1) (0, 0, 0) (ini I c) := ⟨_, rfl⟩
  by_cases hf : R.1.1 = 0
  · refine ⟨R.2 0 1, cq_mono (fun v Y r1 K hv => ?_) (c_Xland_g hTX hJ hr hc1 hbc e01 (by rw [← hR]; exact hf))⟩
    rw [← hR] at hv
    obtain ⟨y, w, h, s, v1, v2, v3, v4, v5, v6, v7, v8, v9, v10, v11, v12, v13, v14, v15, v16⟩ := hv
    have hA1 : R.2 0 1 = nI y := v4.2.2.1
    refine ⟨by rw [v1, hA1], ?_⟩
    have hTM : TXM T tl Y := ⟨t17, fun j hj => ⟨(hTj j hj).1, by rw [v5 101 (by decide)]; exact (hTj j hj).2.1⟩⟩
    refine cq_mono (fun v2' Z r2 L hm => ?_) (c_Mland_g r1 K hTM (by rw [v5 100 (by decide)]; exact e11) hini hR hf)
    obtain ⟨y', w', h', s', V, m1, m2, m3, m4, m5, m6⟩ := hm
    have k0 := m3.1
    have l0 := m3.2.1
    have lc := v4.2.2.2.2.2.2
    obtain rfl : y' = y := (nI_eq (by omega) (by omega)).mp (k0.1.symm.trans hA1)
    refine ⟨by rw [m1, hA1], c, y', w', h', s', 0, by rw [m2]; exact v2, ?_, ⟨⟨0, by decide, ?_, m6.2.2.2.1, fun j hj => absurd hj (by omega)⟩, ⟨?_, ?_⟩, ⟨?_, ?_⟩, 0, by decide, ?_, m5.2.2.2.2.2.2.2.2.2.2.2, fun i hi => absurd hi (by omega)⟩, fun k hk => ?_⟩
    · have fz : ∀ d, d < 100 → Z d = Y d := fun d hd => m6.1 d (by omega) (by omega) (by omega) (by omega) (by omega)
      have hZ : ∀ i, i < 26 → Z (c + i) = R.2 i := fun i hi => by
        have := hbs.2.1
        rw [fz (c + i) (by omega)]; exact v4.1 i hi
      have zc : Y c = R.2 0 := v4.1 0 (by decide)
      refine rel_new hbs.1 hbs.2.1 hZ m3 m4 m5 ?_ ?_ ?_ (fun z hz => ?_) ?_ (fun k hk => ?_)
      · rw [fz 58 (by decide)]; exact v13
      · rw [fz 58 (by decide)]; exact v14
      · rw [fz 58 (by decide), v15, zc]
      · have g := v16 z hz
        have hy8 := l0.1
        rw [gGet_c (fz (60 + 2 * z) (by omega)) (fz (60 + 2 * z + 1) (by omega))]
        refine ⟨fun j hj => ?_, g.2⟩
        rw [g.1 j hj, show c + 11 + 2 * z = c + (11 + 2 * z) by omega, v4.1 (11 + 2 * z) (by omega)]
      · rw [fz 88 (by decide)]; exact v10
      · rw [fz 99 (by decide)]; exact v12 k hk
    · rw [m6.1 0 (by decide) (by decide) (by decide) (by decide) (by decide)]; exact v7
    · rw [m6.2.2.2.2.1, m6.1 54 (by decide) (by decide) (by decide) (by decide) (by decide)]; exact v8.symm
    · rw [m6.2.2.2.2.2, m6.1 54 (by decide) (by decide) (by decide) (by decide) (by decide)]; exact v9.symm
    · rw [m6.2.1, v5 100 (by decide), m6.1 0 (by decide) (by decide) (by decide) (by decide) (by decide), v6 11 (by decide)]; exact hRt.1
    · rw [m6.1 0 (by decide) (by decide) (by decide) (by decide) (by decide), v6 11 (by decide)]; exact hRt.2
    · rw [m6.1 80 (by decide) (by decide) (by decide) (by decide) (by decide)]; exact v11
    · rw [m6.2.2.1 56 k (by decide) (fun z => absurd z.1 (by decide))]; exact v3 k hk
  · refine ⟨-1, cq_mono (fun v Y r1 K hv => ?_) (c_Xland_b hTX hJ hr hc1 hbc e01 (by rw [← hR]; exact hf))⟩
    rw [← hR] at hv
    obtain ⟨v1, v2, v3, v4, v5, v6, v7, v8⟩ := hv
    refine ⟨v1, ?_⟩
    have hcr := hbs.2.1
    have hbr := hbs.2.2.2
    have fy : ∀ d, 56 ≤ d → Y d = I d := fun d hd => v4 d (by omega) (by omega) (fun z => by unfold regL at z; omega) (by omega)
    have hTM : TXM T tl Y := ⟨t17, fun j hj => ⟨(hTj j hj).1, by rw [fy 101 (by decide)]; exact (hTj j hj).2.1⟩⟩
    refine cq_mono (fun v2' Z r2 L hm => ?_) (c_Mland_b r1 K hTM (by rw [fy 100 (by decide)]; exact e11) hini hR hf)
    obtain ⟨m1, m2, m3, m4⟩ := hm
    have fz : ∀ d, 56 ≤ d → d ≠ 100 → ¬ (102 ≤ d ∧ d ≤ 113) → Z d = I d := fun d q1 q2 q3 => (m3.1 d q2 q3).trans (fy d q1)
    have fj : ∀ j, 9 ≤ j → ¬ (33 ≤ j ∧ j ≤ 40) → Z 100 j = I 100 j := fun j q1 q2 => by rw [m3.2.1 j q1 q2, fy 100 (by decide)]
    refine ⟨m1, b, yn, wn, hn, sn, st, by rw [m4]; exact v2, ?_, ⟨⟨0, by decide, ?_, m3.2.2.2, fun j hj => absurd hj (by omega)⟩, ⟨?_, ?_⟩, ⟨?_, ?_⟩, ?_⟩, fun k hk => ?_⟩
    · refine RelL_c (fun d d1 d2 d3 => ?_) ?_ (fun j hj => fj j (by omega) (by omega)) (by omega) hl
      · rcases d3 with q | q
        · have q' := hdis d q
          unfold regL at q
          rw [m3.1 d d2 (by omega)]
          exact v4 d (by omega) (by omega) q' (by omega)
        · unfold regM at q
          exact fz d (by omega) d2 (by omega)
      · rw [fz 88 (by decide) (by decide) (by decide)]
    · rw [m3.1 0 (by decide) (by decide)]; exact v6
    · rw [m2.2.2.1, m3.1 54 (by decide) (by decide), v7]
    · rw [m2.2.2.2.1, if_neg hf, m3.1 54 (by decide) (by decide), v8]
    · rw [fj 73 (by decide) (by decide), m3.1 0 (by decide) (by decide), v5 11 (by decide)]; exact hRt.1
    · rw [m3.1 0 (by decide) (by decide), v5 11 (by decide)]; exact hRt.2
    · obtain ⟨oc, o1, o2, o3, o4⟩ := hRo
      refine ⟨oc, o1, by rw [fz 80 (by decide) (by decide) (by decide)]; exact o2, by rw [fj 61 (by decide) (by decide)]; exact o3, fun i hi => ?_⟩
      rw [fz 130 (by decide) (by decide) (by decide), fz 84 (by decide) (by decide) (by decide)]
      exact o4 i hi
    · rw [m3.2.2.1 56 k (by decide) (fun z => absurd z.1 (by decide))]; exact v3 k hk
