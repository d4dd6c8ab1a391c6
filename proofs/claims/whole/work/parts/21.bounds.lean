def HB (N : Int) (G : GT) : Prop := 0 ≤ (G 5).toInt ∧ 0 ≤ (G 6).toInt ∧ 0 ≤ (G 7).toInt ∧ (G 5).toInt + (G 6).toInt + (G 7).toInt ≤ N ∧ 0 ≤ (G 8).toInt ∧ (G 8).toInt ≤ 20000
theorem HB_fall {N : Int} {fl rain : Int32} {G : GT} (hN : N ≤ 100000) (h : HB N G) (hr : 0 ≤ rain.toInt) (hf : rain.toInt ≤ fl.toInt) (h9 : fl.toInt ≤ 99) : HB (N + 99) (fallG fl rain G) ∧ (fallG fl rain G 6).toInt = (G 6).toInt + (fl.toInt - rain.toInt) := by
  obtain ⟨a5, a6, a7, as, a8, a8'⟩ := h
  have e1 : (G 5 + rain).toInt = (G 5).toInt + rain.toInt := Kit.i32_add (by omega) (by omega)
  have e2 : (fl - rain).toInt = fl.toInt - rain.toInt := Kit.i32_sub (by omega) (by omega)
  have e3 : (G 6 + (fl - rain)).toInt = (G 6).toInt + (fl.toInt - rain.toInt) := by rw [Kit.i32_add (by omega) (by omega), e2]
  have f5 : fallG fl rain G 5 = G 5 + rain := rfl
  have f6 : fallG fl rain G 6 = G 6 + (fl - rain) := rfl
  have f7 : fallG fl rain G 7 = G 7 := rfl
  have f8 : fallG fl rain G 8 = G 8 := rfl
  refine ⟨?_, by rw [f6, e3]⟩
  unfold HB
  rw [f5, f6, f7, f8, e1, e3]
  omega
theorem c2t : (2 : Int32).toInt = 2 := by decide
theorem half {p q : Int32} (h1 : -300 ≤ p.toInt ∧ p.toInt ≤ 300) (h2 : -300 ≤ q.toInt ∧ q.toInt ≤ 300) (h : q.toInt ≤ p.toInt) : 0 ≤ ((p - q) / 2).toInt ∧ 2 * ((p - q) / 2).toInt ≤ p.toInt - q.toInt := by
  have e1 : (p - q).toInt = p.toInt - q.toInt := Kit.i32_sub (by omega) (by omega)
  have e2 : ((p - q) / 2).toInt = (p.toInt - q.toInt).tdiv 2 := by rw [dv c2t (by decide), e1]
  obtain ⟨t1, -⟩ := td (a := p.toInt - q.toInt) (d := 2) (by decide)
  have := t1 (by omega)
  rw [e2]
  omega
theorem tw2 {x m : Int32} (hm : 0 ≤ m.toInt ∧ m.toInt ≤ 1000) : (2 * m).toInt = 2 * m.toInt := by
  rw [Kit.i32_mul (by rw [c2t]; omega) (by rw [c2t]; omega), c2t]
theorem HB_melt {N : Int} {G : GT} (hN : N ≤ 200000) (h : HB N G) (h0 : -250 ≤ (G 0).toInt ∧ (G 0).toInt ≤ 250) : HB N (meltG G) ∧ (-250 ≤ (meltG G 0).toInt ∧ (meltG G 0).toInt ≤ 250) ∧ (meltG G 6).toInt ≤ (G 6).toInt := by
  obtain ⟨a5, a6, a7, as, a8, a8'⟩ := h
  have hp := pointB a5 a6 a7 as (by omega) ⟨a8, a8'⟩
  unfold meltG
  by_cases hc : G 0 ≤ pointF G
  · rw [if_pos hc]
    have hc2 := Int32.le_iff_toInt_le.mp hc
    have hh := half (p := pointF G) (q := G 0) (by omega) (by omega) hc2
    have hm := mn (x := G 5) (y := (pointF G - G 0) / 2)
    generalize minJ (G 5) ((pointF G - G 0) / 2) = m at hm
    generalize (pointF G - G 0) / 2 = w at hh hm
    have em : (2 * m).toInt = 2 * m.toInt := tw2 (x := m) (by omega)
    have e5 : (G 5 - m).toInt = (G 5).toInt - m.toInt := Kit.i32_sub (by omega) (by omega)
    have e7 : (G 7 + m).toInt = (G 7).toInt + m.toInt := Kit.i32_add (by omega) (by omega)
    have e0 : (G 0 + 2 * m).toInt = (G 0).toInt + 2 * m.toInt := by rw [Kit.i32_add (by omega) (by omega), em]
    have f5 : upd (upd (upd G 5 (G 5 - m)) 7 (G 7 + m)) 0 (G 0 + 2 * m) 5 = G 5 - m := rfl
    have f6 : upd (upd (upd G 5 (G 5 - m)) 7 (G 7 + m)) 0 (G 0 + 2 * m) 6 = G 6 := rfl
    have f7 : upd (upd (upd G 5 (G 5 - m)) 7 (G 7 + m)) 0 (G 0 + 2 * m) 7 = G 7 + m := rfl
    have f8 : upd (upd (upd G 5 (G 5 - m)) 7 (G 7 + m)) 0 (G 0 + 2 * m) 8 = G 8 := rfl
    have f0 : upd (upd (upd G 5 (G 5 - m)) 7 (G 7 + m)) 0 (G 0 + 2 * m) 0 = G 0 + 2 * m := rfl
    unfold HB
    rw [f5, f6, f7, f8, f0, e5, e7, e0]
    omega
  · rw [if_neg hc]
    have hc2 : ¬ (G 0).toInt ≤ (pointF G).toInt := fun q => hc (Int32.le_iff_toInt_le.mpr q)
    have hh := half (p := G 0) (q := pointF G) (by omega) (by omega) (by omega)
    have hm := mn (x := G 6) (y := (G 0 - pointF G) / 2)
    generalize minJ (G 6) ((G 0 - pointF G) / 2) = m at hm ⊢
    generalize (G 0 - pointF G) / 2 = w at hh hm
    have em : (2 * m).toInt = 2 * m.toInt := tw2 (x := m) (by omega)
    have e1 : (G 0 - 2 * m).toInt = (G 0).toInt - 2 * m.toInt := by rw [Kit.i32_sub (by omega) (by omega), em]
    have hh2 := half (p := G 0 - 2 * m) (q := pointF G) (by omega) (by omega) (by omega)
    have hm2 := mn (x := G 7) (y := (G 0 - 2 * m - pointF G) / 2)
    generalize minJ (G 7) ((G 0 - 2 * m - pointF G) / 2) = t at hm2 ⊢
    generalize (G 0 - 2 * m - pointF G) / 2 = w2 at hh2 hm2
    have et : (2 * t).toInt = 2 * t.toInt := tw2 (x := t) (by omega)
    have e6 : (G 6 - m).toInt = (G 6).toInt - m.toInt := Kit.i32_sub (by omega) (by omega)
    have e7 : (G 7 - t).toInt = (G 7).toInt - t.toInt := Kit.i32_sub (by omega) (by omega)
    have e5a : (m + t).toInt = m.toInt + t.toInt := Kit.i32_add (by omega) (by omega)
    have e5 : (G 5 + (m + t)).toInt = (G 5).toInt + (m.toInt + t.toInt) := by rw [Kit.i32_add (by omega) (by omega), e5a]
    have e0 : (G 0 - 2 * m - 2 * t).toInt = (G 0).toInt - 2 * m.toInt - 2 * t.toInt := by rw [Kit.i32_sub (by omega) (by omega), e1, et]
    have f5 : upd (upd (upd (upd G 6 (G 6 - m)) 7 (G 7 - t)) 5 (G 5 + (m + t))) 0 (G 0 - 2 * m - 2 * t) 5 = G 5 + (m + t) := rfl
    have f6 : upd (upd (upd (upd G 6 (G 6 - m)) 7 (G 7 - t)) 5 (G 5 + (m + t))) 0 (G 0 - 2 * m - 2 * t) 6 = G 6 - m := rfl
    have f7 : upd (upd (upd (upd G 6 (G 6 - m)) 7 (G 7 - t)) 5 (G 5 + (m + t))) 0 (G 0 - 2 * m - 2 * t) 7 = G 7 - t := rfl
    have f8 : upd (upd (upd (upd G 6 (G 6 - m)) 7 (G 7 - t)) 5 (G 5 + (m + t))) 0 (G 0 - 2 * m - 2 * t) 8 = G 8 := rfl
    have f0 : upd (upd (upd (upd G 6 (G 6 - m)) 7 (G 7 - t)) 5 (G 5 + (m + t))) 0 (G 0 - 2 * m - 2 * t) 0 = G 0 - 2 * m - 2 * t := rfl
    unfold HB
    rw [f5, f6, f7, f8, f0, e5, e6, e7, e0]
    omega
theorem meltG_mid {G : GT} {j : Nat} (h1 : 1 ≤ j) (h2 : j < 5) : meltG G j = G j := by
  have q0 : ¬ j = 0 := by omega
  have q5 : ¬ j = 5 := by omega
  have q6 : ¬ j = 6 := by omega
  have q7 : ¬ j = 7 := by omega
  unfold meltG
  split <;> simp [upd, q0, q5, q6, q7]
theorem share {s o w : Int32} (hs : 0 ≤ s.toInt ∧ s.toInt ≤ 20000) (ho : 0 ≤ o.toInt) (how : o.toInt ≤ w.toInt) (hw : w.toInt ≤ 100100) (hw0 : 0 < w.toInt) : 0 ≤ (s - s * o / w).toInt ∧ (s - s * o / w).toInt ≤ s.toInt := by
  have p1 : 0 ≤ s.toInt * o.toInt := Int.mul_nonneg hs.1 ho
  have p2 : s.toInt * o.toInt ≤ s.toInt * w.toInt := Int.mul_le_mul_of_nonneg_left how hs.1
  have p3 : s.toInt * w.toInt ≤ 20000 * w.toInt := Int.mul_le_mul_of_nonneg_right hs.2 (by omega)
  have e1 : (s * o).toInt = s.toInt * o.toInt := Kit.i32_mul (by omega) (by omega)
  have e2 : (s * o / w).toInt = (s.toInt * o.toInt).tdiv w.toInt := by rw [dv rfl hw0, e1]
  obtain ⟨t1, -⟩ := td (a := s.toInt * o.toInt) (d := w.toInt) hw0
  obtain ⟨u1, u2, u3⟩ := t1 p1
  generalize (s.toInt * o.toInt).tdiv w.toInt = q at e2 u1 u2 u3
  have u4 : q ≤ s.toInt := by
    refine Int.not_lt.mp (fun hlt => ?_)
    have h9 : w.toInt * (s.toInt + 1) ≤ w.toInt * q := Int.mul_le_mul_of_nonneg_left (by omega) (by omega)
    rw [Int.mul_add, Int.mul_comm w.toInt s.toInt] at h9
    omega
  have e3 : (s - s * o / w).toInt = s.toInt - q := by rw [Kit.i32_sub (by rw [e2]; omega) (by rw [e2]; omega), e2]
  rw [e3]
  omega
theorem WHf_k {so : Nat} (h : so < 4) : 10 ≤ (WHf so).toInt ∧ (WHf so).toInt ≤ 60 := by
  have : so = 0 ∨ so = 1 ∨ so = 2 ∨ so = 3 := by omega
  rcases this with rfl | rfl | rfl | rfl <;> decide
theorem ro_iff {x w : Int32} (hx : 0 ≤ x.toInt ∧ x.toInt ≤ 100) (hw : 0 ≤ w.toInt) : x < w ↔ ¬ w - x ≤ 0 := by
  have hr := Int32.toInt_lt w
  have e : (w - x).toInt = w.toInt - x.toInt := Kit.i32_sub (by omega) (by omega)
  rw [Int32.lt_iff_toInt_lt, Int32.le_iff_toInt_le, e, Int32.toInt_zero]
  omega
theorem HB_runOff {N : Int} {G : GT} {x : Int32} (hN : N ≤ 100100) (h : HB N G) (hx : 0 ≤ x.toInt ∧ x.toInt ≤ 100) : HB N (runOffG x G) := by
  obtain ⟨a5, a6, a7, as, a8, a8'⟩ := h
  unfold runOffG
  by_cases hc : G 5 - x ≤ 0
  · rw [if_pos hc]
    exact ⟨a5, a6, a7, as, a8, a8'⟩
  · rw [if_neg hc]
    have e : (G 5 - x).toInt = (G 5).toInt - x.toInt := Kit.i32_sub (by omega) (by omega)
    have hc2 : ¬ (G 5 - x).toInt ≤ 0 := fun q => hc (Int32.le_iff_toInt_le.mpr (by rw [Int32.toInt_zero]; exact q))
    have hs := share (s := G 8) (o := G 5 - x) (w := G 5) ⟨a8, a8'⟩ (by omega) (by omega) (by omega) (by omega)
    have f5 : upd (upd G 8 (G 8 - G 8 * (G 5 - x) / G 5)) 5 x 5 = x := rfl
    have f6 : upd (upd G 8 (G 8 - G 8 * (G 5 - x) / G 5)) 5 x 6 = G 6 := rfl
    have f7 : upd (upd G 8 (G 8 - G 8 * (G 5 - x) / G 5)) 5 x 7 = G 7 := rfl
    have f8 : upd (upd G 8 (G 8 - G 8 * (G 5 - x) / G 5)) 5 x 8 = G 8 - G 8 * (G 5 - x) / G 5 := rfl
    unfold HB
    rw [f5, f6, f7, f8]
    omega
theorem runOffG_lo {G : GT} {x : Int32} {j : Nat} (h5 : ¬ j = 5) (h8 : ¬ j = 8) : runOffG x G j = G j := by
  unfold runOffG
  split
  · rfl
  · simp [upd, h5, h8]
theorem c100 : (100 : Int32).toInt = 100 := by decide
theorem HB_salt {N : Int} {G : GT} {tr : Int32} (h : HB N G) (ht : 0 ≤ tr.toInt ∧ tr.toInt ≤ 99) : HB N (saltG tr G) := by
  obtain ⟨a5, a6, a7, as, a8, a8'⟩ := h
  have hs := share (s := G 8) (o := tr) (w := 100) ⟨a8, a8'⟩ ht.1 (by rw [c100]; omega) (by rw [c100]; omega) (by rw [c100]; omega)
  have f5 : saltG tr G 5 = G 5 := rfl
  have f6 : saltG tr G 6 = G 6 := rfl
  have f7 : saltG tr G 7 = G 7 := rfl
  have f8 : saltG tr G 8 = G 8 - G 8 * tr / 100 := rfl
  unfold HB
  rw [f5, f6, f7, f8]
  omega
theorem HB_pack {N : Int} {G : GT} {tr : Int32} (hN : N ≤ 200000) (h : HB N G) (ht : 0 ≤ tr.toInt ∧ tr.toInt ≤ 99) : HB N (packG tr G) ∧ (packG tr G 6).toInt ≤ (G 6).toInt := by
  obtain ⟨a5, a6, a7, as, a8, a8'⟩ := h
  have e1 : (tr / 20).toInt = tr.toInt.tdiv 20 := dv (by decide) (by decide)
  obtain ⟨t1, -⟩ := td (a := tr.toInt) (d := 20) (by decide)
  have t2 := t1 ht.1
  rw [← e1] at t2
  have hm := mn (x := G 6) (y := tr / 20)
  have f5 : packG tr G 5 = G 5 := rfl
  have f6 : packG tr G 6 = G 6 - minJ (G 6) (tr / 20) := rfl
  have f7 : packG tr G 7 = G 7 + minJ (G 6) (tr / 20) := rfl
  have f8 : packG tr G 8 = G 8 := rfl
  unfold HB
  rw [f5, f6, f7, f8]
  generalize minJ (G 6) (tr / 20) = m at hm ⊢
  have e6 : (G 6 - m).toInt = (G 6).toInt - m.toInt := Kit.i32_sub (by omega) (by omega)
  have e7 : (G 7 + m).toInt = (G 7).toInt + m.toInt := Kit.i32_add (by omega) (by omega)
  rw [e6, e7]
  omega
theorem saltG_lo {G : GT} {tr : Int32} {j : Nat} (h : j < 8) : saltG tr G j = G j := by
  have : ¬ j = 8 := by omega
  simp [saltG, upd, this]
theorem packG_lo {G : GT} {tr : Int32} {j : Nat} (h : j < 6) : packG tr G j = G j := by
  have q6 : ¬ j = 6 := by omega
  have q7 : ¬ j = 7 := by omega
  simp [packG, upd, q6, q7]
/-- a step keeps the bounds; what it asks of its numbers; snow grows by what falls as snow at most -/
theorem GB_step {so la n : Nat} {T fl wt tr : Int32} {G : GT} (hs : so < 4) (h1 : 1 ≤ la) (h5 : la ≤ 5) (hn : n ≤ 900) (he : EB T fl wt tr) (h : GB la n G) :
    GB la (n + 1) (stepG so la T fl wt tr G) ∧ 0 ≤ G 5 + fl * wt / 10 ∧ ¬ G 5 + fl * wt / 10 + (G 6 + (fl - fl * wt / 10)) + G 7 + 10 = 0 ∧
    (WHf so < meltG (fallG fl (fl * wt / 10) (warmG so la T G)) 5 ↔ ¬ meltG (fallG fl (fl * wt / 10) (warmG so la T G)) 5 - WHf so ≤ 0) ∧ (stepG so la T fl wt tr G 6).toInt ≤ (G 6).toInt + (fl.toInt - (fl * wt / 10).toInt) := by
  obtain ⟨hT, hf, hw, ht⟩ := he
  obtain ⟨hW, a5, a6, a7, as, a8, a8'⟩ := h
  have hr := rainB hf hw
  have w5 : warmG so la T G 5 = G 5 := warmG_hi T G h5 (by decide)
  have w6 : warmG so la T G 6 = G 6 := warmG_hi T G h5 (by decide)
  have w7 : warmG so la T G 7 = G 7 := warmG_hi T G h5 (by decide)
  have w8 : warmG so la T G 8 = G 8 := warmG_hi T G h5 (by decide)
  have hWw := BW_warm hs h1 hT hW
  have b1 : HB (100 * n) (warmG so la T G) := by
    unfold HB
    rw [w5, w6, w7, w8]
    exact ⟨a5, a6, a7, as, a8, a8'⟩
  rw [show stepG so la T fl wt tr G = stepR so la T fl (fl * wt / 10) tr G from rfl]
  generalize fl * wt / 10 = rain at hr ⊢
  unfold stepR
  obtain ⟨b2, s2⟩ := HB_fall (by omega) b1 hr.1 hr.2 hf.2
  have f0 : fallG fl rain (warmG so la T G) 0 = warmG so la T G 0 := rfl
  obtain ⟨b3, t3, s3⟩ := HB_melt (by omega) b2 (by rw [f0]; exact hWw 0 (by omega))
  have b4 := HB_runOff (x := WHf so) (by omega) b3 ⟨by have := (WHf_k hs).1; omega, by have := (WHf_k hs).2; omega⟩
  have b5 := HB_salt b4 ht
  obtain ⟨b6, s6⟩ := HB_pack (tr := tr) (by omega) b5 ht
  have e1 : (G 5 + rain).toInt = (G 5).toInt + rain.toInt := Kit.i32_add (by omega) (by omega)
  refine ⟨⟨fun j hj => ?_, ?_⟩, ?_, ?_, ?_, ?_⟩
  · rw [packG_lo (by omega), saltG_lo (by omega), runOffG_lo (by omega) (by omega)]
    by_cases hj0 : j = 0
    · rw [hj0]
      exact t3
    · rw [meltG_mid (by omega) (by omega)]
      have q : fallG fl rain (warmG so la T G) j = warmG so la T G j := by
        have q5 : ¬ j = 5 := by omega
        have q6 : ¬ j = 6 := by omega
        simp [fallG, upd, q5, q6]
      rw [q]
      exact hWw j hj
  · obtain ⟨c5, c6, c7, cs, c8, c8'⟩ := b6
    exact ⟨c5, c6, c7, by show _ ≤ 100 * ((n + 1 : Nat) : Int); rw [Int.natCast_add]; exact Int.le_trans cs (by omega), c8, c8'⟩
  · rw [Int32.le_iff_toInt_le, e1, Int32.toInt_zero]
    omega
  · intro q
    have e2 : (fl - rain).toInt = fl.toInt - rain.toInt := Kit.i32_sub (by omega) (by omega)
    have e3 : (G 6 + (fl - rain)).toInt = (G 6).toInt + (fl.toInt - rain.toInt) := by rw [Kit.i32_add (by omega) (by omega), e2]
    have e4 : (G 5 + rain + (G 6 + (fl - rain))).toInt = (G 5).toInt + rain.toInt + ((G 6).toInt + (fl.toInt - rain.toInt)) := by rw [Kit.i32_add (by omega) (by omega), e1, e3]
    have e5 : (G 5 + rain + (G 6 + (fl - rain)) + G 7).toInt = (G 5).toInt + rain.toInt + ((G 6).toInt + (fl.toInt - rain.toInt)) + (G 7).toInt := by rw [Kit.i32_add (by omega) (by omega), e4]
    have c10 : (10 : Int32).toInt = 10 := by decide
    have e6 : (G 5 + rain + (G 6 + (fl - rain)) + G 7 + 10).toInt = (G 5).toInt + rain.toInt + ((G 6).toInt + (fl.toInt - rain.toInt)) + (G 7).toInt + 10 := by rw [Kit.i32_add (by omega) (by omega), e5, c10]
    rw [q, Int32.toInt_zero] at e6
    omega
  · exact ro_iff ⟨by have := (WHf_k hs).1; omega, by have := (WHf_k hs).2; omega⟩ b3.1
  · have g6 : saltG tr (runOffG (WHf so) (meltG (fallG fl rain (warmG so la T G)))) 6 = meltG (fallG fl rain (warmG so la T G)) 6 := by
      rw [saltG_lo (by decide), runOffG_lo (by decide) (by decide)]
    rw [g6] at s6
    rw [w6] at s2
    omega
