theorem upc {I : MI} {a K c : Nat} {x : Int32} (h : c ≠ a) : upI I a K x c = I c := by
  funext j
  simp [upI, h]
theorem ups {I : MI} {a K j : Nat} {x : Int32} (h : j ≠ K) : upI I a K x a j = I a j := by
  simp [upI, h]
theorem upq {I : MI} {a K : Nat} {x : Int32} : upI I a K x a K = x := by
  simp [upI]
/-- a cell's place that the land's part doesn't speak of -/
def offL (b a K : Nat) : Prop := (¬ a = 100 → ¬ (regL b a ∨ regM a ∨ a = 58 ∨ (60 ≤ a ∧ a < 76) ∨ a = 126 ∨ a = 127 ∨ (89 ≤ a ∧ a ≤ 91) ∨ (134 ≤ a ∧ a ≤ 140) ∨ (96 ≤ a ∧ a ≤ 99) ∨ (142 ≤ a ∧ a ≤ 145))) ∧ ¬ (a = 88 ∧ K = 3) ∧ (a = 100 → ¬ ((41 ≤ K ∧ K ≤ 47) ∨ (55 ≤ K ∧ K ≤ 57) ∨ K = 72))
theorem RelL_up {I : MI} {b yn wn hn sn st a K : Nat} {x : Int32} (ho : offL b a K) (hb : b ≤ 28) (h : RelL I b yn wn hn sn st) : RelL (upI I a K x) b yn wn hn sn st := by
  obtain ⟨o1, o2, o3⟩ := ho
  refine RelL_c (fun c q1 q2 q3 => upc (fun e => ?_)) ?_ (fun j hj => ?_) hb h
  · subst e
    exact o1 q2 q3
  · by_cases e : 88 = a
    · subst e
      exact ups (fun q => o2 ⟨rfl, q.symm⟩)
    · rw [upc e]
  · by_cases e : 100 = a
    · subst e
      exact ups (fun q => o3 rfl (q ▸ hj))
    · rw [upc e]
/-- the end of a call that changes numbers alone -/
theorem op_put {yx : MethodName} {Mx : MX} {ym : MethodName} {Mm : MX} {args : List Value} {I I1 I2 : MI} {r : MR} {J : MJ} {res : Int32} (hx : Cq yx Mx (.ref 0 :: args) I r J (Rt (some (.int res)) I1 r J)) (hm : Cq ym Mm (.ref 100 :: args) I1 r J (Rt (some (.int res)) I2 r J)) (hrel : Rel I2 r J) : ∃ res : Int32, Cq yx Mx (.ref 0 :: args) I r J (fun v I1 r1 J1 => v = some (.int res) ∧ Cq ym Mm (.ref 100 :: args) I1 r1 J1 (fun v2 I2 r2 J2 => v2 = some (.int res) ∧ Rel I2 r2 J2)) := by
  refine op_of (res := res) hx (fun v I1' r1 J1 hp => ?_)
  obtain ⟨e1, e2, e3, e4⟩ := hp
  rw [e2, e3, e4]
  refine ⟨e1, cq_mono (fun v2 I2' r2 J2 hq => ?_) hm⟩
  obtain ⟨f1, f2, f3, f4⟩ := hq
  rw [f2, f3, f4]
  exact ⟨f1, hrel⟩
set_option maxRecDepth 100000 in
theorem c_Xend_g {I : MI} {tl k : Nat} (r : MR) (J : MJ) (e1 : I 0 1 = nI tl) (ht : tl ≤ 1700) (hk : k ≤ tl) : Cq yX11_end MX11_end [.ref 0, .int (nI k)] I r J (Rt (some (.int (nI k))) (upI I 0 1 (nI k)) r J) := by
  refine cq_of [some (.ref 0), some (.int (nI k))] 0 (by decide +kernel) rfl rfl (Nat.le_of_ble_eq_true rfl) rfl ?_
  refine x_iload_n (q := 1) dX11_end_0 rfl rfl ?_
  refine x_if_lt (t := 12) (q := 4) dX11_end_1 (by decide) rfl (fun c1 => absurd c1 (nI_pos (by omega))) (fun c1 => ?_)
  refine x_iload_n (q := 5) dX11_end_4 rfl rfl ?_
  refine x_aload_n (q := 6) dX11_end_5 rfl rfl ?_
  refine q_gi (K := 1) (q := 9) dX11_end_6 rfl cl_11 (by decide) tw_568 rfl rfl ?_
  refine x_icmp_le (t := 14) (q := 12) dX11_end_9 (by decide) rfl (fun c9 => ?_) (fun c9 => absurd c9 (fun q => q (by rw [e1]; exact nI_le hk (by omega))))
  refine x_aload_n (q := 15) dX11_end_14 rfl rfl ?_
  refine x_iload_n (q := 16) dX11_end_15 rfl rfl ?_
  refine q_pi (K := 1) (q := 19) dX11_end_16 rfl cl_11 (by decide) tw_568 rfl rfl rfl rfl (fun I1 eI1 => ?_)
  refine x_iload_n (q := 20) dX11_end_19 rfl rfl ?_
  refine q_iret dX11_end_20 rfl ?_
  exact ⟨rfl, eI1, rfl, rfl⟩
set_option maxRecDepth 100000 in
theorem c_Xend_b {I : MI} {tl : Nat} {x : Int32} (r : MR) (J : MJ) (e1 : I 0 1 = nI tl) (ht : tl ≤ 1700) (hno : ¬ ∃ k, k ≤ tl ∧ x = nI k) : Cq yX11_end MX11_end [.ref 0, .int x] I r J (Rt (some (.int (-1))) I r J) := by
  refine cq_of [some (.ref 0), some (.int x)] 0 (by decide +kernel) rfl rfl (Nat.le_of_ble_eq_true rfl) rfl ?_
  refine x_iload_n (q := 1) dX11_end_0 rfl rfl ?_
  refine x_if_lt (t := 12) (q := 4) dX11_end_1 (by decide) rfl (fun c1 => ?_) (fun c1 => ?_)
  · refine x_iconst (-1) (q := 13) dX11_end_12 rfl (by decide) ?_
    refine q_iret dX11_end_13 rfl ?_
    exact ⟨rfl, rfl, rfl, rfl⟩
  · refine x_iload_n (q := 5) dX11_end_4 rfl rfl ?_
    refine x_aload_n (q := 6) dX11_end_5 rfl rfl ?_
    refine q_gi (K := 1) (q := 9) dX11_end_6 rfl cl_11 (by decide) tw_568 rfl rfl ?_
    refine x_icmp_le (t := 14) (q := 12) dX11_end_9 (by decide) rfl (fun c9 => ?_) (fun c9 => ?_)
    · exfalso
      obtain ⟨j, hj, rfl⟩ := nI_of c1
      refine hno ⟨j, ?_, rfl⟩
      rw [e1] at c9
      have := Int32.le_iff_toInt_le.mp c9
      rw [nI_toInt hj, nI_toInt (by omega)] at this
      omega
    · refine x_iconst (-1) (q := 13) dX11_end_12 rfl (by decide) ?_
      refine q_iret dX11_end_13 rfl ?_
      exact ⟨rfl, rfl, rfl, rfl⟩
set_option maxRecDepth 100000 in
theorem c_Mend_g {I : MI} {tl k : Nat} (r : MR) (J : MJ) (e1 : I 100 1 = nI tl) (ht : tl ≤ 1700) (hk : k ≤ tl) : Cq yX12_end MX12_end [.ref 100, .int (nI k)] I r J (Rt (some (.int (nI k))) (upI I 100 1 (nI k)) r J) := by
  refine cq_of [some (.ref 100), some (.int (nI k))] 0 (by decide +kernel) rfl rfl (Nat.le_of_ble_eq_true rfl) rfl ?_
  refine x_iload_n (q := 1) dX12_end_0 rfl rfl ?_
  refine x_if_lt (t := 12) (q := 4) dX12_end_1 (by decide) rfl (fun c1 => absurd c1 (nI_pos (by omega))) (fun c1 => ?_)
  refine x_iload_n (q := 5) dX12_end_4 rfl rfl ?_
  refine x_aload_n (q := 6) dX12_end_5 rfl rfl ?_
  refine q_gi (K := 1) (q := 9) dX12_end_6 rfl cl_12 (by decide) tw_1083 rfl rfl ?_
  refine x_icmp_le (t := 14) (q := 12) dX12_end_9 (by decide) rfl (fun c9 => ?_) (fun c9 => absurd c9 (fun q => q (by rw [e1]; exact nI_le hk (by omega))))
  refine x_aload_n (q := 15) dX12_end_14 rfl rfl ?_
  refine x_iload_n (q := 16) dX12_end_15 rfl rfl ?_
  refine q_pi (K := 1) (q := 19) dX12_end_16 rfl cl_12 (by decide) tw_1083 rfl rfl rfl rfl (fun I1 eI1 => ?_)
  refine x_iload_n (q := 20) dX12_end_19 rfl rfl ?_
  refine q_iret dX12_end_20 rfl ?_
  exact ⟨rfl, eI1, rfl, rfl⟩
set_option maxRecDepth 100000 in
theorem c_Mend_b {I : MI} {tl : Nat} {x : Int32} (r : MR) (J : MJ) (e1 : I 100 1 = nI tl) (ht : tl ≤ 1700) (hno : ¬ ∃ k, k ≤ tl ∧ x = nI k) : Cq yX12_end MX12_end [.ref 100, .int x] I r J (Rt (some (.int (-1))) I r J) := by
  refine cq_of [some (.ref 100), some (.int x)] 0 (by decide +kernel) rfl rfl (Nat.le_of_ble_eq_true rfl) rfl ?_
  refine x_iload_n (q := 1) dX12_end_0 rfl rfl ?_
  refine x_if_lt (t := 12) (q := 4) dX12_end_1 (by decide) rfl (fun c1 => ?_) (fun c1 => ?_)
  · refine x_iconst (-1) (q := 13) dX12_end_12 rfl (by decide) ?_
    refine q_iret dX12_end_13 rfl ?_
    exact ⟨rfl, rfl, rfl, rfl⟩
  · refine x_iload_n (q := 5) dX12_end_4 rfl rfl ?_
    refine x_aload_n (q := 6) dX12_end_5 rfl rfl ?_
    refine q_gi (K := 1) (q := 9) dX12_end_6 rfl cl_12 (by decide) tw_1083 rfl rfl ?_
    refine x_icmp_le (t := 14) (q := 12) dX12_end_9 (by decide) rfl (fun c9 => ?_) (fun c9 => ?_)
    · exfalso
      obtain ⟨j, hj, rfl⟩ := nI_of c1
      refine hno ⟨j, ?_, rfl⟩
      rw [e1] at c9
      have := Int32.le_iff_toInt_le.mp c9
      rw [nI_toInt hj, nI_toInt (by omega)] at this
      omega
    · refine x_iconst (-1) (q := 13) dX12_end_12 rfl (by decide) ?_
      refine q_iret dX12_end_13 rfl ?_
      exact ⟨rfl, rfl, rfl, rfl⟩
theorem offL_0 {r : MR} {b K : Nat} (h : RefOk r b) : offL b 0 K := by
  rcases h.2.2 with ⟨q, -⟩ | ⟨q, -⟩ <;> subst q <;> (unfold offL regL regM; omega)
theorem offL_100 {b K : Nat} (h : ¬ ((41 ≤ K ∧ K ≤ 47) ∨ (55 ≤ K ∧ K ≤ 57) ∨ K = 72)) : offL b 100 K := ⟨fun q => absurd rfl q, by omega, fun _ => h⟩
theorem op_end (x : Int32) : OpOk yX11_end MX11_end yX12_end MX12_end [.int x] := by
  intro I r J hrel
  obtain ⟨b, yn, wn, hn, sn, st, hr, hl, hR, hJ⟩ := hrel
  have hb := (refs_L hr).2
  obtain ⟨⟨tl, t1, t2, t3, t4⟩, r2, r3, r4⟩ := hR
  by_cases h1 : ∃ k, k ≤ tl ∧ x = nI k
  · obtain ⟨k, hk, rfl⟩ := h1
    refine op_put (c_Xend_g r J t2 t1 hk) (c_Mend_g r J (by rw [upc (by decide)]; exact t3) t1 hk) ⟨b, yn, wn, hn, sn, st, hr, RelL_up (offL_100 (by omega)) hb (RelL_up (offL_0 hr) hb hl), ⟨⟨k, by omega, ?_, upq, fun j hj => ?_⟩, ?_, ?_, ?_⟩, hJ⟩
    · rw [upc (by decide), upq]
    · rw [upc (by decide), upc (by decide), upc (by decide), upc (by decide)]
      exact t4 j (by omega)
    · unfold RFault at r2 ⊢
      rw [ups (by decide), ups (by decide), upc (by decide), upc (by decide), upc (by decide)]
      exact r2
    · unfold RTime at r3 ⊢
      rw [ups (by decide), upc (by decide), upc (by decide), ups (by decide)]
      exact r3
    · unfold ROrd at r4 ⊢
      rw [ups (by decide), upc (by decide), upc (by decide), upc (by decide), upc (by decide), upc (by decide), upc (by decide), upc (by decide)]
      exact r4
  · exact op_put (c_Xend_b r J t2 t1 h1) (c_Mend_b r J t3 t1 h1) ⟨b, yn, wn, hn, sn, st, hr, hl, ⟨⟨tl, t1, t2, t3, t4⟩, r2, r3, r4⟩, hJ⟩
