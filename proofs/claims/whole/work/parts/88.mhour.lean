def DA (B Y : MI) : Prop := (∀ c, 103 ≤ c → c ≤ 113 → Y c = B c) ∧ ∀ j, 33 ≤ j → j ≤ 40 → Y 100 j = B 100 j
def FL (M : MI) (J : MJ) (Y : MI) (K : MJ) : Prop := (∀ c, c ≠ 100 → ¬ (102 ≤ c ∧ c ≤ 113) → Y c = M c) ∧ (∀ j, j ≠ 2 → j ≠ 3 → j ≠ 4 → j ≠ 6 → j ≠ 7 → j ≠ 8 → ¬ (33 ≤ j ∧ j ≤ 40) → Y 100 j = M 100 j) ∧ ∀ c k, c ≠ 102 → ¬ (c = 100 ∧ k = 9) → K c k = J c k
theorem FL.rf {M : MI} {J : MJ} : FL M J M J := ⟨fun _ _ _ => rfl, fun _ _ _ _ _ _ _ _ => rfl, fun _ _ _ _ => rfl⟩
theorem FL.tr {M Y Z : MI} {J K L : MJ} (h1 : FL M J Y K) (h2 : FL Y K Z L) : FL M J Z L := ⟨fun c a b => (h2.1 c a b).trans (h1.1 c a b), fun j a1 a2 a3 a4 a5 a6 a7 => (h2.2.1 j a1 a2 a3 a4 a5 a6 a7).trans (h1.2.1 j a1 a2 a3 a4 a5 a6 a7), fun c k a b => (h2.2.2 c k a b).trans (h1.2.2 c k a b)⟩
theorem FM.l {M Y : MI} {J K : MJ} (h : FM M J Y K) : FL M J Y K := ⟨fun c a _ => h.1 c a, fun j a1 a2 a3 a4 a5 a6 _ => h.2.1 j a1 a2 a3 a4 a5 a6, fun c k _ b => h.2.2 c k b⟩
theorem FL_u {M : MI} {J : MJ} {c j : Nat} {x : Int32} (h : 103 ≤ c ∧ c ≤ 113) : FL M J (upI M c j x) J := ⟨fun d _ b => upc (fun z => b (by omega)), fun _ _ _ _ _ _ _ _ => by rw [upc (by omega)], fun _ _ _ _ => rfl⟩
theorem FL_0 {M : MI} {J : MJ} {j : Nat} {x : Int32} (h : 33 ≤ j ∧ j ≤ 40) : FL M J (upI M 100 j x) J := ⟨fun d a _ => upc a, fun i _ _ _ _ _ _ b => ups (fun z => b (by omega)), fun _ _ _ _ => rfl⟩
theorem FL_n {M : MI} {J : MJ} {k : Nat} {x : Int64} : FL M J M (upJ J 102 k x) := ⟨fun _ _ _ => rfl, fun _ _ _ _ _ _ _ _ => rfl, fun c i a _ => upJ_o (fun z => a z.1)⟩
theorem MLx_c {T : Nat → Nat} {n q : Nat} {Y Z : MI} {K L : MJ} (h : MLx T n q Y K) (e : ∀ j, j < 9 → Z 100 j = Y 100 j) (e2 : L 100 9 = K 100 9) : MLx T n q Z L := by
  obtain ⟨a1, a2, a3, a4, a5⟩ := h
  exact ⟨by rw [e 4 (by decide)]; exact a1, by rw [e 6 (by decide)]; exact a2, by rw [e 7 (by decide)]; exact a3, fun z => by rw [e 8 (by decide)]; exact a4 z, fun z => by rw [e2]; exact a5 z⟩
theorem PM_c {T : Nat → Nat} {n : Nat} {s : Nat × Nat × Nat} {M Y : MI} {J K : MJ} (h : PM T n s M J) (e : ∀ j, j < 9 → Y 100 j = M 100 j) (e1 : Y 101 = M 101) (e2 : K 100 9 = J 100 9) : PM T n s Y K := by
  obtain ⟨a1, a2, a3, a4, a5, a6, a7⟩ := h
  exact ⟨⟨a1.1, fun j hj => by rw [e1]; exact a1.2 j hj⟩, by rw [e 5 (by decide)]; exact a2, by rw [e 2 (by decide)]; exact a3, by rw [e 3 (by decide)]; exact a4, a5, a6, fun z => MLx_c (a7 z) e e2⟩
theorem PM_u {T : Nat → Nat} {n : Nat} {s : Nat × Nat × Nat} {M : MI} {J : MJ} {c j : Nat} {x : Int32} (h : PM T n s M J) (h1 : c ≠ 100) (h2 : c ≠ 101) : PM T n s (upI M c j x) J := PM_c h (fun _ _ => by rw [upc (Ne.symm h1)]) (upc (Ne.symm h2)) rfl
theorem PM_0 {T : Nat → Nat} {n : Nat} {s : Nat × Nat × Nat} {M : MI} {J : MJ} {j : Nat} {x : Int32} (h : PM T n s M J) (h1 : 9 ≤ j) : PM T n s (upI M 100 j x) J := PM_c h (fun _ _ => by rw [ups (by omega)]) (upc (by decide)) rfl
theorem PM_n {T : Nat → Nat} {n : Nat} {s : Nat × Nat × Nat} {M : MI} {J : MJ} {k : Nat} {x : Int64} (h : PM T n s M J) : PM T n s M (upJ J 102 k x) := PM_c h (fun _ _ => rfl) rfl (upJ_o (fun z => absurd z.1 (by decide)))
theorem DA.rf {M : MI} : DA M M := ⟨fun _ _ _ => rfl, fun _ _ _ => rfl⟩
theorem DA_f {B M Y : MI} {J K : MJ} (h : DA B M) (hf : FM M J Y K) : DA B Y := ⟨fun c a b => (hf.1 c (by omega)).trans (h.1 c a b), fun j a b => (hf.2.1 j (by omega) (by omega) (by omega) (by omega) (by omega) (by omega)).trans (h.2 j a b)⟩
theorem DA_u {B M : MI} {c j : Nat} {x : Int32} (h : DA B M) : DA (upI B c j x) (upI M c j x) := by
  refine ⟨fun d a b => ?_, fun i a b => ?_⟩
  · funext k
    unfold upI
    by_cases e : d = c ∧ k = j
    · rw [if_pos e, if_pos e]
    · rw [if_neg e, if_neg e, h.1 d a b]
  · unfold upI
    by_cases e : 100 = c ∧ i = j
    · rw [if_pos e, if_pos e]
    · rw [if_neg e, if_neg e, h.2 i a b]
theorem ibn_ {v : Nat} {lo hi : Int} (h1 : lo ≤ (v : Int)) (h2 : (v : Int) ≤ hi) (h : v < 10000) : Ib (nI v) lo hi := ⟨by rw [nI_toInt (by omega)]; exact h1, by rw [nI_toInt (by omega)]; exact h2⟩
theorem tvV_b {T : Nat → Nat} {n m : Nat} {s : Nat × Nat × Nat} (h : (tvaT T n m s).1 = 0) (hm : m < 10000) : Ib (tvV_ T n s) (-(m : Int)) (m : Int) := by
  have q := tvaT_0 h
  have q3 := q.2.2.1
  unfold tvV_
  by_cases z : kd T n s.2.2 = 5
  · rw [if_pos z]
    exact ⟨by rw [ng_ti (by omega)]; omega, by rw [ng_ti (by omega)]; omega⟩
  · rw [if_neg z]
    exact ibn_ (by omega) (by omega) (by omega)
/-- what the model has read, and what the class has -/
def ydB (A : MI) (y : Nat) : Prop := ∃ so la : Nat, A (10 + 2 * y) 1 = nI so ∧ so < 4 ∧ A (10 + 2 * y) 4 = nI la ∧ 1 ≤ la ∧ la ≤ 5 ∧ Ib (A (10 + 2 * y) 2) 0 99 ∧ Ib (A (10 + 2 * y) 3) 0 99 ∧ ∀ j, j < la → Ib (A (11 + 2 * y) j) (-200) 200
def yM (A M : MI) (y : Nat) : Prop := M 103 y = A (10 + 2 * y) 1 ∧ M 104 y = A (10 + 2 * y) 2 ∧ M 105 y = A (10 + 2 * y) 3 ∧ M 106 y = A (10 + 2 * y) 4 ∧ ∀ j, j < (A (10 + 2 * y) 4).toNatClampNeg → M 107 (5 * y + j) = A (11 + 2 * y) j
def MDh (A M : MI) (hn : Nat) : Prop := (∀ k, k < hn → (M 109 k = A 5 k ∧ M 110 k = A 6 k ∧ M 111 k = A 7 k) ∧ Ib (A 5 k) 0 99 ∧ Ib (A 6 k) (-200) 200 ∧ Ib (A 7 k) 0 10) ∧ (hn = 0 → A 5 0 = 0 ∧ A 6 0 = 0 ∧ A 7 0 = 0)
def MDs (A M : MI) (sn : Nat) : Prop := ∀ k, k < sn → (M 112 k = A 8 k ∧ M 113 k = A 9 k) ∧ Ib (A 8 k) (-50) 50 ∧ Ib (A 9 k) 1 99
def wyI (A : MI) (i a c : Nat) : Prop := (A 2 i = nI a ∧ A 3 i = nI c) ∨ (A 2 i = nI c ∧ A 3 i = nI a)
def MDw (A M : MI) (yn wn : Nat) : Prop := (∀ i, i < wn → ∃ f t k : Nat, A 2 i = nI f ∧ A 3 i = nI t ∧ A 4 i = nI k ∧ f < yn ∧ t < yn ∧ ¬ f = t ∧ 1 ≤ k ∧ k ≤ 60 ∧ M 108 (8 * f + t) = nI k ∧ M 108 (8 * t + f) = nI k) ∧ ∀ a c, a < 8 → c < 8 → M 108 (8 * a + c) = 0 ∨ ∃ i, i < wn ∧ wyI A i a c
def oM (A M : MI) (tb k j a : Nat) (d : Int32) : Prop := (tb.testBit k = false → M 100 j = -1 ∧ A 0 a = d) ∧ (tb.testBit k = true → ∃ v : Nat, v ≤ 9999 ∧ A 0 a = nI v ∧ M 100 j = nI v)
def MDo (A M : MI) (yn : Nat) : Prop := ∃ tb, tb < 256 ∧ A 0 17 = nI tb ∧ oM A M tb 4 37 13 0 ∧ oM A M tb 5 38 14 0 ∧ oM A M tb 6 39 15 (-1) ∧ oM A M tb 7 40 16 999 ∧ (tb.testBit 6 = true → ∃ v : Nat, v < yn ∧ A 0 15 = nI v)
def MD (T : Nat → Nat) (n : Nat) (A : MI) (yn wn hn sn : Nat) (M : MI) (J : MJ) : Prop := (A 0 1 = nI yn ∧ A 0 5 = nI wn ∧ A 0 9 = nI hn ∧ A 0 12 = nI sn) ∧ (yn ≤ 8 ∧ wn ≤ 16 ∧ hn ≤ 12 ∧ sn ≤ 7) ∧ (M 100 33 = nI yn ∧ M 100 34 = nI wn ∧ M 100 35 = nI hn ∧ M 100 36 = nI sn) ∧ MN T n A yn J ∧ (∀ y, y < yn → ydB A y ∧ yM A M y) ∧ MDh A M hn ∧ MDs A M sn ∧ MDw A M yn wn ∧ MDo A M yn
theorem MN_c {T : Nat → Nat} {n : Nat} {A A' : MI} {yn : Nat} {J K : MJ} (h : MN T n A yn J) (e : A' 26 = A 26) (k : ∀ i, K 102 i = J 102 i) : MN T n A' yn K := ⟨fun y hy => by rw [e, k]; exact h.1 y hy, fun y z hy hz w => h.2 y z hy hz (by rw [NM_u e, NM_u e] at w; exact w)⟩
theorem My_c {A A' M Y : MI} {yn : Nat} (h : ∀ y, y < yn → ydB A y ∧ yM A M y) (h8 : yn ≤ 8) (e : ∀ c, 10 ≤ c → c ≤ 25 → A' c = A c) (k : ∀ c, 103 ≤ c → c ≤ 107 → Y c = M c) : ∀ y, y < yn → ydB A' y ∧ yM A' Y y := fun y hy => by
  unfold ydB yM
  rw [e (10 + 2 * y) (by omega) (by omega), e (11 + 2 * y) (by omega) (by omega), k 103 (by decide) (by decide), k 104 (by decide) (by decide), k 105 (by decide) (by decide), k 106 (by decide) (by decide), k 107 (by decide) (by decide)]
  exact h y hy
theorem Mh_c {A A' M Y : MI} {hn : Nat} (h : MDh A M hn) (e : ∀ c, 5 ≤ c → c ≤ 7 → A' c = A c) (k : ∀ c, 109 ≤ c → c ≤ 111 → Y c = M c) : MDh A' Y hn := by
  unfold MDh
  rw [e 5 (by decide) (by decide), e 6 (by decide) (by decide), e 7 (by decide) (by decide), k 109 (by decide) (by decide), k 110 (by decide) (by decide), k 111 (by decide) (by decide)]
  exact h
theorem Ms_c {A A' M Y : MI} {sn : Nat} (h : MDs A M sn) (e8 : A' 8 = A 8) (e9 : A' 9 = A 9) (k1 : Y 112 = M 112) (k2 : Y 113 = M 113) : MDs A' Y sn := by
  unfold MDs
  rw [e8, e9, k1, k2]
  exact h
theorem Mw_c {A A' M Y : MI} {yn yn' wn : Nat} (h : MDw A M yn wn) (hy : yn ≤ yn') (e : ∀ c, 2 ≤ c → c ≤ 4 → A' c = A c) (k1 : Y 108 = M 108) : MDw A' Y yn' wn := by
  unfold MDw wyI
  rw [e 2 (by decide) (by decide), e 3 (by decide) (by decide), e 4 (by decide) (by decide), k1]
  refine ⟨fun i hi => ?_, h.2⟩
  obtain ⟨f, t, k, a1, a2, a3, a4, a5, a6⟩ := h.1 i hi
  exact ⟨f, t, k, a1, a2, a3, by omega, by omega, a6⟩
theorem Mo_c {A A' M Y : MI} {yn yn' : Nat} (h : MDo A M yn) (hy : yn ≤ yn') (e : ∀ j, 13 ≤ j → j ≤ 17 → A' 0 j = A 0 j) (k : ∀ j, 37 ≤ j → j ≤ 40 → Y 100 j = M 100 j) : MDo A' Y yn' := by
  obtain ⟨tb, a1, a2, a3, a4, a5, a6, a7⟩ := h
  refine ⟨tb, a1, ?_⟩
  unfold oM at a3 a4 a5 a6 ⊢
  rw [e 17 (by decide) (by decide), e 13 (by decide) (by decide), e 14 (by decide) (by decide), e 15 (by decide) (by decide), e 16 (by decide) (by decide), k 37 (by decide) (by decide), k 38 (by decide) (by decide), k 39 (by decide) (by decide), k 40 (by decide) (by decide)]
  refine ⟨a2, a3, a4, a5, a6, fun z => ?_⟩
  obtain ⟨v, b1, b2⟩ := a7 z
  exact ⟨v, by omega, b2⟩
def RML (T : Nat → Nat) (n : Nat) (s : Nat × Nat × Nat) (C : MI → MJ → Prop) (M : MI) (J : MJ) (r : MR) : Option Value → MI → MR → MJ → Prop := fun v Y r' K => v = none ∧ PM T n s Y K ∧ FL M J Y K ∧ (s.1 = 0 → C Y K) ∧ r' = r
theorem upx {A B : MI} {c j : Nat} {x : Int32} (h : B c = A c) : upI B c j x c = upI A c j x c := by
  funext k
  unfold upI
  by_cases e : c = c ∧ k = j
  · rw [if_pos e, if_pos e]
  · rw [if_neg e, if_neg e, h]
theorem MD_ho {T : Nat → Nat} {n : Nat} {A : MI} {yn wn hn sn : Nat} {M Y : MI} {J K : MJ} (h : MD T n A yn wn hn sn M J) (hf : hn < 12) {a b c : Int32} (ha : Ib a 0 99) (hb : Ib b (-200) 200) (hc : Ib c 0 10) (hd : DA (upI (upI (upI (upI M 109 hn a) 110 hn b) 111 hn c) 100 35 (nI (hn + 1))) Y) (hk : ∀ i, K 102 i = J 102 i) : MD T n (upI (upI (upI (upI A 5 hn a) 6 hn b) 7 hn c) 0 9 (nI (hn + 1))) yn wn (hn + 1) sn Y K := by
  obtain ⟨⟨k1, k5, k9, k12⟩, ⟨y8, w16, h12, s7⟩, ⟨m33, m34, m35, m36⟩, hMN, hMy, hMh, hMs, hMw, hMo⟩ := h
  have ea : ∀ c', ¬ c' = 0 → ¬ c' = 5 → ¬ c' = 6 → ¬ c' = 7 → upI (upI (upI (upI A 5 hn a) 6 hn b) 7 hn c) 0 9 (nI (hn + 1)) c' = A c' := fun c' z0 z5 z6 z7 => by rw [upc z0, upc z7, upc z6, upc z5]
  have e0 : ∀ j, ¬ j = 9 → upI (upI (upI (upI A 5 hn a) 6 hn b) 7 hn c) 0 9 (nI (hn + 1)) 0 j = A 0 j := fun j z => by rw [ups z, upc (by decide), upc (by decide), upc (by decide)]
  have em : ∀ c', 103 ≤ c' → c' ≤ 113 → ¬ c' = 109 → ¬ c' = 110 → ¬ c' = 111 → Y c' = M c' := fun c' z1 z2 z3 z4 z5 => by rw [hd.1 c' z1 z2, upc (by omega), upc z5, upc z4, upc z3]
  have e1 : ∀ j, 33 ≤ j → j ≤ 40 → ¬ j = 35 → Y 100 j = M 100 j := fun j z1 z2 z => by rw [hd.2 j z1 z2, ups z, upc (by decide), upc (by decide), upc (by decide)]
  refine ⟨⟨by rw [e0 1 (by decide)]; exact k1, by rw [e0 5 (by decide)]; exact k5, by rw [upq], by rw [e0 12 (by decide)]; exact k12⟩, ⟨y8, w16, by omega, s7⟩, ⟨by rw [e1 33 (by decide) (by decide) (by decide)]; exact m33, by rw [e1 34 (by decide) (by decide) (by decide)]; exact m34, by rw [hd.2 35 (by decide) (by decide), upq], by rw [e1 36 (by decide) (by decide) (by decide)]; exact m36⟩, MN_c hMN (ea 26 (by decide) (by decide) (by decide) (by decide)) hk, My_c hMy y8 (fun c' z1 z2 => ea c' (by omega) (by omega) (by omega) (by omega)) (fun c' z1 z2 => em c' (by omega) (by omega) (by omega) (by omega) (by omega)), ?_, Ms_c hMs (ea 8 (by decide) (by decide) (by decide) (by decide)) (ea 9 (by decide) (by decide) (by decide) (by decide)) (em 112 (by decide) (by decide) (by decide) (by decide) (by decide)) (em 113 (by decide) (by decide) (by decide) (by decide) (by decide)), Mw_c hMw (Nat.le_refl _) (fun c' z1 z2 => ea c' (by omega) (by omega) (by omega) (by omega)) (em 108 (by decide) (by decide) (by decide) (by decide) (by decide)), Mo_c hMo (Nat.le_refl _) (fun j z1 z2 => e0 j (by omega)) (fun j z1 z2 => e1 j (by omega) (by omega) (by omega))⟩
  have a5 : upI (upI (upI (upI A 5 hn a) 6 hn b) 7 hn c) 0 9 (nI (hn + 1)) 5 = upI A 5 hn a 5 := by rw [upc (by decide), upc (by decide), upc (by decide)]
  have a6 : upI (upI (upI (upI A 5 hn a) 6 hn b) 7 hn c) 0 9 (nI (hn + 1)) 6 = upI A 6 hn b 6 := by rw [upc (by decide), upc (by decide)]; exact upx (upc (by decide))
  have a7 : upI (upI (upI (upI A 5 hn a) 6 hn b) 7 hn c) 0 9 (nI (hn + 1)) 7 = upI A 7 hn c 7 := by rw [upc (by decide)]; exact upx ((upc (by decide)).trans (upc (by decide)))
  refine ⟨fun k hk' => ?_, fun z => absurd z (by omega)⟩
  rw [a5, a6, a7, hd.1 109 (by decide) (by decide), hd.1 110 (by decide) (by decide), hd.1 111 (by decide) (by decide)]
  by_cases e : k = hn
  · rw [e, upq, upq, upq]
    refine ⟨⟨by rw [upc (by decide), upc (by decide), upc (by decide), upq], by rw [upc (by decide), upc (by decide), upq], by rw [upc (by decide), upq]⟩, ha, hb, hc⟩
  · rw [ups e, ups e, ups e]
    have q := hMh.1 k (by omega)
    refine ⟨⟨by rw [upc (by decide), upc (by decide), upc (by decide), ups e]; exact q.1.1, by rw [upc (by decide), upc (by decide), ups e, upc (by decide)]; exact q.1.2.1, by rw [upc (by decide), ups e, upc (by decide), upc (by decide)]; exact q.1.2.2⟩, q.2⟩
set_option maxRecDepth 100000 in
theorem c_mho {T : Nat → Nat} {n : Nat} (r : MR) {M : MI} {J : MJ} {s : Nat × Nat × Nat} (h : PM T n s M J) (h0 : s.1 = 0) (hk1 : ¬ kd T n s.2.2 = 1) {A : MI} {yn wn hn sn : Nat} (hD : MD T n A yn wn hn sn M J) (hf : hn < 12) : Cq yX12_readHour MX12_readHour [.ref 100] M r J (RML T n (hoS T n s) (MD T n (hoA T n s A hn) yn wn (hn + 1) sn) M J r) := by
  obtain ⟨⟨k1, k5, k9, k12⟩, ⟨y8, w16, h12, s7⟩, ⟨m33, m34, m35, m36⟩, hMN, hMy, hMh, hMs, hMw, hMo⟩ := id hD
  have pm0 := h
  have fl0 : FL M J M J := FL.rf
  have da0 : DA M M := DA.rf
  have kn0 : ∀ i, J 102 i = J 102 i := fun _ => rfl
  have hc0 : M 100 35 = nI hn := m35
  refine cq_of [some (.ref 100)] 0 (by decide +kernel) rfl rfl (Nat.le_of_ble_eq_true rfl) rfl ?_
  refine x_aload_n (q := 1) dX12_readHour_0 rfl rfl ?_
  refine q_callV (ci := 12) (N := 79) (T := TX12) (As := []) (rest := []) (q := 4) dX12_readHour_1 rfl okX12_token tw_1340 rfl rfl (c_tokP r pm0 h0 hk1) rfl rfl (Nat.le_of_ble_eq_true rfl) ⟨by decide, by decide⟩ ⟨rfl, rfl⟩ (fun rv_ V1 r_ K1 hv_ => ?_)
  obtain ⟨a1_, pm1, fm1, a3_⟩ := hv_
  rw [a1_, a3_]
  obtain ⟨t1, et1⟩ : ∃ z, z = adv T n s := ⟨_, rfl⟩
  rw [← et1] at pm1
  have fl1 := fl0.tr fm1.l
  have da1 := DA_f da0 fm1
  have kn1 : ∀ i, K1 102 i = J 102 i := fun i => (fm1.2.2 102 i (by omega)).trans (kn0 i)
  have hc1 : V1 100 35 = nI hn := (fm1.2.1 35 (by decide) (by decide) (by decide) (by decide) (by decide) (by decide)).trans hc0
  show Wq MX12_readHour 4 [some (.ref 100)] [] V1 r K1 _
  refine x_aload_n (q := 5) dX12_readHour_4 rfl rfl ?_
  refine q_gr (K := 17) (b := 109) (q := 8) dX12_readHour_5 rfl cl_12 (by decide) tw_1099 rfl rfl rfl ?_
  refine x_aload_n (q := 9) dX12_readHour_8 rfl rfl ?_
  refine q_gi (K := 35) (q := 12) dX12_readHour_9 rfl cl_12 (by decide) tw_1117 rfl rfl ?_
  refine x_aload_n (q := 13) dX12_readHour_12 rfl rfl ?_
  refine x_ldc2 (v := 1717660780) (q := 16) dX12_readHour_13 rfl tw_1377 ?_
  refine x_iconst (0) (q := 17) dX12_readHour_16 rfl (by decide) ?_
  refine x_bipush (99) (q := 19) dX12_readHour_17 rfl (by decide) ?_
  refine q_callV (ci := 12) (N := 79) (T := TX12) (As := [.long 1717660780, .int 0, .int 99]) (rest := [.int (V1 100 35), .ref 109]) (q := 22) dX12_readHour_19 rfl okX12_told tw_1402 rfl rfl (c_tld r pm1 (i := 16) (by decide) rfl (lo := 0) (hi := 99) (by decide) (by decide)) rfl rfl (Nat.le_of_ble_eq_true rfl) ⟨by decide, by decide⟩ ⟨rfl, rfl⟩ (fun rv_ V2 r_ K2 hv_ => ?_)
  obtain ⟨x_19, a1_, hx_19, pm2, fm2, a3_⟩ := hv_
  rw [a1_, a3_]
  obtain ⟨t2, et2⟩ : ∃ z, z = tnuT T n 0 99 (tkw T n 16 t1) := ⟨_, rfl⟩
  rw [← et2] at pm2
  have fl2 := fl1.tr fm2.l
  have da2 := DA_f da1 fm2
  have kn2 : ∀ i, K2 102 i = J 102 i := fun i => (fm2.2.2 102 i (by omega)).trans (kn1 i)
  have hc2 : V2 100 35 = nI hn := (fm2.2.1 35 (by decide) (by decide) (by decide) (by decide) (by decide) (by decide)).trans hc1
  rw [← et2] at hx_19
  show Wq MX12_readHour 22 [some (.ref 100)] [.int x_19, .int (V1 100 35), .ref 109] V2 r K2 _
  refine q_iast (q := 23) dX12_readHour_22 rfl rfl (by rw [hc1]; exact vp_in_nI (by omega) (by decide)) (fun I1 eI1 => ?_)
  rw [hc1, nI_clamp (by omega)] at eI1
  have pm3 : PM T n t2 I1 K2 := by rw [eI1]; exact PM_u pm2 (by decide) (by decide)
  have fl3 : FL M J I1 K2 := fl2.tr (by rw [eI1]; exact FL_u (by decide))
  have da3 : DA (upI M 109 hn x_19) I1 := by rw [eI1]; exact DA_u da2
  have kn3 := kn2
  have hc3 : I1 100 35 = nI hn := by rw [eI1, upc (by decide)]; exact hc2
  refine x_aload_n (q := 24) dX12_readHour_23 rfl rfl ?_
  refine x_ldc2 (v := 1952804208) (q := 27) dX12_readHour_24 rfl tw_1378 ?_
  refine q_callV (ci := 12) (N := 79) (T := TX12) (As := [.long 1952804208]) (rest := []) (q := 30) dX12_readHour_27 rfl okX12_want tw_1406 rfl rfl (c_wanW r pm3 (i := 17) (by decide) rfl) rfl rfl (Nat.le_of_ble_eq_true rfl) ⟨by decide, by decide⟩ ⟨rfl, rfl⟩ (fun rv_ V4 r_ K4 hv_ => ?_)
  obtain ⟨a1_, pm4, fm4, a3_⟩ := hv_
  rw [a1_, a3_]
  obtain ⟨t3, et3⟩ : ∃ z, z = tkw T n 17 t2 := ⟨_, rfl⟩
  rw [← et3] at pm4
  have fl4 := fl3.tr fm4.l
  have da4 := DA_f da3 fm4
  have kn4 : ∀ i, K4 102 i = J 102 i := fun i => (fm4.2.2 102 i (by omega)).trans (kn3 i)
  have hc4 : V4 100 35 = nI hn := (fm4.2.1 35 (by decide) (by decide) (by decide) (by decide) (by decide) (by decide)).trans hc3
  show Wq MX12_readHour 30 [some (.ref 100)] [] V4 r K4 _
  refine x_aload_n (q := 31) dX12_readHour_30 rfl rfl ?_
  refine q_gr (K := 18) (b := 110) (q := 34) dX12_readHour_31 rfl cl_12 (by decide) tw_1100 rfl rfl rfl ?_
  refine x_aload_n (q := 35) dX12_readHour_34 rfl rfl ?_
  refine q_gi (K := 35) (q := 38) dX12_readHour_35 rfl cl_12 (by decide) tw_1117 rfl rfl ?_
  refine x_aload_n (q := 39) dX12_readHour_38 rfl rfl ?_
  refine x_sipush (200) (q := 42) dX12_readHour_39 rfl (by decide) ?_
  refine q_callV (ci := 12) (N := 79) (T := TX12) (As := [.int 200]) (rest := [.int (V4 100 35), .ref 110]) (q := 45) dX12_readHour_42 rfl okX12_signed tw_1414 rfl rfl (c_sgn r pm4 (m := 200) (by decide)) rfl rfl (Nat.le_of_ble_eq_true rfl) ⟨by decide, by decide⟩ ⟨rfl, rfl⟩ (fun rv_ V5 r_ K5 hv_ => ?_)
  obtain ⟨x_42, a1_, hx_42, pm5, fm5, a3_⟩ := hv_
  rw [a1_, a3_]
  obtain ⟨t4, et4⟩ : ∃ z, z = tvaT T n 200 t3 := ⟨_, rfl⟩
  rw [← et4] at pm5
  have fl5 := fl4.tr fm5.l
  have da5 := DA_f da4 fm5
  have kn5 : ∀ i, K5 102 i = J 102 i := fun i => (fm5.2.2 102 i (by omega)).trans (kn4 i)
  have hc5 : V5 100 35 = nI hn := (fm5.2.1 35 (by decide) (by decide) (by decide) (by decide) (by decide) (by decide)).trans hc4
  rw [← et4] at hx_42
  show Wq MX12_readHour 45 [some (.ref 100)] [.int x_42, .int (V4 100 35), .ref 110] V5 r K5 _
  refine q_iast (q := 46) dX12_readHour_45 rfl rfl (by rw [hc4]; exact vp_in_nI (by omega) (by decide)) (fun I21 eI21 => ?_)
  rw [hc4, nI_clamp (by omega)] at eI21
  have pm6 : PM T n t4 I21 K5 := by rw [eI21]; exact PM_u pm5 (by decide) (by decide)
  have fl6 : FL M J I21 K5 := fl5.tr (by rw [eI21]; exact FL_u (by decide))
  have da6 : DA (upI (upI M 109 hn x_19) 110 hn x_42) I21 := by rw [eI21]; exact DA_u da5
  have kn6 := kn5
  have hc6 : I21 100 35 = nI hn := by rw [eI21, upc (by decide)]; exact hc5
  refine x_aload_n (q := 47) dX12_readHour_46 rfl rfl ?_
  refine q_gr (K := 19) (b := 111) (q := 50) dX12_readHour_47 rfl cl_12 (by decide) tw_1101 rfl rfl rfl ?_
  refine x_aload_n (q := 51) dX12_readHour_50 rfl rfl ?_
  refine q_gi (K := 35) (q := 54) dX12_readHour_51 rfl cl_12 (by decide) tw_1117 rfl rfl ?_
  refine x_aload_n (q := 55) dX12_readHour_54 rfl rfl ?_
  refine x_ldc2 (v := 7824756) (q := 58) dX12_readHour_55 rfl tw_1379 ?_
  refine x_iconst (0) (q := 59) dX12_readHour_58 rfl (by decide) ?_
  refine x_bipush (10) (q := 61) dX12_readHour_59 rfl (by decide) ?_
  refine q_callV (ci := 12) (N := 79) (T := TX12) (As := [.long 7824756, .int 0, .int 10]) (rest := [.int (I21 100 35), .ref 111]) (q := 64) dX12_readHour_61 rfl okX12_told tw_1402 rfl rfl (c_tld r pm6 (i := 18) (by decide) rfl (lo := 0) (hi := 10) (by decide) (by decide)) rfl rfl (Nat.le_of_ble_eq_true rfl) ⟨by decide, by decide⟩ ⟨rfl, rfl⟩ (fun rv_ V7 r_ K7 hv_ => ?_)
  obtain ⟨x_61, a1_, hx_61, pm7, fm7, a3_⟩ := hv_
  rw [a1_, a3_]
  obtain ⟨t5, et5⟩ : ∃ z, z = tnuT T n 0 10 (tkw T n 18 t4) := ⟨_, rfl⟩
  rw [← et5] at pm7
  have fl7 := fl6.tr fm7.l
  have da7 := DA_f da6 fm7
  have kn7 : ∀ i, K7 102 i = J 102 i := fun i => (fm7.2.2 102 i (by omega)).trans (kn6 i)
  have hc7 : V7 100 35 = nI hn := (fm7.2.1 35 (by decide) (by decide) (by decide) (by decide) (by decide) (by decide)).trans hc6
  rw [← et5] at hx_61
  show Wq MX12_readHour 64 [some (.ref 100)] [.int x_61, .int (I21 100 35), .ref 111] V7 r K7 _
  refine q_iast (q := 65) dX12_readHour_64 rfl rfl (by rw [hc6]; exact vp_in_nI (by omega) (by decide)) (fun I41 eI41 => ?_)
  rw [hc6, nI_clamp (by omega)] at eI41
  have pm8 : PM T n t5 I41 K7 := by rw [eI41]; exact PM_u pm7 (by decide) (by decide)
  have fl8 : FL M J I41 K7 := fl7.tr (by rw [eI41]; exact FL_u (by decide))
  have da8 : DA (upI (upI (upI M 109 hn x_19) 110 hn x_42) 111 hn x_61) I41 := by rw [eI41]; exact DA_u da7
  have kn8 := kn7
  have hc8 : I41 100 35 = nI hn := by rw [eI41, upc (by decide)]; exact hc7
  refine x_aload_n (q := 66) dX12_readHour_65 rfl rfl ?_
  refine q_gi (K := 2) (q := 69) dX12_readHour_66 rfl cl_12 (by decide) tw_1084 rfl rfl ?_
  refine x_if_ne (t := 82) (q := 72) dX12_readHour_69 (by decide) rfl (fun c69 => ?_) (fun c69 => ?_)
  · refine q_vret dX12_readHour_82 rfl ?_
    have es : hoS T n s = t5 := by unfold hoS; rw [et5, et4, et3, et2, et1]
    rw [es]
    exact ⟨rfl, pm8, fl8, fun z => absurd (by rw [pm8.2.2.1, z]; rfl) c69, rfl⟩
  · refine x_aload_n (q := 73) dX12_readHour_72 rfl rfl ?_
    refine x_dup (q := 74) dX12_readHour_73 rfl rfl ?_
    refine q_gi (K := 35) (q := 77) dX12_readHour_74 rfl cl_12 (by decide) tw_1117 rfl rfl ?_
    refine x_iconst (1) (q := 78) dX12_readHour_77 rfl (by decide) ?_
    refine x_iadd (q := 79) dX12_readHour_78 rfl ?_
    refine q_pi (K := 35) (q := 82) dX12_readHour_79 rfl cl_12 (by decide) tw_1117 rfl rfl rfl rfl (fun I61 eI61 => ?_)
    refine q_vret dX12_readHour_82 rfl ?_
    rw [hc8, nI_p1] at eI61
    have pm9 : PM T n t5 I61 K7 := by rw [eI61]; exact PM_0 pm8 (by decide)
    have fl9 : FL M J I61 K7 := fl8.tr (by rw [eI61]; exact FL_0 (by decide))
    have da9 : DA (upI (upI (upI (upI M 109 hn x_19) 110 hn x_42) 111 hn x_61) 100 35 (nI (hn + 1))) I61 := by rw [eI61]; exact DA_u da8
    have kn9 := kn8
    have es : hoS T n s = t5 := by unfold hoS; rw [et5, et4, et3, et2, et1]
    rw [es]
    refine ⟨rfl, pm9, fl9, fun z => ?_, rfl⟩
    have f_t5 := tnuT_0 (by rw [et5] at z; exact z)
    have z_t4 : t4.1 = 0 := (tkw_0 f_t5.1.1).1
    have f_t4 : (tvaT T n 200 t3).1 = 0 := by rw [et4] at z_t4; exact z_t4
    have z_t3 : t3.1 = 0 := (tvaT_0 f_t4).1
    have f_t3 := tkw_0 (by rw [et3] at z_t3; exact z_t3)
    have z_t2 : t2.1 = 0 := f_t3.1
    have f_t2 := tnuT_0 (by rw [et2] at z_t2; exact z_t2)
    have z_t1 : t1.1 = 0 := (tkw_0 f_t2.1.1).1
    have z_s : s.1 = 0 := by rw [et1] at z_t1; exact z_t1
    have eA : hoA T n s A hn = upI (upI (upI (upI A 5 hn x_19) 6 hn x_42) 7 hn x_61) 0 9 (nI (hn + 1)) := by
      unfold hoA
      rw [hx_19 z_t2, hx_42 z_t4, hx_61 z, ← et1, ← et2, ← et3, ← et4]
    rw [eA]
    refine MD_ho hD hf ?_ ?_ ?_ da9 kn9
    · rw [hx_19 z_t2]; have g := f_t2.2.1; exact ibn_ (by omega) (by omega) (by omega)
    · rw [hx_42 z_t4]; exact tvV_b f_t4 (by decide)
    · rw [hx_61 z]; have g := f_t5.2.1; exact ibn_ (by omega) (by omega) (by omega)
