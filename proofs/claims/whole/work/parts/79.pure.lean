def yA (A : MI) : Nat := (A 0 1).toNatClampNeg
def wA (A : MI) : Nat := (A 0 5).toNatClampNeg
def hA (A : MI) : Nat := (A 0 9).toNatClampNeg
def sA (A : MI) : Nat := (A 0 12).toNatClampNeg
def tA (A : MI) : Nat := (A 0 17).toNatClampNeg
def lb (T : Nat → Nat) (n : Nat) (s : Nat × Nat × Nat) (A : MI) : (Nat × Nat × Nat) × MI :=
  if kw T n s.2.2 = 0 then (if yA A < 8 then (yaS T n A (yA A) s, yaA T n s A (yA A)) else (rfT T n s, A))
  else if kw T n s.2.2 = 1 then (if wA A < 16 then (wyS T n A (yA A) (wA A) s, wyA T n s A (yA A) (wA A)) else (rfT T n s, A))
  else if kw T n s.2.2 = 2 then (if hA A < 12 then (hoS T n s, hoA T n s A (hA A)) else (rfT T n s, A))
  else if kw T n s.2.2 = 3 then (if sA A < 7 then (slS T n A (sA A) s, slA T n s A (sA A)) else (rfT T n s, A))
  else if kw T n s.2.2 < 8 then (if (tA A).testBit (kw T n s.2.2) then (rfT T n s, A) else (onS T n A (yA A) (kw T n s.2.2) s, onA T n A (yA A) (kw T n s.2.2) (tA A) s))
  else (rfT T n s, A)
def pF (T : Nat → Nat) (n : Nat) : Nat → Nat × Nat × Nat → MI → (Nat × Nat × Nat) × MI
  | 0, s, A => (s, A)
  | f + 1, s, A => if s.1 = 0 ∧ ¬ kd T n s.2.2 = 0 then pF T n f (tsc T n (lb T n s A).1) (lb T n s A).2 else (s, A)
/-- places only grow -/
def pm (s s' : Nat × Nat × Nat) : Prop := s'.1 = 0 → s.1 = 0 ∧ s.2.2 ≤ s'.2.2
theorem pm.tr {s s' s'' : Nat × Nat × Nat} (h1 : pm s s') (h2 : pm s' s'') : pm s s'' := fun z => by
  have q2 := h2 z
  have q1 := h1 q2.1
  exact ⟨q1.1, by omega⟩
theorem en_ge (T : Nat → Nat) (n p : Nat) : p ≤ en T n p := by
  have h1 := rl_ge (g := spc) (T := T) (n - p) p
  have h2 : sk T n p ≤ enQ T n (sk T n p) := by
    unfold enQ
    by_cases e1 : n ≤ sk T n p
    · rw [if_pos e1]; omega
    rw [if_neg e1]
    by_cases e2 : ltr (T (sk T n p)) = true
    · rw [if_pos e2]; exact (rlp_b (by omega)).1
    rw [if_neg e2]
    by_cases e3 : dgi (T (sk T n p)) = true
    · rw [if_pos e3]; exact (rlp_b (by omega)).1
    rw [if_neg e3]; omega
  have h3 : p ≤ sk T n p := h1.1
  unfold en
  omega
theorem pm_a (T : Nat → Nat) (n : Nat) (s : Nat × Nat × Nat) : pm s (adv T n s) := fun z => ⟨z, en_ge T n s.2.2⟩
theorem pm_k (T : Nat → Nat) (n i : Nat) (s : Nat × Nat × Nat) : pm s (tkw T n i s) := fun z => by
  have q := tkw_0 z
  rw [q.2.2]; exact ⟨q.1, en_ge T n _⟩
theorem pm_n (T : Nat → Nat) (n lo hi : Nat) (s : Nat × Nat × Nat) : pm s (tnuT T n lo hi s) := fun z => by
  have q := tnuT_0 z
  rw [q.2.2]; exact ⟨q.1.1, en_ge T n _⟩
theorem pm_v (T : Nat → Nat) (n m : Nat) (s : Nat × Nat × Nat) : pm s (tvaT T n m s) := fun z => by
  have q := tvaT_0 z
  rw [q.2.2.2]
  refine ⟨q.1, ?_⟩
  show s.2.2 ≤ en T n (vS T n s).2.2
  have h1 := en_ge T n (vS T n s).2.2
  have h2 : s.2.2 ≤ (vS T n s).2.2 := by
    unfold vS
    by_cases e : kd T n s.2.2 = 5
    · rw [if_pos e]; exact en_ge T n _
    · rw [if_neg e]; exact Nat.le_refl _
  omega
theorem pm_y (T : Nat → Nat) (n : Nat) (A : MI) (yn : Nat) (s : Nat × Nat × Nat) : pm s (tyaT T n A yn s) := fun z => by
  have q := tyaT_0 z
  rw [q.2.2]; exact ⟨q.1.1, en_ge T n _⟩
theorem pm_c {c : Bool} {k g : Nat} {s : Nat × Nat × Nat} (hk : 1 ≤ k) : pm s (if c then rf k g s else s) := fun z => by
  have q := cnd_0 z hk
  rw [q.2.2]; exact ⟨q.2.1, Nat.le_refl _⟩
theorem pm_na (T : Nat → Nat) (n : Nat) (s : Nat × Nat × Nat) : pm s (tnaT T n s) := fun z => by
  have q := tnaT_0 z
  rw [q.2]; exact ⟨q.1.1, en_ge T n _⟩
theorem pm_so (T : Nat → Nat) (n : Nat) (s : Nat × Nat × Nat) : pm s (tsoT T n s) := fun z => by
  have q := tsoT_0 z
  rw [q.2]; exact ⟨q.1.1, en_ge T n _⟩
theorem pm_l (T : Nat → Nat) (n : Nat) (s : Nat × Nat × Nat) : ∀ k, pm s (lyT T n s k) := by
  intro k
  induction k with
  | zero => exact fun z => ⟨z, Nat.le_refl _⟩
  | succ k ih => exact ih.tr (pm_v T n 200 _)
theorem pm_r (T : Nat → Nat) (n : Nat) (s : Nat × Nat × Nat) : pm s (rfT T n s) := fun z => absurd z rfT_n
theorem pm_lb (T : Nat → Nat) (n : Nat) (s : Nat × Nat × Nat) (A : MI) : pm s (lb T n s A).1 := by
  unfold lb
  by_cases h0 : kw T n s.2.2 = 0
  · rw [if_pos h0]
    by_cases q : yA A < 8
    · rw [if_pos q]
      show pm s (yaS T n A (yA A) s)
      unfold yaS
      refine pm.tr ?_ (pm_l T n _ _)
      unfold y9 y6 y4 yC
      exact (((((((((pm_a T n s).tr (pm_na T n _)).tr (pm_c (by decide))).tr (pm_so T n _)).tr (pm_k T n 12 _)).tr (pm_n T n 0 99 _)).tr (pm_k T n 13 _)).tr (pm_n T n 0 99 _)).tr (pm_k T n 14 _))
    · rw [if_neg q]; exact pm_r T n s
  rw [if_neg h0]
  by_cases h1 : kw T n s.2.2 = 1
  · rw [if_pos h1]
    by_cases q : wA A < 16
    · rw [if_pos q]
      show pm s (wyS T n A (yA A) (wA A) s)
      unfold wyS wyC
      exact (((((pm_a T n s).tr (pm_y T n A _ _)).tr (pm_y T n A _ _)).tr (pm_c (by decide))).tr (pm_k T n 15 _)).tr (pm_n T n 1 60 _)
    · rw [if_neg q]; exact pm_r T n s
  rw [if_neg h1]
  by_cases h2 : kw T n s.2.2 = 2
  · rw [if_pos h2]
    by_cases q : hA A < 12
    · rw [if_pos q]
      show pm s (hoS T n s)
      unfold hoS
      exact ((((((pm_a T n s).tr (pm_k T n 16 _)).tr (pm_n T n 0 99 _)).tr (pm_k T n 17 _)).tr (pm_v T n 200 _)).tr (pm_k T n 18 _)).tr (pm_n T n 0 10 _)
    · rw [if_neg q]; exact pm_r T n s
  rw [if_neg h2]
  by_cases h3 : kw T n s.2.2 = 3
  · rw [if_pos h3]
    by_cases q : sA A < 7
    · rw [if_pos q]
      show pm s (slS T n A (sA A) s)
      unfold slS slC
      exact ((((pm_a T n s).tr (pm_v T n 50 _)).tr (pm_c (by decide))).tr (pm_k T n 19 _)).tr (pm_n T n 1 99 _)
    · rw [if_neg q]; exact pm_r T n s
  rw [if_neg h3]
  by_cases h4 : kw T n s.2.2 < 8
  · rw [if_pos h4]
    by_cases q : (tA A).testBit (kw T n s.2.2) = true
    · rw [if_pos q]; exact pm_r T n s
    · rw [if_neg q]
      show pm s (onS T n A (yA A) _ s)
      unfold onS
      by_cases h6 : kw T n s.2.2 = 6
      · rw [if_pos h6]; exact (pm_a T n s).tr (pm_y T n A _ _)
      · rw [if_neg h6]; exact (pm_a T n s).tr (pm_n T n 0 9999 _)
  · rw [if_neg h4]; exact pm_r T n s
theorem en_4 {T : Nat → Nat} {n p : Nat} (h : kd T n p = 4) : p < en T n p := by
  have h1 := rl_ge (g := spc) (T := T) (n - p) p
  have h3 : p ≤ sk T n p := h1.1
  unfold kd kdQ at h
  unfold en enQ
  by_cases e1 : n ≤ sk T n p
  · rw [if_pos e1] at h; exact absurd h (by decide)
  rw [if_neg e1] at h ⊢
  by_cases e2 : ltr (T (sk T n p)) = true
  · rw [if_pos e2] at h
    by_cases e3 : 8 < wde T n (sk T n p) - sk T n p
    · rw [if_pos e3] at h; exact absurd h (by decide)
    · rw [if_neg e3] at h; exact absurd h (by decide)
  rw [if_neg e2] at h ⊢
  by_cases e3 : dgi (T (sk T n p)) = true
  · rw [if_pos e3] at h
    by_cases e5 : 4 < dge T n (sk T n p) - sk T n p ∨ (dge T n (sk T n p) < n ∧ ltr (T (dge T n (sk T n p))) = true)
    · rw [if_pos e5] at h; exact absurd h (by decide)
    · rw [if_neg e5] at h; exact absurd h (by decide)
  rw [if_neg e3]
  omega
theorem pm_line {T : Nat → Nat} {n : Nat} {s : Nat × Nat × Nat} {A : MI} (h : (tsc T n (lb T n s A).1).1 = 0) : s.1 = 0 ∧ s.2.2 < (tsc T n (lb T n s A).1).2.2 := by
  have q := tsc_0 h
  have q2 := pm_lb T n s A q.1
  rw [q.2.2]
  have q3 := en_4 q.2.1
  exact ⟨q2.1, Nat.lt_of_le_of_lt q2.2 q3⟩
theorem CD_c {T : Nat → Nat} {n : Nat} {A : MI} {b yn wn hn sn : Nat} {X : MI} {J : MJ} (h : CD T n A b yn wn hn sn X J) : yA A = yn ∧ wA A = wn ∧ hA A = hn ∧ sA A = sn ∧ tA A < 256 ∧ A 0 17 = nI (tA A) := by
  obtain ⟨-, -, k1, k5, k9, k12, y8, w16, h12, s7, tb, t256, k17⟩ := h
  unfold yA wA hA sA tA
  rw [k1, k5, k9, k12, k17, nI_clamp (by omega), nI_clamp (by omega), nI_clamp (by omega), nI_clamp (by omega), nI_clamp (by omega)]
  exact ⟨rfl, rfl, rfl, rfl, t256, rfl⟩
def RLb (T : Nat → Nat) (n : Nat) (s : Nat × Nat × Nat) (A : MI) (b : Nat) (X : MI) (J : MJ) (r : MR) : Option Value → MI → MR → MJ → Prop := Rq none (fun Y K => PS T n (lb T n s A).1 Y K ∧ FD b X J Y K ∧ ((lb T n s A).1.1 = 0 → ∃ y w h c, CD T n (lb T n s A).2 b y w h c Y K)) r
theorem RLb_f {T : Nat → Nat} {n : Nat} {s : Nat × Nat × Nat} {A : MI} {b : Nat} {X : MI} {J : MJ} {r : MR} (e : lb T n s A = (rfT T n s, A)) {v : Option Value} {Y : MI} {r' : MR} {K : MJ} (h : RLn T n (rfT T n s) b (fun _ _ => False) X J r v Y r' K) : RLb T n s A b X J r v Y r' K := by
  unfold RLb
  rw [e]
  exact ⟨h.1, ⟨h.2.1.1, h.2.1.2.1, fun z => (h.2.1.2.2 z).elim⟩, h.2.2⟩
theorem RLb_g {T : Nat → Nat} {n : Nat} {s s' : Nat × Nat × Nat} {A A' : MI} {b y w h c : Nat} {X : MI} {J : MJ} {r : MR} (e : lb T n s A = (s', A')) {v : Option Value} {Y : MI} {r' : MR} {K : MJ} (hh : RLn T n s' b (CD T n A' b y w h c) X J r v Y r' K) : RLb T n s A b X J r v Y r' K := by
  unfold RLb
  rw [e]
  exact ⟨hh.1, ⟨hh.2.1.1, hh.2.1.2.1, fun z => ⟨y, w, h, c, hh.2.1.2.2 z⟩⟩, hh.2.2⟩
theorem c_l0 {T : Nat → Nat} {n : Nat} {r : MR} (h4 : r 4 = 1) {b : Nat} (h2 : r 2 = b) (hb : SH b = (15, 18)) (hrg : 2 ≤ b ∧ b + 26 ≤ 54) {X : MI} {J : MJ} {s : Nat × Nat × Nat} (h : PS T n s X J) {A : MI} {yn wn hn sn : Nat} (hD : CD T n A b yn wn hn sn X J) (hk : kw T n s.2.2 = 0) : Cq yX8_parseYard MX8_parseYard [.ref 54] X r J (RLb T n s A b X J r) := by
  have hc := CD_c hD
  by_cases hf : yn < 8
  · exact cq_mono (fun v Y r' K hv => RLb_g (by unfold lb; rw [if_pos hk, hc.1, if_pos hf]) hv) (c_pya h4 h2 hb hrg h hD hf)
  · exact cq_mono (fun v Y r' K hv => RLb_f (by unfold lb; rw [if_pos hk, hc.1, if_neg hf]) hv) (c_pya_f h4 h2 hb hrg h hD (by omega))
theorem c_l1 {T : Nat → Nat} {n : Nat} {r : MR} (h4 : r 4 = 1) {b : Nat} (h2 : r 2 = b) (hb : SH b = (15, 18)) (hrg : 2 ≤ b ∧ b + 26 ≤ 54) {X : MI} {J : MJ} {s : Nat × Nat × Nat} (h : PS T n s X J) {A : MI} {yn wn hn sn : Nat} (hD : CD T n A b yn wn hn sn X J) (hk : kw T n s.2.2 = 1) : Cq yX8_parseWay MX8_parseWay [.ref 54] X r J (RLb T n s A b X J r) := by
  have hc := CD_c hD
  by_cases hf : wn < 16
  · exact cq_mono (fun v Y r' K hv => RLb_g (by unfold lb; rw [if_neg (show ¬ kw T n s.2.2 = 0 by omega), if_pos hk, hc.1, hc.2.1, if_pos hf]) hv) (c_pwy h4 h2 hb hrg h hD hf)
  · exact cq_mono (fun v Y r' K hv => RLb_f (by unfold lb; rw [if_neg (show ¬ kw T n s.2.2 = 0 by omega), if_pos hk, hc.2.1, if_neg hf]) hv) (c_pwy_f h4 h2 hb hrg h hD (by omega))
theorem c_l2 {T : Nat → Nat} {n : Nat} {r : MR} (h4 : r 4 = 1) {b : Nat} (h2 : r 2 = b) (hb : SH b = (15, 18)) (hrg : 2 ≤ b ∧ b + 26 ≤ 54) {X : MI} {J : MJ} {s : Nat × Nat × Nat} (h : PS T n s X J) {A : MI} {yn wn hn sn : Nat} (hD : CD T n A b yn wn hn sn X J) (hk : kw T n s.2.2 = 2) : Cq yX8_parseHour MX8_parseHour [.ref 54] X r J (RLb T n s A b X J r) := by
  have hc := CD_c hD
  by_cases hf : hn < 12
  · exact cq_mono (fun v Y r' K hv => RLb_g (by unfold lb; rw [if_neg (show ¬ kw T n s.2.2 = 0 by omega), if_neg (show ¬ kw T n s.2.2 = 1 by omega), if_pos hk, hc.2.2.1, if_pos hf]) hv) (c_pho h4 h2 hb hrg h hD hf)
  · exact cq_mono (fun v Y r' K hv => RLb_f (by unfold lb; rw [if_neg (show ¬ kw T n s.2.2 = 0 by omega), if_neg (show ¬ kw T n s.2.2 = 1 by omega), if_pos hk, hc.2.2.1, if_neg hf]) hv) (c_pho_f h4 h2 hb hrg h hD (by omega))
theorem c_l3 {T : Nat → Nat} {n : Nat} {r : MR} (h4 : r 4 = 1) {b : Nat} (h2 : r 2 = b) (hb : SH b = (15, 18)) (hrg : 2 ≤ b ∧ b + 26 ≤ 54) {X : MI} {J : MJ} {s : Nat × Nat × Nat} (h : PS T n s X J) {A : MI} {yn wn hn sn : Nat} (hD : CD T n A b yn wn hn sn X J) (hk : kw T n s.2.2 = 3) : Cq yX8_parseSlip MX8_parseSlip [.ref 54] X r J (RLb T n s A b X J r) := by
  have hc := CD_c hD
  by_cases hf : sn < 7
  · exact cq_mono (fun v Y r' K hv => RLb_g (by unfold lb; rw [if_neg (show ¬ kw T n s.2.2 = 0 by omega), if_neg (show ¬ kw T n s.2.2 = 1 by omega), if_neg (show ¬ kw T n s.2.2 = 2 by omega), if_pos hk, hc.2.2.2.1, if_pos hf]) hv) (c_psl h4 h2 hb hrg h hD hf)
  · exact cq_mono (fun v Y r' K hv => RLb_f (by unfold lb; rw [if_neg (show ¬ kw T n s.2.2 = 0 by omega), if_neg (show ¬ kw T n s.2.2 = 1 by omega), if_neg (show ¬ kw T n s.2.2 = 2 by omega), if_pos hk, hc.2.2.2.1, if_neg hf]) hv) (c_psl_f h4 h2 hb hrg h hD (by omega))
theorem c_l4 {T : Nat → Nat} {n : Nat} {r : MR} (h4 : r 4 = 1) {b : Nat} (h2 : r 2 = b) (hb : SH b = (15, 18)) (hrg : 2 ≤ b ∧ b + 26 ≤ 54) {X : MI} {J : MJ} {s : Nat × Nat × Nat} (h : PS T n s X J) {A : MI} {yn wn hn sn : Nat} (hD : CD T n A b yn wn hn sn X J) (hk : kw T n s.2.2 = 4) : Cq yX8_parseOnce MX8_parseOnce [.ref 54, .int 4] X r J (RLb T n s A b X J r) := by
  have hc := CD_c hD
  cases ht : (tA A).testBit 4 with
  | false => exact cq_mono (fun v Y r' K hv => RLb_g (by unfold lb; rw [if_neg (show ¬ kw T n s.2.2 = 0 by omega), if_neg (show ¬ kw T n s.2.2 = 1 by omega), if_neg (show ¬ kw T n s.2.2 = 2 by omega), if_neg (show ¬ kw T n s.2.2 = 3 by omega), if_pos (show kw T n s.2.2 < 8 by omega), hk, ht, hc.1]; rfl) hv) (c_pon4 h4 h2 hb hrg h hD hc.2.2.2.2.1 hc.2.2.2.2.2 ht)
  | true => exact cq_mono (fun v Y r' K hv => RLb_f (by unfold lb; rw [if_neg (show ¬ kw T n s.2.2 = 0 by omega), if_neg (show ¬ kw T n s.2.2 = 1 by omega), if_neg (show ¬ kw T n s.2.2 = 2 by omega), if_neg (show ¬ kw T n s.2.2 = 3 by omega), if_pos (show kw T n s.2.2 < 8 by omega), hk, ht]; rfl) hv) (c_pon4_f h4 h2 hb hrg h hD hc.2.2.2.2.1 hc.2.2.2.2.2 ht)
theorem c_l5 {T : Nat → Nat} {n : Nat} {r : MR} (h4 : r 4 = 1) {b : Nat} (h2 : r 2 = b) (hb : SH b = (15, 18)) (hrg : 2 ≤ b ∧ b + 26 ≤ 54) {X : MI} {J : MJ} {s : Nat × Nat × Nat} (h : PS T n s X J) {A : MI} {yn wn hn sn : Nat} (hD : CD T n A b yn wn hn sn X J) (hk : kw T n s.2.2 = 5) : Cq yX8_parseOnce MX8_parseOnce [.ref 54, .int 5] X r J (RLb T n s A b X J r) := by
  have hc := CD_c hD
  cases ht : (tA A).testBit 5 with
  | false => exact cq_mono (fun v Y r' K hv => RLb_g (by unfold lb; rw [if_neg (show ¬ kw T n s.2.2 = 0 by omega), if_neg (show ¬ kw T n s.2.2 = 1 by omega), if_neg (show ¬ kw T n s.2.2 = 2 by omega), if_neg (show ¬ kw T n s.2.2 = 3 by omega), if_pos (show kw T n s.2.2 < 8 by omega), hk, ht, hc.1]; rfl) hv) (c_pon5 h4 h2 hb hrg h hD hc.2.2.2.2.1 hc.2.2.2.2.2 ht)
  | true => exact cq_mono (fun v Y r' K hv => RLb_f (by unfold lb; rw [if_neg (show ¬ kw T n s.2.2 = 0 by omega), if_neg (show ¬ kw T n s.2.2 = 1 by omega), if_neg (show ¬ kw T n s.2.2 = 2 by omega), if_neg (show ¬ kw T n s.2.2 = 3 by omega), if_pos (show kw T n s.2.2 < 8 by omega), hk, ht]; rfl) hv) (c_pon5_f h4 h2 hb hrg h hD hc.2.2.2.2.1 hc.2.2.2.2.2 ht)
theorem c_l6 {T : Nat → Nat} {n : Nat} {r : MR} (h4 : r 4 = 1) {b : Nat} (h2 : r 2 = b) (hb : SH b = (15, 18)) (hrg : 2 ≤ b ∧ b + 26 ≤ 54) {X : MI} {J : MJ} {s : Nat × Nat × Nat} (h : PS T n s X J) {A : MI} {yn wn hn sn : Nat} (hD : CD T n A b yn wn hn sn X J) (hk : kw T n s.2.2 = 6) : Cq yX8_parseOnce MX8_parseOnce [.ref 54, .int 6] X r J (RLb T n s A b X J r) := by
  have hc := CD_c hD
  cases ht : (tA A).testBit 6 with
  | false => exact cq_mono (fun v Y r' K hv => RLb_g (by unfold lb; rw [if_neg (show ¬ kw T n s.2.2 = 0 by omega), if_neg (show ¬ kw T n s.2.2 = 1 by omega), if_neg (show ¬ kw T n s.2.2 = 2 by omega), if_neg (show ¬ kw T n s.2.2 = 3 by omega), if_pos (show kw T n s.2.2 < 8 by omega), hk, ht, hc.1]; rfl) hv) (c_pon6 h4 h2 hb hrg h hD hc.2.2.2.2.1 hc.2.2.2.2.2 ht)
  | true => exact cq_mono (fun v Y r' K hv => RLb_f (by unfold lb; rw [if_neg (show ¬ kw T n s.2.2 = 0 by omega), if_neg (show ¬ kw T n s.2.2 = 1 by omega), if_neg (show ¬ kw T n s.2.2 = 2 by omega), if_neg (show ¬ kw T n s.2.2 = 3 by omega), if_pos (show kw T n s.2.2 < 8 by omega), hk, ht]; rfl) hv) (c_pon6_f h4 h2 hb hrg h hD hc.2.2.2.2.1 hc.2.2.2.2.2 ht)
theorem c_l7 {T : Nat → Nat} {n : Nat} {r : MR} (h4 : r 4 = 1) {b : Nat} (h2 : r 2 = b) (hb : SH b = (15, 18)) (hrg : 2 ≤ b ∧ b + 26 ≤ 54) {X : MI} {J : MJ} {s : Nat × Nat × Nat} (h : PS T n s X J) {A : MI} {yn wn hn sn : Nat} (hD : CD T n A b yn wn hn sn X J) (hk : kw T n s.2.2 = 7) : Cq yX8_parseOnce MX8_parseOnce [.ref 54, .int 7] X r J (RLb T n s A b X J r) := by
  have hc := CD_c hD
  cases ht : (tA A).testBit 7 with
  | false => exact cq_mono (fun v Y r' K hv => RLb_g (by unfold lb; rw [if_neg (show ¬ kw T n s.2.2 = 0 by omega), if_neg (show ¬ kw T n s.2.2 = 1 by omega), if_neg (show ¬ kw T n s.2.2 = 2 by omega), if_neg (show ¬ kw T n s.2.2 = 3 by omega), if_pos (show kw T n s.2.2 < 8 by omega), hk, ht, hc.1]; rfl) hv) (c_pon7 h4 h2 hb hrg h hD hc.2.2.2.2.1 hc.2.2.2.2.2 ht)
  | true => exact cq_mono (fun v Y r' K hv => RLb_f (by unfold lb; rw [if_neg (show ¬ kw T n s.2.2 = 0 by omega), if_neg (show ¬ kw T n s.2.2 = 1 by omega), if_neg (show ¬ kw T n s.2.2 = 2 by omega), if_neg (show ¬ kw T n s.2.2 = 3 by omega), if_pos (show kw T n s.2.2 < 8 by omega), hk, ht]; rfl) hv) (c_pon7_f h4 h2 hb hrg h hD hc.2.2.2.2.1 hc.2.2.2.2.2 ht)
theorem c_l8 {T : Nat → Nat} {n : Nat} {r : MR} (h4 : r 4 = 1) {b : Nat} (h2 : r 2 = b) (hb : SH b = (15, 18)) (hrg : 2 ≤ b ∧ b + 26 ≤ 54) {X : MI} {J : MJ} {s : Nat × Nat × Nat} (h : PS T n s X J) {A : MI} {yn wn hn sn : Nat} (hD : CD T n A b yn wn hn sn X J) (hk : 8 ≤ kw T n s.2.2) : Cq yX8_refuseToken MX8_refuseToken [.ref 54] X r J (RLb T n s A b X J r) := by
  refine cq_mono (fun v Y r' K hv => RLb_f (by unfold lb; rw [if_neg (show ¬ kw T n s.2.2 = 0 by omega), if_neg (show ¬ kw T n s.2.2 = 1 by omega), if_neg (show ¬ kw T n s.2.2 = 2 by omega), if_neg (show ¬ kw T n s.2.2 = 3 by omega), if_neg (show ¬ kw T n s.2.2 < 8 by omega)]) ?_) (c_rfT h4 h)
  exact ⟨hv.1, ⟨hv.2.1.1, FW.d hv.2.1.2.w, fun z => absurd z rfT_n⟩, hv.2.2⟩
