def wy (I : MI) (b yn i f t k : Nat) : Prop := I (b + 2) i = nI f ∧ I (b + 3) i = nI t ∧ I (b + 4) i = nI k ∧ f < yn ∧ t < yn ∧ ¬ f = t ∧ 1 ≤ k ∧ k ≤ 60
theorem wy_is {I : MI} {b yn i f t k a c : Nat} (h8 : yn ≤ 8) (h : wy I b yn i f t k) (ha : a < 8) (hc : c < 8) : wayIs I b i a c ↔ (a = f ∧ c = t) ∨ (a = t ∧ c = f) := by
  obtain ⟨h1, h2, h3, h4, h5, -⟩ := h
  unfold wayIs
  rw [h1, h2, nI_eq (by omega) (by omega), nI_eq (by omega) (by omega), nI_eq (by omega) (by omega), nI_eq (by omega) (by omega)]
  omega
theorem wy_ed {I : MI} {b yn wn sn i f t k : Nat} (h8 : yn ≤ 8) (he : RLe I b yn wn sn) (hi : i < wn) (h : wy I b yn i f t k) : ed I f t k ∧ ed I t f k := by
  obtain ⟨-, -, -, -, -, -, e, -⟩ := he
  have q1 := e i hi f t (by have := h.2.2.2.1; omega) (by have := h.2.2.2.2.1; omega) (Or.inl ⟨h.1, h.2.1⟩)
  have q2 := e i hi t f (by have := h.2.2.2.2.1; omega) (by have := h.2.2.2.1; omega) (Or.inr ⟨h.1, h.2.1⟩)
  obtain ⟨h1, h2, h3, h4, h5, h6, h7, h9⟩ := h
  exact ⟨⟨by omega, by omega, h7, h9, by rw [q1, h3]⟩, ⟨by omega, by omega, h7, h9, by rw [q2, h3]⟩⟩
theorem ed_wy {I : MI} {b yn wn sn a c k : Nat} (h2 : LOk2 I b yn wn sn) (h8 : yn ≤ 8) (he : RLe I b yn wn sn) (h : ed I a c k) : ∃ i, i < wn ∧ wayIs I b i a c ∧ I (b + 4) i = nI k ∧ a < yn ∧ c < yn := by
  obtain ⟨ha, hc, hk1, hk2, e⟩ := h
  obtain ⟨i, hi, hw⟩ := he.2.2.2.2.2.2.2 a c ha hc (by rw [e]; exact nI_ne0 (by omega) (by omega))
  have q := he.2.2.2.2.2.2.1 i hi a c ha hc hw
  obtain ⟨f, t, k', hwy⟩ := h2.2.2.2.2.2.1 i hi
  have z := (wy_is h8 hwy ha hc).mp hw
  obtain ⟨-, -, -, h4, h5, -⟩ := hwy
  exact ⟨i, hi, hw, by rw [← q, e], by omega, by omega⟩
theorem Ur_0 {I : MI} {b : Nat} {B : Nat → Nat} {sp fr m m' y : Nat} : Ur I b B sp fr m 0 m' y ↔ Sr I B sp fr m m' y := by
  unfold Ur
  exact ⟨fun z => z.elim id (fun ⟨j, a, k, q, _⟩ => absurd q (by omega)), Or.inl⟩
theorem Ur_w {I : MI} {b yn wn sn : Nat} {B : Nat → Nat} {sp fr m m' y : Nat} (h2 : LOk2 I b yn wn sn) (h8 : yn ≤ 8) (he : RLe I b yn wn sn) : Ur I b B sp fr m wn m' y ↔ Sr I B sp fr (m + 1) m' y := by
  unfold Ur
  show _ ↔ (Sr I B sp fr m m' y ∨ ∃ a k, ed I a y k ∧ m' = m + k ∧ Sr I B sp fr m m a ∧ ¬ blk B sp m a)
  constructor
  · rintro (z | ⟨j, a, k, q1, q2, q3, q4, q5, q6⟩)
    · exact Or.inl z
    · exact Or.inr ⟨a, k, q4, q5, q6⟩
  · rintro (z | ⟨a, k, q4, q5, q6⟩)
    · exact Or.inl z
    · obtain ⟨j, hj, w1, w2, -⟩ := ed_wy h2 h8 he q4
      exact Or.inr ⟨j, a, k, hj, w1, w2, q4, q5, q6⟩
theorem Ur_s {I : MI} {b yn wn sn : Nat} {B : Nat → Nat} {sp fr m i m' y f t k : Nat} (h8 : yn ≤ 8) (he : RLe I b yn wn sn) (hi : i < wn) (hw : wy I b yn i f t k) (hy : y < 8) : Ur I b B sp fr m (i + 1) m' y ↔ Ur I b B sp fr m i m' y ∨ (m' = m + k ∧ y = t ∧ Rr I B sp fr m f) ∨ (m' = m + k ∧ y = f ∧ Rr I B sp fr m t) := by
  have hd := wy_ed h8 he hi hw
  unfold Ur
  constructor
  · rintro (z | ⟨j, a, k', q1, q2, q3, q4, q5, q6⟩)
    · exact Or.inl (Or.inl z)
    · by_cases e : j = i
      · subst e
        have ek : k' = k := by
          have := hw.2.2.1
          rw [q3, nI_eq (by have := q4.2.2.2.1; omega) (by have := hw.2.2.2.2.2.2.2; omega)] at this
          exact this
        subst ek
        rcases (wy_is h8 hw q4.1 hy).mp q2 with ⟨rfl, rfl⟩ | ⟨rfl, rfl⟩
        · exact Or.inr (Or.inl ⟨q5, rfl, q6⟩)
        · exact Or.inr (Or.inr ⟨q5, rfl, q6⟩)
      · exact Or.inl (Or.inr ⟨j, a, k', by omega, q2, q3, q4, q5, q6⟩)
  · rintro ((z | ⟨j, a, k', q1, q⟩) | ⟨q1, q2, q3⟩ | ⟨q1, q2, q3⟩)
    · exact Or.inl z
    · exact Or.inr ⟨j, a, k', by omega, q⟩
    · exact Or.inr ⟨i, f, k, by omega, (wy_is h8 hw hd.1.1 hy).mpr (Or.inl ⟨rfl, q2⟩), hw.2.2.1, by rw [q2]; exact hd.1, q1, q3⟩
    · exact Or.inr ⟨i, t, k, by omega, (wy_is h8 hw hd.2.1 hy).mpr (Or.inr ⟨rfl, q2⟩), hw.2.2.1, by rw [q2]; exact hd.2, q1, q3⟩
theorem Ur_m {I : MI} {b : Nat} {B : Nat → Nat} {sp fr m i y : Nat} : Ur I b B sp fr m i m y ↔ Sr I B sp fr m m y := by
  unfold Ur
  refine ⟨fun z => z.elim id (fun ⟨j, a, k, q1, q2, q3, q4, q5, q6⟩ => absurd q4.2.2.1 (by omega)), Or.inl⟩
def QU (I : MI) (b : Nat) (B : Nat → Nat) (sp fr m i : Nat) : Nat → Nat → Prop := fun m' y => Ur I b B sp fr m i m' y ∧ ¬ blk B sp m' y
def QV (I : MI) (b : Nat) (B : Nat → Nat) (sp fr m i f t k : Nat) : Nat → Nat → Prop := fun m' y => QU I b B sp fr m i m' y ∨ (m' = m + k ∧ y = t ∧ Rr I B sp fr m f ∧ ¬ blk B sp m' y)
theorem bt_0 {c lo m y : Nat} {Q : Nat → Nat → Prop} {X : MI} (h : th c lo Q X) (hl : lo ≤ m) (hm : m ≤ 720) (hy : y < 8) : (X c m >>> (nI y &&& 31)) &&& 1 = 0 ↔ ¬ Q m y := by
  obtain ⟨N, q1, q2, q3⟩ := h m hl hm
  rw [q2, bit_0 (by omega) (by omega), ← q3 y hy]
  cases N.testBit y <;> decide
theorem bt_1 {c lo m y : Nat} {Q : Nat → Nat → Prop} {X : MI} (h : th c lo Q X) (hl : lo ≤ m) (hm : m ≤ 720) (hy : y < 8) : (X c m >>> (nI y &&& 31)) &&& 1 = 1 ↔ Q m y := by
  obtain ⟨N, q1, q2, q3⟩ := h m hl hm
  rw [q2, bit_1 (by omega) (by omega), ← q3 y hy]
def spec (I : MI) (B : Nat → Nat) (sp fr to : Nat) (v : Int32) : Prop := (∀ m, m ≤ 720 → Rr I B sp fr m to → (∀ m', m' < m → ¬ Rr I B sp fr m' to) → v = nI m) ∧ ((∀ m, m ≤ 720 → ¬ Rr I B sp fr m to) → v = -1)
theorem lst {p : Nat → Prop} : ∀ n, (∃ m, m < n ∧ p m ∧ ∀ m', m' < m → ¬ p m') ∨ ∀ m, m < n → ¬ p m := by
  intro n
  induction n with
  | zero => exact Or.inr (fun m h => absurd h (by omega))
  | succ n ih =>
    rcases ih with ⟨m, h1, h2, h3⟩ | ih
    · exact Or.inl ⟨m, by omega, h2, h3⟩
    · rcases Classical.em (p n) with q | q
      · exact Or.inl ⟨n, by omega, q, ih⟩
      · refine Or.inr (fun m hm => ?_)
        by_cases e : m = n
        · rw [e]; exact q
        · exact ih m (by omega)
theorem spec_ex (I : MI) (B : Nat → Nat) (sp fr to : Nat) : ∃ v, spec I B sp fr to v := by
  rcases lst (p := fun m => Rr I B sp fr m to) 721 with ⟨m, h1, h2, h3⟩ | h
  · refine ⟨nI m, fun m1 g1 g2 g3 => ?_, fun g => absurd h2 (g m (by omega))⟩
    rcases Nat.lt_trichotomy m m1 with q | q | q
    · exact absurd h2 (g3 m q)
    · rw [q]
    · exact absurd g2 (h3 m1 q)
  · exact ⟨-1, fun m g1 g2 _ => absurd g2 (h m (by omega)), fun _ => rfl⟩
set_option maxRecDepth 100000 in
theorem l_opw {I : MI} {b yn wn hn sn st : Nat} {r : MR} (J : MJ) (h : RelL I b yn wn hn sn st) (hb28 : b ≤ 28) {B : Nat → Nat} (hB : ∀ s, B s < 256) {sp fr to : Nat} (hsp : sp ≤ 71) {m : Nat} (hm : m ≤ 720) (post : Option Value → MI → MR → MJ → Prop) (kx : ∀ (X : MI) (x6 x7 : Option Value), CI I B (QU I b B sp fr (m + 1) 0) X → Wq MX0_fewestMinutes 154 [some (.ref 85), some (.ref b), some (.int (nI fr)), some (.int (nI to)), some (.int (nI sp)), some (.int (nI m)), x6, x7] [] X r J post) : ∀ (f : Nat) (i : Nat) (X : MI) (x7 : Option Value) (_ : i + f = wn) (_ : CI I B (QU I b B sp fr m i) X), Wq MX0_fewestMinutes 47 [some (.ref 85), some (.ref b), some (.int (nI fr)), some (.int (nI to)), some (.int (nI sp)), some (.int (nI m)), some (.int (nI i)), x7] [] X r J (post) := by
  have h8 : yn ≤ 8 := h.1.2.2.1
  have hw16 : wn ≤ 16 := h.2.1.2.1
  intro f
  induction f with
  | zero =>
    intro i X x7 hik hX
    have ewn : X b 5 = nI wn := by rw [hX.1.L hb28 b ⟨by omega, by omega⟩]; exact h.2.1.1
    have hcm : (nI m).toNatClampNeg = m := nI_clamp (by omega)
    refine x_iload (q := 49) dX0_fewestMinutes_47 rfl rfl ?_
    refine x_aload_n (q := 50) dX0_fewestMinutes_49 rfl rfl ?_
    refine q_gi (K := 5) (q := 53) dX0_fewestMinutes_50 rfl cl_5 (by decide) tw_185 h.1.1 rfl ?_
    refine x_icmp_ge (t := 154) (q := 56) dX0_fewestMinutes_53 (by decide) rfl (fun c53 => ?_) (fun c53 => absurd c53 (fun q => q (by rw [ewn]; exact nI_le (by omega) (by omega))))
    refine kx _ _ _ ⟨hX.1, hX.2.1, th_q hX.2.2 (Nat.le_refl _) (fun m1 y1 _ g1 g2 => ?_)⟩
    unfold QU
    rw [Ur_0, ← Ur_w h.2.1 h8 h.2.2.2.1]
    rw [show i = wn by omega]
  | succ f ih =>
    intro i X x7 hik hX
    have ewn : X b 5 = nI wn := by rw [hX.1.L hb28 b ⟨by omega, by omega⟩]; exact h.2.1.1
    have hcm : (nI m).toNatClampNeg = m := nI_clamp (by omega)
    refine x_iload (q := 49) dX0_fewestMinutes_47 rfl rfl ?_
    refine x_aload_n (q := 50) dX0_fewestMinutes_49 rfl rfl ?_
    refine q_gi (K := 5) (q := 53) dX0_fewestMinutes_50 rfl cl_5 (by decide) tw_185 h.1.1 rfl ?_
    refine x_icmp_ge (t := 154) (q := 56) dX0_fewestMinutes_53 (by decide) rfl (fun c53 => absurd c53 (by rw [ewn]; exact nI_ge (by omega) (by omega))) (fun c53 => ?_)
    refine x_aload_n (q := 57) dX0_fewestMinutes_56 rfl rfl ?_
    refine q_gr (K := 1) (b := 87) (q := 60) dX0_fewestMinutes_57 rfl cl_0 (by decide) tw_519 rfl rfl rfl ?_
    refine x_iload (q := 62) dX0_fewestMinutes_60 rfl rfl ?_
    refine q_iald (q := 63) dX0_fewestMinutes_62 rfl rfl (vp_in_nI (by omega) (by decide)) ?_
    refine x_if_eq (t := 154) (q := 66) dX0_fewestMinutes_63 (by decide) rfl (fun c63 => ?_) (fun c63 => ?_)
    · refine kx _ _ _ ⟨hX.1, hX.2.1, th_q hX.2.2 (Nat.le_refl _) (fun m1 y1 _ g1 g2 => ?_)⟩
      unfold QU
      rw [Ur_0, ← Ur_w h.2.1 h8 h.2.2.2.1]
      have no : ∀ a, a < 8 → ¬ Rr I B sp fr m a := fun a ha q => by
        obtain ⟨N, q1, q2, q3⟩ := hX.2.2 m (Nat.zero_le _) hm
        rw [hcm, q2] at c63
        have e0 : N = 0 := by
          by_cases z : N = 0
          · exact z
          · exact absurd c63 (nI_ne0 (by omega) (by omega))
        have := (q3 a ha).mpr ⟨Ur_m.mpr q.1, q.2⟩
        rw [e0, Nat.zero_testBit] at this
        exact absurd this (by decide)
      have nu : ∀ n, Ur I b B sp fr m n m1 y1 ↔ Sr I B sp fr m m1 y1 := fun n => ⟨fun z => z.elim id (fun ⟨j, a, k, q1, q2, q3, q4, q5, q6⟩ => absurd q6 (no a q4.1)), Or.inl⟩
      rw [nu, nu]
    · refine x_iload (q := 68) dX0_fewestMinutes_66 rfl rfl ?_
      refine x_aload_n (q := 69) dX0_fewestMinutes_68 rfl rfl ?_
      refine q_gr (K := 4) (b := (b + 4)) (q := 72) dX0_fewestMinutes_69 rfl cl_5 (by decide) tw_181 h.1.1 rfl (lr_w h.1.1 _).2.2.2.1 ?_
      refine x_iload (q := 74) dX0_fewestMinutes_72 rfl rfl ?_
      refine q_iald (q := 75) dX0_fewestMinutes_74 rfl (ls_w h.1.1).2.2.2.1 (vp_in_nI (by omega) (by decide)) ?_
      refine x_iadd (q := 76) dX0_fewestMinutes_75 rfl ?_
      refine x_nmi (fun v1 ev1 => ?_)
      refine x_istore (L2 := [some (.ref 85), some (.ref b), some (.int (nI fr)), some (.int (nI to)), some (.int (nI sp)), some (.int (nI m)), some (.int (nI i)), some (.int v1)]) (q := 78) dX0_fewestMinutes_76 rfl (by decide) rfl rfl ?_
      obtain ⟨f, t, k, hwy⟩ : ∃ f t k, wy I b yn i f t k := h.2.1.2.2.2.2.2.1 i (by omega)
      have hci : (nI i).toNatClampNeg = i := nI_clamp (by omega)
      have hw2 := hwy.2.2.2.1; have hw3 := hwy.2.2.2.2.1; have hw4 := hwy.2.2.2.2.2.2.1; have hw5 := hwy.2.2.2.2.2.2.2
      have x2 : X (b + 2) i = nI f := by rw [hX.1.L hb28 (b + 2) ⟨by omega, by omega⟩]; exact hwy.1
      have x3 : X (b + 3) i = nI t := by rw [hX.1.L hb28 (b + 3) ⟨by omega, by omega⟩]; exact hwy.2.1
      have x4 : X (b + 4) i = nI k := by rw [hX.1.L hb28 (b + 4) ⟨by omega, by omega⟩]; exact hwy.2.2.1
      rw [hci, x4, nI_add] at ev1
      subst ev1
      refine x_aload_n (q := 79) dX0_fewestMinutes_78 rfl rfl ?_
      refine q_gr (K := 1) (b := 87) (q := 82) dX0_fewestMinutes_79 rfl cl_0 (by decide) tw_519 rfl rfl rfl ?_
      refine x_iload (q := 84) dX0_fewestMinutes_82 rfl rfl ?_
      refine q_iald (q := 85) dX0_fewestMinutes_84 rfl rfl (vp_in_nI (by omega) (by decide)) ?_
      refine x_aload_n (q := 86) dX0_fewestMinutes_85 rfl rfl ?_
      refine q_gr (K := 2) (b := (b + 2)) (q := 89) dX0_fewestMinutes_86 rfl cl_5 (by decide) tw_173 h.1.1 rfl (lr_w h.1.1 _).2.1 ?_
      refine x_iload (q := 91) dX0_fewestMinutes_89 rfl rfl ?_
      refine q_iald (q := 92) dX0_fewestMinutes_91 rfl (ls_w h.1.1).2.1 (vp_in_nI (by omega) (by decide)) ?_
      refine x_ishr (q := 93) dX0_fewestMinutes_92 rfl ?_
      refine x_iconst (1) (q := 94) dX0_fewestMinutes_93 rfl (by decide) ?_
      refine x_iand (q := 95) dX0_fewestMinutes_94 rfl ?_
      refine x_if_eq (t := 113) (q := 98) dX0_fewestMinutes_95 (by decide) rfl (fun c95 => ?_) (fun c95 => ?_)
      · have nf : ¬ Rr I B sp fr m f := fun q => by
          rw [hcm, hci, x2, bt_0 hX.2.2 (Nat.zero_le _) hm (by omega)] at c95
          exact c95 ⟨Ur_m.mpr q.1, q.2⟩
        have hZ : CI I B (QV I b B sp fr m i f t k) X := ⟨hX.1, hX.2.1, th_q hX.2.2 (Nat.le_refl _) (fun m1 y1 _ _ _ => ⟨fun z => z.elim id (fun w => absurd w.2.2.1 nf), Or.inl⟩)⟩
        have z2 : X (b + 2) i = nI f := by rw [hZ.1.L hb28 (b + 2) ⟨by omega, by omega⟩]; exact hwy.1
        have z3 : X (b + 3) i = nI t := by rw [hZ.1.L hb28 (b + 3) ⟨by omega, by omega⟩]; exact hwy.2.1
        have qr : (X 87 m >>> (nI t &&& 31)) &&& 1 = 0 ↔ ¬ Rr I B sp fr m t := by
          rw [bt_0 hZ.2.2 (Nat.zero_le _) hm (by omega)]
          exact ⟨fun z q => z (Or.inl ⟨Ur_m.mpr q.1, q.2⟩), fun z q => q.elim (fun w => z ⟨Ur_m.mp w.1, w.2⟩) (fun w => absurd w.1 (by omega))⟩
        refine x_aload_n (q := 114) dX0_fewestMinutes_113 rfl rfl ?_
        refine q_gr (K := 1) (b := 87) (q := 117) dX0_fewestMinutes_114 rfl cl_0 (by decide) tw_519 rfl rfl rfl ?_
        refine x_iload (q := 119) dX0_fewestMinutes_117 rfl rfl ?_
        refine q_iald (q := 120) dX0_fewestMinutes_119 rfl rfl (vp_in_nI (by omega) (by decide)) ?_
        refine x_aload_n (q := 121) dX0_fewestMinutes_120 rfl rfl ?_
        refine q_gr (K := 3) (b := (b + 3)) (q := 124) dX0_fewestMinutes_121 rfl cl_5 (by decide) tw_177 h.1.1 rfl (lr_w h.1.1 _).2.2.1 ?_
        refine x_iload (q := 126) dX0_fewestMinutes_124 rfl rfl ?_
        refine q_iald (q := 127) dX0_fewestMinutes_126 rfl (ls_w h.1.1).2.2.1 (vp_in_nI (by omega) (by decide)) ?_
        refine x_ishr (q := 128) dX0_fewestMinutes_127 rfl ?_
        refine x_iconst (1) (q := 129) dX0_fewestMinutes_128 rfl (by decide) ?_
        refine x_iand (q := 130) dX0_fewestMinutes_129 rfl ?_
        refine x_if_eq (t := 148) (q := 133) dX0_fewestMinutes_130 (by decide) rfl (fun c130 => ?_) (fun c130 => ?_)
        · obtain ⟨v41, ev41⟩ : ∃ y_ : Int32, y_ = (nI i) + 1 := ⟨_, rfl⟩
          refine x_iinc (v := v41) (L2 := [some (.ref 85), some (.ref b), some (.int (nI fr)), some (.int (nI to)), some (.int (nI sp)), some (.int (nI m)), some (.int v41), some (.int (nI (m + k)))]) (q := 151) dX0_fewestMinutes_148 rfl (by decide) rfl rfl (by rw [ev41]; rfl) rfl ?_
          refine x_goto (t := 47) dX0_fewestMinutes_151 (by decide) ?_
          rw [hcm, hci, z3, qr] at c130
          have hW : CI I B (QU I b B sp fr m (i + 1)) X := ⟨hZ.1, hZ.2.1, th_q hZ.2.2 (Nat.le_refl _) (fun m1 y1 _ _ g2 => ?_)⟩
          · rw [show v41 = nI (i + 1) by rw [ev41, nI_p1]]
            exact ih (i + 1) _ _ (by omega) hW
          · unfold QV QU
            rw [Ur_s h8 h.2.2.2.1 (by omega) hwy g2]
            exact ⟨fun ⟨z, n⟩ => z.elim (fun w => Or.inl ⟨w, n⟩) (fun w => w.elim (fun w => Or.inr ⟨w.1, w.2.1, w.2.2, n⟩) (fun w => absurd w.2.2 c130)), fun z => z.elim (fun w => ⟨Or.inl w.1, w.2⟩) (fun w => ⟨Or.inr (Or.inl ⟨w.1, w.2.1, w.2.2.1⟩), w.2.2.2⟩)⟩
        · refine x_aload_n (q := 134) dX0_fewestMinutes_133 rfl rfl ?_
          refine x_aload_n (q := 135) dX0_fewestMinutes_134 rfl rfl ?_
          refine q_gr (K := 2) (b := (b + 2)) (q := 138) dX0_fewestMinutes_135 rfl cl_5 (by decide) tw_173 h.1.1 rfl (lr_w h.1.1 _).2.1 ?_
          refine x_iload (q := 140) dX0_fewestMinutes_138 rfl rfl ?_
          refine q_iald (q := 141) dX0_fewestMinutes_140 rfl (ls_w h.1.1).2.1 (vp_in_nI (by omega) (by decide)) ?_
          refine x_iload (q := 143) dX0_fewestMinutes_141 rfl rfl ?_
          refine x_iload (q := 145) dX0_fewestMinutes_143 rfl rfl ?_
          refine q_callV (ci := 0) (N := 2) (T := TX0) (As := [.int (X (b + 2) (nI i).toNatClampNeg), .int (nI (m + k)), .int (nI sp)]) (rest := []) (q := 148) dX0_fewestMinutes_145 rfl okX0_arrive tw_990 rfl rfl (by rw [hci, z2]; exact c_arrive (Q := (QV I b B sp fr m i f t k)) (Q' := (QU I b B sp fr m (i + 1))) hZ hB (by omega) (by omega) hsp (fun m1 y1 g1 g2 => by rw [hcm, hci, z3, qr, Classical.not_not] at c130; unfold QV QU; rw [Ur_s h8 h.2.2.2.1 (by omega) hwy g2]; exact ⟨fun ⟨z, n⟩ => z.elim (fun w => Or.inl (Or.inl ⟨w, n⟩)) (fun w => w.elim (fun w => Or.inl (Or.inr ⟨w.1, w.2.1, w.2.2, n⟩)) (fun w => Or.inr ⟨w.1, w.2.1, by rw [← w.1, ← w.2.1]; exact n⟩)), fun z => z.elim (fun z => z.elim (fun w => ⟨Or.inl w.1, w.2⟩) (fun w => ⟨Or.inr (Or.inl ⟨w.1, w.2.1, w.2.2.1⟩), w.2.2.2⟩)) (fun w => ⟨Or.inr (Or.inr ⟨w.1, w.2.1, c130⟩), by rw [w.1, w.2.1]; exact w.2.2⟩)⟩) r J) rfl rfl (Nat.le_of_ble_eq_true rfl) ⟨by decide, by decide⟩ ⟨rfl, rfl⟩ (fun rv_ W2 r_ J_ hv_ => ?_)
          obtain ⟨a1_, hW2, a3_, a4_⟩ := hv_
          rw [a1_, a3_, a4_]
          show Wq MX0_fewestMinutes 148 [some (.ref 85), some (.ref b), some (.int (nI fr)), some (.int (nI to)), some (.int (nI sp)), some (.int (nI m)), some (.int (nI i)), some (.int (nI (m + k)))] [] W2 r J _
          obtain ⟨v42, ev42⟩ : ∃ y_ : Int32, y_ = (nI i) + 1 := ⟨_, rfl⟩
          refine x_iinc (v := v42) (L2 := [some (.ref 85), some (.ref b), some (.int (nI fr)), some (.int (nI to)), some (.int (nI sp)), some (.int (nI m)), some (.int v42), some (.int (nI (m + k)))]) (q := 151) dX0_fewestMinutes_148 rfl (by decide) rfl rfl (by rw [ev42]; rfl) rfl ?_
          refine x_goto (t := 47) dX0_fewestMinutes_151 (by decide) ?_
          rw [show v42 = nI (i + 1) by rw [ev42, nI_p1]]
          exact ih (i + 1) _ _ (by omega) hW2
      · refine x_aload_n (q := 99) dX0_fewestMinutes_98 rfl rfl ?_
        refine x_aload_n (q := 100) dX0_fewestMinutes_99 rfl rfl ?_
        refine q_gr (K := 3) (b := (b + 3)) (q := 103) dX0_fewestMinutes_100 rfl cl_5 (by decide) tw_177 h.1.1 rfl (lr_w h.1.1 _).2.2.1 ?_
        refine x_iload (q := 105) dX0_fewestMinutes_103 rfl rfl ?_
        refine q_iald (q := 106) dX0_fewestMinutes_105 rfl (ls_w h.1.1).2.2.1 (vp_in_nI (by omega) (by decide)) ?_
        refine x_iload (q := 108) dX0_fewestMinutes_106 rfl rfl ?_
        refine x_iload (q := 110) dX0_fewestMinutes_108 rfl rfl ?_
        refine q_callV (ci := 0) (N := 2) (T := TX0) (As := [.int (X (b + 3) (nI i).toNatClampNeg), .int (nI (m + k)), .int (nI sp)]) (rest := []) (q := 113) dX0_fewestMinutes_110 rfl okX0_arrive tw_990 rfl rfl (by rw [hci, x3]; exact c_arrive (Q := (QU I b B sp fr m i)) (Q' := (QV I b B sp fr m i f t k)) hX hB (by omega) (by omega) hsp (fun m1 y1 g1 g2 => by rw [hcm, hci, x2, bt_0 hX.2.2 (Nat.zero_le _) hm (by omega), Classical.not_not] at c95; unfold QV; exact ⟨fun z => z.imp id (fun w => ⟨w.1, w.2.1, by rw [← w.1, ← w.2.1]; exact w.2.2.2⟩), fun z => z.imp id (fun w => ⟨w.1, w.2.1, ⟨Ur_m.mp c95.1, c95.2⟩, by rw [w.1, w.2.1]; exact w.2.2⟩)⟩) r J) rfl rfl (Nat.le_of_ble_eq_true rfl) ⟨by decide, by decide⟩ ⟨rfl, rfl⟩ (fun rv_ W1 r_ J_ hv_ => ?_)
        obtain ⟨a1_, hW1, a3_, a4_⟩ := hv_
        rw [a1_, a3_, a4_]
        show Wq MX0_fewestMinutes 113 [some (.ref 85), some (.ref b), some (.int (nI fr)), some (.int (nI to)), some (.int (nI sp)), some (.int (nI m)), some (.int (nI i)), some (.int (nI (m + k)))] [] W1 r J _
        have hZ := hW1
        have z2 : W1 (b + 2) i = nI f := by rw [hZ.1.L hb28 (b + 2) ⟨by omega, by omega⟩]; exact hwy.1
        have z3 : W1 (b + 3) i = nI t := by rw [hZ.1.L hb28 (b + 3) ⟨by omega, by omega⟩]; exact hwy.2.1
        have qr : (W1 87 m >>> (nI t &&& 31)) &&& 1 = 0 ↔ ¬ Rr I B sp fr m t := by
          rw [bt_0 hZ.2.2 (Nat.zero_le _) hm (by omega)]
          exact ⟨fun z q => z (Or.inl ⟨Ur_m.mpr q.1, q.2⟩), fun z q => q.elim (fun w => z ⟨Ur_m.mp w.1, w.2⟩) (fun w => absurd w.1 (by omega))⟩
        refine x_aload_n (q := 114) dX0_fewestMinutes_113 rfl rfl ?_
        refine q_gr (K := 1) (b := 87) (q := 117) dX0_fewestMinutes_114 rfl cl_0 (by decide) tw_519 rfl rfl rfl ?_
        refine x_iload (q := 119) dX0_fewestMinutes_117 rfl rfl ?_
        refine q_iald (q := 120) dX0_fewestMinutes_119 rfl rfl (vp_in_nI (by omega) (by decide)) ?_
        refine x_aload_n (q := 121) dX0_fewestMinutes_120 rfl rfl ?_
        refine q_gr (K := 3) (b := (b + 3)) (q := 124) dX0_fewestMinutes_121 rfl cl_5 (by decide) tw_177 h.1.1 rfl (lr_w h.1.1 _).2.2.1 ?_
        refine x_iload (q := 126) dX0_fewestMinutes_124 rfl rfl ?_
        refine q_iald (q := 127) dX0_fewestMinutes_126 rfl (ls_w h.1.1).2.2.1 (vp_in_nI (by omega) (by decide)) ?_
        refine x_ishr (q := 128) dX0_fewestMinutes_127 rfl ?_
        refine x_iconst (1) (q := 129) dX0_fewestMinutes_128 rfl (by decide) ?_
        refine x_iand (q := 130) dX0_fewestMinutes_129 rfl ?_
        refine x_if_eq (t := 148) (q := 133) dX0_fewestMinutes_130 (by decide) rfl (fun c130 => ?_) (fun c130 => ?_)
        · obtain ⟨v41, ev41⟩ : ∃ y_ : Int32, y_ = (nI i) + 1 := ⟨_, rfl⟩
          refine x_iinc (v := v41) (L2 := [some (.ref 85), some (.ref b), some (.int (nI fr)), some (.int (nI to)), some (.int (nI sp)), some (.int (nI m)), some (.int v41), some (.int (nI (m + k)))]) (q := 151) dX0_fewestMinutes_148 rfl (by decide) rfl rfl (by rw [ev41]; rfl) rfl ?_
          refine x_goto (t := 47) dX0_fewestMinutes_151 (by decide) ?_
          rw [hcm, hci, z3, qr] at c130
          have hW : CI I B (QU I b B sp fr m (i + 1)) W1 := ⟨hZ.1, hZ.2.1, th_q hZ.2.2 (Nat.le_refl _) (fun m1 y1 _ _ g2 => ?_)⟩
          · rw [show v41 = nI (i + 1) by rw [ev41, nI_p1]]
            exact ih (i + 1) _ _ (by omega) hW
          · unfold QV QU
            rw [Ur_s h8 h.2.2.2.1 (by omega) hwy g2]
            exact ⟨fun ⟨z, n⟩ => z.elim (fun w => Or.inl ⟨w, n⟩) (fun w => w.elim (fun w => Or.inr ⟨w.1, w.2.1, w.2.2, n⟩) (fun w => absurd w.2.2 c130)), fun z => z.elim (fun w => ⟨Or.inl w.1, w.2⟩) (fun w => ⟨Or.inr (Or.inl ⟨w.1, w.2.1, w.2.2.1⟩), w.2.2.2⟩)⟩
        · refine x_aload_n (q := 134) dX0_fewestMinutes_133 rfl rfl ?_
          refine x_aload_n (q := 135) dX0_fewestMinutes_134 rfl rfl ?_
          refine q_gr (K := 2) (b := (b + 2)) (q := 138) dX0_fewestMinutes_135 rfl cl_5 (by decide) tw_173 h.1.1 rfl (lr_w h.1.1 _).2.1 ?_
          refine x_iload (q := 140) dX0_fewestMinutes_138 rfl rfl ?_
          refine q_iald (q := 141) dX0_fewestMinutes_140 rfl (ls_w h.1.1).2.1 (vp_in_nI (by omega) (by decide)) ?_
          refine x_iload (q := 143) dX0_fewestMinutes_141 rfl rfl ?_
          refine x_iload (q := 145) dX0_fewestMinutes_143 rfl rfl ?_
          refine q_callV (ci := 0) (N := 2) (T := TX0) (As := [.int (W1 (b + 2) (nI i).toNatClampNeg), .int (nI (m + k)), .int (nI sp)]) (rest := []) (q := 148) dX0_fewestMinutes_145 rfl okX0_arrive tw_990 rfl rfl (by rw [hci, z2]; exact c_arrive (Q := (QV I b B sp fr m i f t k)) (Q' := (QU I b B sp fr m (i + 1))) hZ hB (by omega) (by omega) hsp (fun m1 y1 g1 g2 => by rw [hcm, hci, z3, qr, Classical.not_not] at c130; unfold QV QU; rw [Ur_s h8 h.2.2.2.1 (by omega) hwy g2]; exact ⟨fun ⟨z, n⟩ => z.elim (fun w => Or.inl (Or.inl ⟨w, n⟩)) (fun w => w.elim (fun w => Or.inl (Or.inr ⟨w.1, w.2.1, w.2.2, n⟩)) (fun w => Or.inr ⟨w.1, w.2.1, by rw [← w.1, ← w.2.1]; exact n⟩)), fun z => z.elim (fun z => z.elim (fun w => ⟨Or.inl w.1, w.2⟩) (fun w => ⟨Or.inr (Or.inl ⟨w.1, w.2.1, w.2.2.1⟩), w.2.2.2⟩)) (fun w => ⟨Or.inr (Or.inr ⟨w.1, w.2.1, c130⟩), by rw [w.1, w.2.1]; exact w.2.2⟩)⟩) r J) rfl rfl (Nat.le_of_ble_eq_true rfl) ⟨by decide, by decide⟩ ⟨rfl, rfl⟩ (fun rv_ W2 r_ J_ hv_ => ?_)
          obtain ⟨a1_, hW2, a3_, a4_⟩ := hv_
          rw [a1_, a3_, a4_]
          show Wq MX0_fewestMinutes 148 [some (.ref 85), some (.ref b), some (.int (nI fr)), some (.int (nI to)), some (.int (nI sp)), some (.int (nI m)), some (.int (nI i)), some (.int (nI (m + k)))] [] W2 r J _
          obtain ⟨v42, ev42⟩ : ∃ y_ : Int32, y_ = (nI i) + 1 := ⟨_, rfl⟩
          refine x_iinc (v := v42) (L2 := [some (.ref 85), some (.ref b), some (.int (nI fr)), some (.int (nI to)), some (.int (nI sp)), some (.int (nI m)), some (.int v42), some (.int (nI (m + k)))]) (q := 151) dX0_fewestMinutes_148 rfl (by decide) rfl rfl (by rw [ev42]; rfl) rfl ?_
          refine x_goto (t := 47) dX0_fewestMinutes_151 (by decide) ?_
          rw [show v42 = nI (i + 1) by rw [ev42, nI_p1]]
          exact ih (i + 1) _ _ (by omega) hW2
set_option maxRecDepth 100000 in
theorem l_opm {I : MI} {b yn wn hn sn st : Nat} {r : MR} (J : MJ) (h : RelL I b yn wn hn sn st) (hb28 : b ≤ 28) {B : Nat → Nat} (hB : ∀ s, B s < 256) {sp fr to : Nat} (hsp : sp ≤ 71) (hto : to < 8) {v : Int32} (hv : spec I B sp fr to v) : ∀ (f : Nat) (m : Nat) (X : MI) (x6 x7 : Option Value) (_ : m + f = 721) (_ : ∀ m1, m1 < m → ¬ Rr I B sp fr m1 to) (_ : CI I B (QU I b B sp fr m 0) X), Wq MX0_fewestMinutes 19 [some (.ref 85), some (.ref b), some (.int (nI fr)), some (.int (nI to)), some (.int (nI sp)), some (.int (nI m)), x6, x7] [] X r J (Rk v I r J) := by
  have h8 : yn ≤ 8 := h.1.2.2.1
  have hw16 : wn ≤ 16 := h.2.1.2.1
  intro f
  induction f with
  | zero =>
    intro m X x6 x7 hmk hno hX
    refine x_iload (q := 21) dX0_fewestMinutes_19 rfl rfl ?_
    refine x_sipush (720) (q := 24) dX0_fewestMinutes_21 rfl (by decide) ?_
    refine x_icmp_gt (t := 160) (q := 27) dX0_fewestMinutes_24 (by decide) rfl (fun c24 => ?_) (fun c24 => absurd c24 (fun q => q ((nI_ltI (a := 720) (by omega) (by omega)).mpr (by omega))))
    refine x_iconst (-1) (q := 161) dX0_fewestMinutes_160 rfl (by decide) ?_
    refine q_iret dX0_fewestMinutes_161 rfl ?_
    rw [hv.2 (fun m1 g1 => hno m1 (by omega))]
    exact ⟨rfl, hX.1, rfl, rfl⟩
  | succ f ih =>
    intro m X x6 x7 hmk hno hX
    refine x_iload (q := 21) dX0_fewestMinutes_19 rfl rfl ?_
    refine x_sipush (720) (q := 24) dX0_fewestMinutes_21 rfl (by decide) ?_
    refine x_icmp_gt (t := 160) (q := 27) dX0_fewestMinutes_24 (by decide) rfl (fun c24 => absurd c24 (fun q => absurd ((nI_ltI (a := 720) (by omega) (by omega)).mp q) (by omega))) (fun c24 => ?_)
    refine x_aload_n (q := 28) dX0_fewestMinutes_27 rfl rfl ?_
    refine q_gr (K := 1) (b := 87) (q := 31) dX0_fewestMinutes_28 rfl cl_0 (by decide) tw_519 rfl rfl rfl ?_
    refine x_iload (q := 33) dX0_fewestMinutes_31 rfl rfl ?_
    refine q_iald (q := 34) dX0_fewestMinutes_33 rfl rfl (vp_in_nI (by omega) (by decide)) ?_
    refine x_iload_n (q := 35) dX0_fewestMinutes_34 rfl rfl ?_
    refine x_ishr (q := 36) dX0_fewestMinutes_35 rfl ?_
    refine x_iconst (1) (q := 37) dX0_fewestMinutes_36 rfl (by decide) ?_
    refine x_iand (q := 38) dX0_fewestMinutes_37 rfl ?_
    refine x_if_eq (t := 44) (q := 41) dX0_fewestMinutes_38 (by decide) rfl (fun c38 => ?_) (fun c38 => ?_)
    · refine x_iconst (0) (q := 45) dX0_fewestMinutes_44 rfl (by decide) ?_
      refine x_istore (L2 := [some (.ref 85), some (.ref b), some (.int (nI fr)), some (.int (nI to)), some (.int (nI sp)), some (.int (nI m)), some (.int 0), x7]) (q := 47) dX0_fewestMinutes_45 rfl (by decide) rfl rfl ?_
      have nr : ¬ Rr I B sp fr m to := fun q => by
        rw [nI_clamp (by omega), bt_0 hX.2.2 (Nat.zero_le _) (by omega) hto] at c38
        exact c38 ⟨Ur_0.mpr q.1, q.2⟩
      refine l_opw J h hb28 hB hsp (m := m) (by omega) _ (fun Y y6 y7 hY => ?_) wn 0 X _ (by omega) hX
      obtain ⟨v31, ev31⟩ : ∃ y_ : Int32, y_ = (nI m) + 1 := ⟨_, rfl⟩
      refine x_iinc (v := v31) (L2 := [some (.ref 85), some (.ref b), some (.int (nI fr)), some (.int (nI to)), some (.int (nI sp)), some (.int v31), y6, y7]) (q := 157) dX0_fewestMinutes_154 rfl (by decide) rfl rfl (by rw [ev31]; rfl) rfl ?_
      refine x_goto (t := 19) dX0_fewestMinutes_157 (by decide) ?_
      rw [show v31 = nI (m + 1) by rw [ev31, nI_p1]]
      exact ih (m + 1) Y y6 y7 (by omega) (fun m1 g1 => if e : m1 = m then by rw [e]; exact nr else hno m1 (by omega)) hY
    · refine x_iload (q := 43) dX0_fewestMinutes_41 rfl rfl ?_
      refine q_iret dX0_fewestMinutes_43 rfl ?_
      rw [nI_clamp (by omega), bt_0 hX.2.2 (Nat.zero_le _) (by omega) hto, Classical.not_not] at c38
      rw [hv.1 m (by omega) ⟨Ur_0.mp c38.1, c38.2⟩ hno]
      exact ⟨rfl, hX.1, rfl, rfl⟩
theorem CI_0 {I X : MI} {B : Nat → Nat} (hk : Kp I X) (hb : ∀ s, s < 73 → X 86 s = nI (B s)) : CI I B (fun _ _ => False) (flI X 87 721 0) := by
  refine ⟨fun c j sc => ?_, fun s hs => ?_, fun m _ hm => ⟨0, by decide, ?_, fun y hy => ?_⟩⟩
  · rw [flI_o (fun e => sc (by unfold scr; omega))]; exact hk c j sc
  · rw [flI_o (by decide)]; exact hb s hs
  · rw [flI_i (by omega)]; rfl
  · rw [Nat.zero_testBit]; exact ⟨fun z => absurd z (by decide), fun z => z.elim⟩
set_option maxRecDepth 100000 in
theorem c_few {I : MI} {b yn wn hn sn st : Nat} {r : MR} (J : MJ) (h : RelL I b yn wn hn sn st) (hb28 : b ≤ 28) {B : Nat → Nat} (hB : ∀ s, B s < 256) {sp fr to : Nat} (hsp : sp ≤ 71) (hto : to < 8) {v : Int32} (hv : spec I B sp fr to v) (hfr : fr < 8) {X : MI} (hk : Kp I X) (hb : ∀ s, s < 73 → X 86 s = nI (B s)) : Cq yX0_fewestMinutes MX0_fewestMinutes [.ref 85, .ref b, .int (nI fr), .int (nI to), .int (nI sp)] X r J (Rk v I r J) := by
  have h8 : yn ≤ 8 := h.1.2.2.1
  have hw16 : wn ≤ 16 := h.2.1.2.1
  refine cq_of [some (.ref 85), some (.ref b), some (.int (nI fr)), some (.int (nI to)), some (.int (nI sp)), none, none, none] 3 (by decide +kernel) rfl rfl (Nat.le_of_ble_eq_true rfl) rfl ?_
  refine x_aload_n (q := 1) dX0_fewestMinutes_0 rfl rfl ?_
  refine q_gr (K := 1) (b := 87) (q := 4) dX0_fewestMinutes_1 rfl cl_0 (by decide) tw_519 rfl rfl rfl ?_
  refine x_iconst (0) (q := 5) dX0_fewestMinutes_4 rfl (by decide) ?_
  refine q_callS (As := [.ref 87, .int 0]) (rest := []) (q := 8) dX0_fewestMinutes_5 rfl okJ7_fill_53178 tw_980 (c_fill87 0 X r J) rfl rfl (Nat.le_of_ble_eq_true rfl) ⟨by decide, by decide⟩ ⟨rfl, rfl⟩ (fun rv_ I_ r_ J_ hv_ => ?_)
  obtain ⟨a1_, a2_, a3_, a4_⟩ := hv_
  rw [a1_, a2_, a3_, a4_]
  show Wq MX0_fewestMinutes 8 [some (.ref 85), some (.ref b), some (.int (nI fr)), some (.int (nI to)), some (.int (nI sp)), none, none, none] [] (flI X 87 721 0) r J _
  refine x_aload_n (q := 9) dX0_fewestMinutes_8 rfl rfl ?_
  refine x_iload_n (q := 10) dX0_fewestMinutes_9 rfl rfl ?_
  refine x_iconst (0) (q := 11) dX0_fewestMinutes_10 rfl (by decide) ?_
  refine x_iload (q := 13) dX0_fewestMinutes_11 rfl rfl ?_
  refine q_callV (ci := 0) (N := 2) (T := TX0) (As := [.int (nI fr), .int 0, .int (nI sp)]) (rest := []) (q := 16) dX0_fewestMinutes_13 rfl okX0_arrive tw_990 rfl rfl (c_arrive (m0 := 0) (Q' := QU I b B sp fr 0 0) (CI_0 hk hb) hB hfr (by omega) hsp (fun m1 y1 _ _ => by unfold QU; rw [Ur_0]; exact ⟨fun z => Or.inr ⟨z.1.1, z.1.2, by rw [← z.1.1, ← z.1.2]; exact z.2⟩, fun z => z.elim (fun w => w.elim) (fun w => ⟨⟨w.1, w.2.1⟩, by rw [w.1, w.2.1]; exact w.2.2⟩)⟩) r J) rfl rfl (Nat.le_of_ble_eq_true rfl) ⟨by decide, by decide⟩ ⟨rfl, rfl⟩ (fun rv_ Y r_ J_ hv_ => ?_)
  obtain ⟨a1_, hY, a3_, a4_⟩ := hv_
  rw [a1_, a3_, a4_]
  show Wq MX0_fewestMinutes 16 [some (.ref 85), some (.ref b), some (.int (nI fr)), some (.int (nI to)), some (.int (nI sp)), none, none, none] [] Y r J _
  refine x_iconst (0) (q := 17) dX0_fewestMinutes_16 rfl (by decide) ?_
  refine x_istore (L2 := [some (.ref 85), some (.ref b), some (.int (nI fr)), some (.int (nI to)), some (.int (nI sp)), some (.int 0), none, none]) (q := 19) dX0_fewestMinutes_17 rfl (by decide) rfl rfl ?_
  exact l_opm J h hb28 hB hsp hto hv 721 0 Y _ _ rfl (fun m1 g1 => absurd g1 (by omega)) hY
