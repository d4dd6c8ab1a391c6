/-! the relation of the class's cells and the model's -/
def Ib (x : Int32) (lo hi : Int) : Prop := lo ≤ x.toInt ∧ x.toInt ≤ hi
/-- ways, slips, costs, depot of the class's land -/
def LOk2 (I : MI) (b yn wn sn : Nat) : Prop := I b 5 = nI wn ∧ wn ≤ 16 ∧ I b 12 = nI sn ∧ sn ≤ 7 ∧ (∀ s, s < sn → Ib (I (b + 8) s) (-50) 50 ∧ Ib (I (b + 9) s) 1 99) ∧ (∀ i, i < wn → ∃ f t k : Nat, I (b + 2) i = nI f ∧ I (b + 3) i = nI t ∧ I (b + 4) i = nI k ∧ f < yn ∧ t < yn ∧ ¬ f = t ∧ 1 ≤ k ∧ k ≤ 60) ∧ Ib (I b 13) 0 9999 ∧ Ib (I b 14) 0 9999 ∧ (I b 15 = -1 ∨ ∃ d : Nat, d < yn ∧ I b 15 = nI d)
def wayIs (I : MI) (b i a c : Nat) : Prop := (I (b + 2) i = nI a ∧ I (b + 3) i = nI c) ∨ (I (b + 2) i = nI c ∧ I (b + 3) i = nI a)
/-- the same of the model's -/
def RLe (I : MI) (b yn wn sn : Nat) : Prop := I 100 42 = nI wn ∧ I 100 44 = nI sn ∧ I 100 45 = I b 13 ∧ I 100 46 = I b 14 ∧ I 100 47 = I b 15 ∧ (∀ s, s < sn → I 123 s = I (b + 8) s ∧ I 124 s = I (b + 9) s) ∧ (∀ i, i < wn → ∀ a c, a < 8 → c < 8 → wayIs I b i a c → I 119 (8 * a + c) = I (b + 4) i) ∧ ∀ a c, a < 8 → c < 8 → ¬ I 119 (8 * a + c) = 0 → ∃ i, i < wn ∧ wayIs I b i a c
/-- the day -/
def RDay (I : MI) (b yn st : Nat) : Prop := I 58 2 = nI st ∧ I 100 55 = nI st ∧ st ≤ 720 ∧ I 100 56 = I 58 3 ∧ ShOk (I 58 3) ∧ I 100 57 = I 58 4 ∧ Ib (I 58 4) 0 9999 ∧ ∀ y, y < yn → GE (laN I b y) (gGet I (60 + 2 * y)) (yGet I y) ∧ GB (laN I b y) st (gGet I (60 + 2 * y)) ∧ (gGet I (60 + 2 * y) 8).toInt + (I 58 4).toInt ≤ 9999
def byteIs (x m : Int32) : Prop := ∃ c : Nat, c < 256 ∧ m = nI c ∧ x = (nI c).toInt8.toInt32
def RTape (I : MI) : Prop := ∃ tl : Nat, tl ≤ 1700 ∧ I 0 1 = nI tl ∧ I 100 1 = nI tl ∧ ∀ j, j < tl → byteIs (I 1 j) (I 101 j)
def RFault (I : MI) : Prop := I 100 2 = I 54 2 ∧ I 100 3 = I 54 3
def RTime (I : MI) : Prop := I 100 73 = I 0 11 ∧ Ib (I 0 11) 0 100000
/-- how warm a layer is behind a step from the beginning, nobody having spread salt -/
def begG (I : MI) (b y : Nat) : GT := fun j => if j < 5 then I (b + 11 + 2 * y) j else 0
def warmAt (I : MI) (b y hn : Nat) (sh : Int32) (s j : Nat) : Int32 := trajY I b y hn sh 0 s (begG I b y) j
def fitB (I : MI) (b hn : Nat) (y l s : Nat) (wm sm : Int32) (k : Nat) : Bool := decide ((if 0 ≤ warmAt I b y hn (I (b + 8) k) s l - wm then warmAt I b y hn (I (b + 8) k) s l - wm else 0 - (warmAt I b y hn (I (b + 8) k) s l - wm)) ≤ sm)
def bitsN (p : Nat → Bool) : Nat → Nat
  | 0 => 0
  | k + 1 => bitsN p k + (if p k then 2 ^ k else 0)
def RGlass (I : MI) (b yn hn sn : Nat) : Prop := ∃ gn : Nat, gn ≤ 30 ∧ I 88 3 = nI gn ∧ I 100 72 = nI gn ∧ ∀ g, g < gn → I 139 g = I 89 g ∧ I 140 g = I 90 g ∧ (I 90 g = -1 ∨ 0 ≤ (I 90 g).toInt) ∧ ∃ y l s : Nat, y < yn ∧ l < laN I b y ∧ s ≤ 72 ∧ I 134 g = nI y ∧ I 135 g = nI l ∧ I 136 g = nI s ∧ Ib (I 137 g) (-999) 999 ∧ Ib (I 138 g) 0 99 ∧ I 91 g = nI (bitsN (fitB I b hn y l s (I 137 g) (I 138 g)) sn)
/-- a box: what was kept in it -/
def bxX (I : MI) (k y : Nat) : GT := fun j => I (96 + k) (9 * y + j)
def bxM (I : MI) (k y : Nat) : GT := fun j => if j < 5 then I 143 (40 * k + (5 * y + j)) else I 144 (32 * k + (4 * y + (j - 5)))
def RBox (I : MI) (b yn : Nat) : Prop := ∀ k, k < 3 → I 142 k = I 99 k ∧ (I 99 k = 0 ∨ I 99 k = 1) ∧ (I 99 k = 1 → ∃ st : Nat, st ≤ 720 ∧ I (96 + k) 72 = nI st ∧ I 145 (3 * k) = nI st ∧ I 145 (3 * k + 1) = I (96 + k) 73 ∧ ShOk (I (96 + k) 73) ∧ I 145 (3 * k + 2) = I (96 + k) 74 ∧ Ib (I (96 + k) 74) 0 9999 ∧ ∀ y, y < yn → GE (laN I b y) (bxX I k y) (bxM I k y) ∧ GB (laN I b y) st (bxX I k y) ∧ (bxX I k y 8).toInt + (I (96 + k) 74).toInt ≤ 9999)
def ROrd (I : MI) : Prop := ∃ c : Nat, c ≤ 7 ∧ I 80 4 = nI c ∧ I 100 61 = nI c ∧ ∀ i, i < c → I 130 i = I 84 i
def KWc : List Int64 := [820804, 23609, 278194, 635184, 99724, 263757, 4375028, 20594245]
def RefOk (r : MR) (b : Nat) : Prop := r 0 = b ∧ r 3 = b ∧ ((b = 2 ∧ r 1 = 28) ∨ (b = 28 ∧ r 1 = 2))
/-- the parts that speak of the land -/
def RelL (I : MI) (b yn wn hn sn st : Nat) : Prop := LOk I b yn hn ∧ LOk2 I b yn wn sn ∧ RLd I b yn hn ∧ RLe I b yn wn sn ∧ RDay I b yn st ∧ RGlass I b yn hn sn ∧ RBox I b yn
def RelR (I : MI) : Prop := RTape I ∧ RFault I ∧ RTime I ∧ ROrd I
/-- congruence: the land's cells, the model's, and what speaks of them -/
def regL (b c : Nat) : Prop := b ≤ c ∧ c < b + 26
theorem laN_c {I I' : MI} {b y : Nat} (h : ∀ c, regL b c → I' c = I c) (hy : y < 8) : laN I' b y = laN I b y := by
  unfold laN
  rw [h (b + 10 + 2 * y) ⟨by omega, by omega⟩]
theorem LOk_c {I I' : MI} {b yn hn : Nat} (h : ∀ c, regL b c → I' c = I c) (hl : LOk I b yn hn) : LOk I' b yn hn := by
  obtain ⟨hb, e1, h8, e9, h12, hys, hh⟩ := hl
  have hb0 : I' b = I b := h b ⟨by omega, by omega⟩
  have k5 : I' (b + 5) = I (b + 5) := h _ ⟨by omega, by omega⟩
  have k6 : I' (b + 6) = I (b + 6) := h _ ⟨by omega, by omega⟩
  have k7 : I' (b + 7) = I (b + 7) := h _ ⟨by omega, by omega⟩
  refine ⟨hb, by rw [hb0]; exact e1, h8, by rw [hb0]; exact e9, h12, fun y hy => ?_, ?_⟩
  · have q1 : I' (b + 10 + 2 * y) = I (b + 10 + 2 * y) := h _ ⟨by omega, by omega⟩
    have q2 : I' (b + 11 + 2 * y) = I (b + 11 + 2 * y) := h _ ⟨by omega, by omega⟩
    have := hys y hy
    unfold yOk at this ⊢
    rw [q1, q2]
    exact this
  · unfold hOk at hh ⊢
    rw [k5, k6, k7]
    exact hh
theorem LOk2_c {I I' : MI} {b yn wn sn : Nat} (h : ∀ c, regL b c → I' c = I c) (hl : LOk2 I b yn wn sn) : LOk2 I' b yn wn sn := by
  unfold LOk2 at hl ⊢
  rw [h b ⟨by omega, by omega⟩, h (b + 2) ⟨by omega, by omega⟩, h (b + 3) ⟨by omega, by omega⟩, h (b + 4) ⟨by omega, by omega⟩, h (b + 8) ⟨by omega, by omega⟩, h (b + 9) ⟨by omega, by omega⟩]
  exact hl
def regM (c : Nat) : Prop := 114 ≤ c ∧ c ≤ 124
theorem RLd_c {I I' : MI} {b yn hn : Nat} (h : ∀ c, regL b c → I' c = I c) (hm : ∀ c, regM c → I' c = I c) (h41 : I' 100 41 = I 100 41) (h43 : I' 100 43 = I 100 43) (h8 : yn ≤ 8) (hl : RLd I b yn hn) : RLd I' b yn hn := by
  obtain ⟨e1, e2, e3, e4⟩ := hl
  refine ⟨by rw [h41]; exact e1, by rw [h43]; exact e2, fun y hy => ?_, fun k hk => ?_⟩
  · rw [hm 114 ⟨by decide, by decide⟩, hm 115 ⟨by decide, by decide⟩, hm 116 ⟨by decide, by decide⟩, hm 117 ⟨by decide, by decide⟩, hm 118 ⟨by decide, by decide⟩, h (b + 10 + 2 * y) ⟨by omega, by omega⟩, h (b + 11 + 2 * y) ⟨by omega, by omega⟩, laN_c h (by omega)]
    exact e3 y hy
  · rw [hm 120 ⟨by decide, by decide⟩, hm 121 ⟨by decide, by decide⟩, hm 122 ⟨by decide, by decide⟩, h (b + 5) ⟨by omega, by omega⟩, h (b + 6) ⟨by omega, by omega⟩, h (b + 7) ⟨by omega, by omega⟩]
    exact e4 k hk
theorem RLe_c {I I' : MI} {b yn wn sn : Nat} (h : ∀ c, regL b c → I' c = I c) (hm : ∀ c, regM c → I' c = I c) (h100 : ∀ j, 42 ≤ j → j ≤ 47 → I' 100 j = I 100 j) (hl : RLe I b yn wn sn) : RLe I' b yn wn sn := by
  unfold RLe wayIs at hl ⊢
  rw [h100 42 (by decide) (by decide), h100 44 (by decide) (by decide), h100 45 (by decide) (by decide), h100 46 (by decide) (by decide), h100 47 (by decide) (by decide), hm 119 ⟨by decide, by decide⟩, hm 123 ⟨by decide, by decide⟩, hm 124 ⟨by decide, by decide⟩, h b ⟨by omega, by omega⟩, h (b + 2) ⟨by omega, by omega⟩, h (b + 3) ⟨by omega, by omega⟩, h (b + 4) ⟨by omega, by omega⟩, h (b + 8) ⟨by omega, by omega⟩, h (b + 9) ⟨by omega, by omega⟩]
  exact hl
theorem RDay_c {I I' : MI} {b yn st : Nat} (h : ∀ c, regL b c → I' c = I c) (hg : ∀ c, 60 ≤ c → c < 76 → I' c = I c) (h58 : I' 58 = I 58) (h126 : I' 126 = I 126) (h127 : I' 127 = I 127) (h100 : ∀ j, 55 ≤ j → j ≤ 57 → I' 100 j = I 100 j) (h8 : yn ≤ 8) (hl : RDay I b yn st) : RDay I' b yn st := by
  obtain ⟨e1, e2, e3, e4, e5, e6, e7, e8⟩ := hl
  refine ⟨by rw [h58]; exact e1, by rw [h100 55 (by decide) (by decide)]; exact e2, e3, by rw [h58, h100 56 (by decide) (by decide)]; exact e4, by rw [h58]; exact e5, by rw [h58, h100 57 (by decide) (by decide)]; exact e6, by rw [h58]; exact e7, fun y hy => ?_⟩
  have q1 : gGet I' (60 + 2 * y) = gGet I (60 + 2 * y) := by
    unfold gGet
    rw [hg (60 + 2 * y) (by omega) (by omega), hg (60 + 2 * y + 1) (by omega) (by omega)]
  have q2 : yGet I' y = yGet I y := by
    unfold yGet
    rw [h126, h127]
  rw [q1, q2, laN_c h (by omega), h58]
  exact e8 y hy
theorem stepY_c {I I' : MI} {b y hn : Nat} (h : ∀ c, regL b c → I' c = I c) (hy : y < 8) : stepY I' b y hn = stepY I b y hn := by
  funext sh s G
  unfold stepY soN laN
  rw [h (b + 10 + 2 * y) ⟨by omega, by omega⟩, h (b + 5) ⟨by omega, by omega⟩, h (b + 6) ⟨by omega, by omega⟩, h (b + 7) ⟨by omega, by omega⟩]
theorem trajY_c {I I' : MI} {b y hn : Nat} (h : ∀ c, regL b c → I' c = I c) (hy : y < 8) (sh : Int32) (s : Nat) (G : GT) : ∀ k, trajY I' b y hn sh s k G = trajY I b y hn sh s k G := by
  intro k
  induction k with
  | zero => rfl
  | succ k ih =>
    unfold trajY
    rw [ih, stepY_c h hy]
theorem RGlass_c {I I' : MI} {b yn hn sn : Nat} (h : ∀ c, regL b c → I' c = I c) (hg : ∀ c, 89 ≤ c → c ≤ 91 → I' c = I c) (hm : ∀ c, 134 ≤ c → c ≤ 140 → I' c = I c) (h88 : I' 88 3 = I 88 3) (h72 : I' 100 72 = I 100 72) (h8 : yn ≤ 8) (hl : RGlass I b yn hn sn) : RGlass I' b yn hn sn := by
  obtain ⟨gn, e1, e2, e3, e4⟩ := hl
  refine ⟨gn, e1, by rw [h88]; exact e2, by rw [h72]; exact e3, fun g hgn => ?_⟩
  obtain ⟨k1, k2, k3, y, l, s, p1, p2, p3, p4, p5, p6, p7, p8, p9⟩ := e4 g hgn
  rw [hg 89 (by decide) (by decide), hg 90 (by decide) (by decide), hg 91 (by decide) (by decide), hm 134 (by decide) (by decide), hm 135 (by decide) (by decide), hm 136 (by decide) (by decide), hm 137 (by decide) (by decide), hm 138 (by decide) (by decide), hm 139 (by decide) (by decide), hm 140 (by decide) (by decide)]
  refine ⟨k1, k2, k3, y, l, s, p1, by rw [laN_c h (by omega)]; exact p2, p3, p4, p5, p6, p7, p8, ?_⟩
  have e : fitB I' b hn y l s (I 137 g) (I 138 g) = fitB I b hn y l s (I 137 g) (I 138 g) := by
    funext k
    unfold fitB warmAt begG
    rw [h (b + 8) ⟨by omega, by omega⟩, h (b + 11 + 2 * y) ⟨by omega, by omega⟩, trajY_c h (by omega)]
  rw [e]
  exact p9
theorem RBox_c {I I' : MI} {b yn : Nat} (h : ∀ c, regL b c → I' c = I c) (hx : ∀ c, 96 ≤ c → c ≤ 99 → I' c = I c) (hm : ∀ c, 142 ≤ c → c ≤ 145 → I' c = I c) (h8 : yn ≤ 8) (hl : RBox I b yn) : RBox I' b yn := by
  intro k hk
  have e := hl k hk
  have q1 : ∀ y, bxX I' k y = bxX I k y := fun y => by unfold bxX; rw [hx (96 + k) (by omega) (by omega)]
  have q2 : ∀ y, bxM I' k y = bxM I k y := fun y => by unfold bxM; rw [hm 143 (by decide) (by decide), hm 144 (by decide) (by decide)]
  rw [hx 99 (by decide) (by decide), hm 142 (by decide) (by decide), hm 145 (by decide) (by decide), hx (96 + k) (by omega) (by omega)]
  refine ⟨e.1, e.2.1, fun h1 => ?_⟩
  obtain ⟨st, f1, f2, f3, f4, f5, f6, f7, f8⟩ := e.2.2 h1
  refine ⟨st, f1, f2, f3, f4, f5, f6, f7, fun y hy => ?_⟩
  rw [q1, q2, laN_c h (by omega)]
  exact f8 y hy
/-- the whole, where what it speaks of stays -/
theorem RelL_c {I I' : MI} {b yn wn hn sn st : Nat} (hc : ∀ c, c < 146 → ¬ c = 100 → (regL b c ∨ regM c ∨ c = 58 ∨ (60 ≤ c ∧ c < 76) ∨ c = 126 ∨ c = 127 ∨ (89 ≤ c ∧ c ≤ 91) ∨ (134 ≤ c ∧ c ≤ 140) ∨ (96 ≤ c ∧ c ≤ 99) ∨ (142 ≤ c ∧ c ≤ 145)) → I' c = I c) (h88 : I' 88 3 = I 88 3) (h100 : ∀ j, (41 ≤ j ∧ j ≤ 47) ∨ (55 ≤ j ∧ j ≤ 57) ∨ j = 72 → I' 100 j = I 100 j) (hb : b ≤ 28) (hl : RelL I b yn wn hn sn st) : RelL I' b yn wn hn sn st := by
  obtain ⟨l1, l2, l3, l4, l5, l6, l7⟩ := hl
  have h8 := l1.2.2.1
  have cc : ∀ c, c < 146 → ¬ c = 100 → (regL b c ∨ regM c ∨ c = 58 ∨ (60 ≤ c ∧ c < 76) ∨ c = 126 ∨ c = 127 ∨ (89 ≤ c ∧ c ≤ 91) ∨ (134 ≤ c ∧ c ≤ 140) ∨ (96 ≤ c ∧ c ≤ 99) ∨ (142 ≤ c ∧ c ≤ 145)) → I' c = I c := hc
  have hL : ∀ c, regL b c → I' c = I c := fun c q => cc c (by have := q.2; omega) (by have := q.2; omega) (Or.inl q)
  have hM : ∀ c, regM c → I' c = I c := fun c q => cc c (by have := q.2; omega) (by have := q.1; omega) (Or.inr (Or.inl q))
  refine ⟨LOk_c hL l1, LOk2_c hL l2, RLd_c hL hM (h100 41 (by omega)) (h100 43 (by omega)) h8 l3, RLe_c hL hM (fun j q1 q2 => h100 j (by omega)) l4, RDay_c hL (fun c q1 q2 => cc c (by omega) (by omega) (by omega)) (cc 58 (by decide) (by decide) (by omega)) (cc 126 (by decide) (by decide) (by omega)) (cc 127 (by decide) (by decide) (by omega)) (fun j q1 q2 => h100 j (by omega)) h8 l5, RGlass_c hL (fun c q1 q2 => cc c (by omega) (by omega) (by omega)) (fun c q1 q2 => cc c (by omega) (by omega) (by omega)) h88 (h100 72 (by omega)) h8 l6, RBox_c hL (fun c q1 q2 => cc c (by omega) (by omega) (by omega)) (fun c q1 q2 => cc c (by omega) (by omega) (by omega)) h8 l7⟩
