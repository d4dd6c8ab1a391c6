def flI (I : MI) (a n : Nat) (x : Int32) : MI := fun c j => if c = a ∧ j < n then x else I c j
theorem flI_0 {I : MI} {a : Nat} {x : Int32} : flI I a 0 x = I := by
  funext c j
  exact if_neg (fun q => by omega)
theorem flI_s {I : MI} {a n : Nat} {x : Int32} : upI (flI I a n x) a n x = flI I a (n + 1) x := by
  funext c j
  unfold upI flI
  by_cases e : c = a ∧ j = n
  · rw [if_pos e, if_pos ⟨e.1, by omega⟩]
  · rw [if_neg e]
    by_cases q : c = a ∧ j < n
    · rw [if_pos q, if_pos ⟨q.1, by omega⟩]
    · rw [if_neg q, if_neg (fun z => q ⟨z.1, by have : ¬ j = n := fun w => e ⟨z.1, w⟩; omega⟩)]
theorem flI_o {I : MI} {a n c : Nat} {x : Int32} (h : c ≠ a) : flI I a n x c = I c := by
  funext j
  exact if_neg (fun q => h q.1)
theorem flI_i {I : MI} {a n j : Nat} {x : Int32} (h : j < n) : flI I a n x a j = x := if_pos ⟨rfl, h⟩
set_option maxRecDepth 100000 in
theorem l_fill86 (x : Int32) (I : MI) (r : MR) (J : MJ) : ∀ (f : Nat) (i : Nat) (_ : i + f = 73), Wq MJ7_fill_53178 5 [some (.ref 86), some (.int x), some (.int (nI i)), some (.int 73)] [] (flI I 86 i (x)) r J (Rt none (flI I 86 73 (x)) r J) := by
  intro f
  induction f with
  | zero =>
    intro i hik
    refine x_iload_n (q := 6) dJ7_fill_53178_5 rfl rfl ?_
    refine x_iload_n (q := 7) dJ7_fill_53178_6 rfl rfl ?_
    refine x_icmp_ge (t := 20) (q := 10) dJ7_fill_53178_7 (by decide) rfl (fun c7 => ?_) (fun c7 => absurd c7 (fun q => q (nI_le (a := 73) (b := i) (by omega) (by omega))))
    refine q_vret dJ7_fill_53178_20 rfl ?_
    rw [show i = 73 by omega]
    exact ⟨rfl, rfl, rfl, rfl⟩
  | succ f ih =>
    intro i hik
    refine x_iload_n (q := 6) dJ7_fill_53178_5 rfl rfl ?_
    refine x_iload_n (q := 7) dJ7_fill_53178_6 rfl rfl ?_
    refine x_icmp_ge (t := 20) (q := 10) dJ7_fill_53178_7 (by decide) rfl (fun c7 => absurd c7 (nI_ge (b := 73) (by omega) (by decide))) (fun c7 => ?_)
    refine x_aload_n (q := 11) dJ7_fill_53178_10 rfl rfl ?_
    refine x_iload_n (q := 12) dJ7_fill_53178_11 rfl rfl ?_
    refine x_iload_n (q := 13) dJ7_fill_53178_12 rfl rfl ?_
    refine q_iast (q := 14) dJ7_fill_53178_13 rfl rfl (vp_in_nI (by omega) (by decide)) (fun I1 eI1 => ?_)
    obtain ⟨v2, ev2⟩ : ∃ y_ : Int32, y_ = (nI i) + 1 := ⟨_, rfl⟩
    refine x_iinc (v := v2) (L2 := [some (.ref 86), some (.int x), some (.int v2), some (.int 73)]) (q := 17) dJ7_fill_53178_14 rfl (by decide) rfl rfl (by rw [ev2]; rfl) rfl ?_
    refine x_goto (t := 5) dJ7_fill_53178_17 (by decide) ?_
    rw [nI_clamp (by omega), flI_s] at eI1
    rw [eI1, show v2 = nI (i + 1) by rw [ev2, nI_p1]]
    exact ih (i + 1) (by omega)
set_option maxRecDepth 100000 in
theorem c_fill86 (x : Int32) (I : MI) (r : MR) (J : MJ) : Cq yJ7_fill_53178 MJ7_fill_53178 [.ref 86, .int x] I r J (Rt none (flI I 86 73 (x)) r J) := by
  refine cq_of [some (.ref 86), some (.int x), none, none] 2 (by decide +kernel) rfl rfl (Nat.le_of_ble_eq_true rfl) rfl ?_
  refine x_iconst (0) (q := 1) dJ7_fill_53178_0 rfl (by decide) ?_
  refine x_istore_n (L2 := [some (.ref 86), some (.int x), some (.int 0), none]) (q := 2) dJ7_fill_53178_1 rfl (by decide) rfl rfl ?_
  refine x_aload_n (q := 3) dJ7_fill_53178_2 rfl rfl ?_
  refine q_aleni (v := 73) (q := 4) dJ7_fill_53178_3 rfl rfl (by decide) ?_
  refine x_istore_n (L2 := [some (.ref 86), some (.int x), some (.int 0), some (.int 73)]) (q := 5) dJ7_fill_53178_4 rfl (by decide) rfl rfl ?_
  have q := l_fill86 x I r J 73 0 rfl
  rw [flI_0] at q
  exact q
set_option maxRecDepth 100000 in
theorem l_fill87 (x : Int32) (I : MI) (r : MR) (J : MJ) : ∀ (f : Nat) (i : Nat) (_ : i + f = 721), Wq MJ7_fill_53178 5 [some (.ref 87), some (.int x), some (.int (nI i)), some (.int 721)] [] (flI I 87 i (x)) r J (Rt none (flI I 87 721 (x)) r J) := by
  intro f
  induction f with
  | zero =>
    intro i hik
    refine x_iload_n (q := 6) dJ7_fill_53178_5 rfl rfl ?_
    refine x_iload_n (q := 7) dJ7_fill_53178_6 rfl rfl ?_
    refine x_icmp_ge (t := 20) (q := 10) dJ7_fill_53178_7 (by decide) rfl (fun c7 => ?_) (fun c7 => absurd c7 (fun q => q (nI_le (a := 721) (b := i) (by omega) (by omega))))
    refine q_vret dJ7_fill_53178_20 rfl ?_
    rw [show i = 721 by omega]
    exact ⟨rfl, rfl, rfl, rfl⟩
  | succ f ih =>
    intro i hik
    refine x_iload_n (q := 6) dJ7_fill_53178_5 rfl rfl ?_
    refine x_iload_n (q := 7) dJ7_fill_53178_6 rfl rfl ?_
    refine x_icmp_ge (t := 20) (q := 10) dJ7_fill_53178_7 (by decide) rfl (fun c7 => absurd c7 (nI_ge (b := 721) (by omega) (by decide))) (fun c7 => ?_)
    refine x_aload_n (q := 11) dJ7_fill_53178_10 rfl rfl ?_
    refine x_iload_n (q := 12) dJ7_fill_53178_11 rfl rfl ?_
    refine x_iload_n (q := 13) dJ7_fill_53178_12 rfl rfl ?_
    refine q_iast (q := 14) dJ7_fill_53178_13 rfl rfl (vp_in_nI (by omega) (by decide)) (fun I1 eI1 => ?_)
    obtain ⟨v2, ev2⟩ : ∃ y_ : Int32, y_ = (nI i) + 1 := ⟨_, rfl⟩
    refine x_iinc (v := v2) (L2 := [some (.ref 87), some (.int x), some (.int v2), some (.int 721)]) (q := 17) dJ7_fill_53178_14 rfl (by decide) rfl rfl (by rw [ev2]; rfl) rfl ?_
    refine x_goto (t := 5) dJ7_fill_53178_17 (by decide) ?_
    rw [nI_clamp (by omega), flI_s] at eI1
    rw [eI1, show v2 = nI (i + 1) by rw [ev2, nI_p1]]
    exact ih (i + 1) (by omega)
set_option maxRecDepth 100000 in
theorem c_fill87 (x : Int32) (I : MI) (r : MR) (J : MJ) : Cq yJ7_fill_53178 MJ7_fill_53178 [.ref 87, .int x] I r J (Rt none (flI I 87 721 (x)) r J) := by
  refine cq_of [some (.ref 87), some (.int x), none, none] 2 (by decide +kernel) rfl rfl (Nat.le_of_ble_eq_true rfl) rfl ?_
  refine x_iconst (0) (q := 1) dJ7_fill_53178_0 rfl (by decide) ?_
  refine x_istore_n (L2 := [some (.ref 87), some (.int x), some (.int 0), none]) (q := 2) dJ7_fill_53178_1 rfl (by decide) rfl rfl ?_
  refine x_aload_n (q := 3) dJ7_fill_53178_2 rfl rfl ?_
  refine q_aleni (v := 721) (q := 4) dJ7_fill_53178_3 rfl rfl (by decide) ?_
  refine x_istore_n (L2 := [some (.ref 87), some (.int x), some (.int 0), some (.int 721)]) (q := 5) dJ7_fill_53178_4 rfl (by decide) rfl rfl ?_
  have q := l_fill87 x I r J 721 0 rfl
  rw [flI_0] at q
  exact q
set_option maxRecDepth 100000 in
theorem l_fill81 (x : Int32) (I : MI) (r : MR) (J : MJ) : ∀ (f : Nat) (i : Nat) (_ : i + f = 64), Wq MJ7_fill_53178 5 [some (.ref 81), some (.int x), some (.int (nI i)), some (.int 64)] [] (flI I 81 i (x)) r J (Rt none (flI I 81 64 (x)) r J) := by
  intro f
  induction f with
  | zero =>
    intro i hik
    refine x_iload_n (q := 6) dJ7_fill_53178_5 rfl rfl ?_
    refine x_iload_n (q := 7) dJ7_fill_53178_6 rfl rfl ?_
    refine x_icmp_ge (t := 20) (q := 10) dJ7_fill_53178_7 (by decide) rfl (fun c7 => ?_) (fun c7 => absurd c7 (fun q => q (nI_le (a := 64) (b := i) (by omega) (by omega))))
    refine q_vret dJ7_fill_53178_20 rfl ?_
    rw [show i = 64 by omega]
    exact ⟨rfl, rfl, rfl, rfl⟩
  | succ f ih =>
    intro i hik
    refine x_iload_n (q := 6) dJ7_fill_53178_5 rfl rfl ?_
    refine x_iload_n (q := 7) dJ7_fill_53178_6 rfl rfl ?_
    refine x_icmp_ge (t := 20) (q := 10) dJ7_fill_53178_7 (by decide) rfl (fun c7 => absurd c7 (nI_ge (b := 64) (by omega) (by decide))) (fun c7 => ?_)
    refine x_aload_n (q := 11) dJ7_fill_53178_10 rfl rfl ?_
    refine x_iload_n (q := 12) dJ7_fill_53178_11 rfl rfl ?_
    refine x_iload_n (q := 13) dJ7_fill_53178_12 rfl rfl ?_
    refine q_iast (q := 14) dJ7_fill_53178_13 rfl rfl (vp_in_nI (by omega) (by decide)) (fun I1 eI1 => ?_)
    obtain ⟨v2, ev2⟩ : ∃ y_ : Int32, y_ = (nI i) + 1 := ⟨_, rfl⟩
    refine x_iinc (v := v2) (L2 := [some (.ref 81), some (.int x), some (.int v2), some (.int 64)]) (q := 17) dJ7_fill_53178_14 rfl (by decide) rfl rfl (by rw [ev2]; rfl) rfl ?_
    refine x_goto (t := 5) dJ7_fill_53178_17 (by decide) ?_
    rw [nI_clamp (by omega), flI_s] at eI1
    rw [eI1, show v2 = nI (i + 1) by rw [ev2, nI_p1]]
    exact ih (i + 1) (by omega)
set_option maxRecDepth 100000 in
theorem c_fill81 (x : Int32) (I : MI) (r : MR) (J : MJ) : Cq yJ7_fill_53178 MJ7_fill_53178 [.ref 81, .int x] I r J (Rt none (flI I 81 64 (x)) r J) := by
  refine cq_of [some (.ref 81), some (.int x), none, none] 2 (by decide +kernel) rfl rfl (Nat.le_of_ble_eq_true rfl) rfl ?_
  refine x_iconst (0) (q := 1) dJ7_fill_53178_0 rfl (by decide) ?_
  refine x_istore_n (L2 := [some (.ref 81), some (.int x), some (.int 0), none]) (q := 2) dJ7_fill_53178_1 rfl (by decide) rfl rfl ?_
  refine x_aload_n (q := 3) dJ7_fill_53178_2 rfl rfl ?_
  refine q_aleni (v := 64) (q := 4) dJ7_fill_53178_3 rfl rfl (by decide) ?_
  refine x_istore_n (L2 := [some (.ref 81), some (.int x), some (.int 0), some (.int 64)]) (q := 5) dJ7_fill_53178_4 rfl (by decide) rfl rfl ?_
  have q := l_fill81 x I r J 64 0 rfl
  rw [flI_0] at q
  exact q
set_option maxRecDepth 100000 in
theorem l_fill82 (x : Int32) (I : MI) (r : MR) (J : MJ) : ∀ (f : Nat) (i : Nat) (_ : i + f = 576), Wq MJ7_fill_031fb 5 [some (.ref 82), some (.int x), some (.int (nI i)), some (.int 576)] [] (flI I 82 i (x.toInt8.toInt32)) r J (Rt none (flI I 82 576 (x.toInt8.toInt32)) r J) := by
  intro f
  induction f with
  | zero =>
    intro i hik
    refine x_iload_n (q := 6) dJ7_fill_031fb_5 rfl rfl ?_
    refine x_iload_n (q := 7) dJ7_fill_031fb_6 rfl rfl ?_
    refine x_icmp_ge (t := 20) (q := 10) dJ7_fill_031fb_7 (by decide) rfl (fun c7 => ?_) (fun c7 => absurd c7 (fun q => q (nI_le (a := 576) (b := i) (by omega) (by omega))))
    refine q_vret dJ7_fill_031fb_20 rfl ?_
    rw [show i = 576 by omega]
    exact ⟨rfl, rfl, rfl, rfl⟩
  | succ f ih =>
    intro i hik
    refine x_iload_n (q := 6) dJ7_fill_031fb_5 rfl rfl ?_
    refine x_iload_n (q := 7) dJ7_fill_031fb_6 rfl rfl ?_
    refine x_icmp_ge (t := 20) (q := 10) dJ7_fill_031fb_7 (by decide) rfl (fun c7 => absurd c7 (nI_ge (b := 576) (by omega) (by decide))) (fun c7 => ?_)
    refine x_aload_n (q := 11) dJ7_fill_031fb_10 rfl rfl ?_
    refine x_iload_n (q := 12) dJ7_fill_031fb_11 rfl rfl ?_
    refine x_iload_n (q := 13) dJ7_fill_031fb_12 rfl rfl ?_
    refine q_bast (q := 14) dJ7_fill_031fb_13 rfl rfl (vp_in_nI (by omega) (by decide)) (fun I1 eI1 => ?_)
    obtain ⟨v2, ev2⟩ : ∃ y_ : Int32, y_ = (nI i) + 1 := ⟨_, rfl⟩
    refine x_iinc (v := v2) (L2 := [some (.ref 82), some (.int x), some (.int v2), some (.int 576)]) (q := 17) dJ7_fill_031fb_14 rfl (by decide) rfl rfl (by rw [ev2]; rfl) rfl ?_
    refine x_goto (t := 5) dJ7_fill_031fb_17 (by decide) ?_
    rw [nI_clamp (by omega), flI_s] at eI1
    rw [eI1, show v2 = nI (i + 1) by rw [ev2, nI_p1]]
    exact ih (i + 1) (by omega)
set_option maxRecDepth 100000 in
theorem c_fill82 (x : Int32) (I : MI) (r : MR) (J : MJ) : Cq yJ7_fill_031fb MJ7_fill_031fb [.ref 82, .int x] I r J (Rt none (flI I 82 576 (x.toInt8.toInt32)) r J) := by
  refine cq_of [some (.ref 82), some (.int x), none, none] 2 (by decide +kernel) rfl rfl (Nat.le_of_ble_eq_true rfl) rfl ?_
  refine x_iconst (0) (q := 1) dJ7_fill_031fb_0 rfl (by decide) ?_
  refine x_istore_n (L2 := [some (.ref 82), some (.int x), some (.int 0), none]) (q := 2) dJ7_fill_031fb_1 rfl (by decide) rfl rfl ?_
  refine x_aload_n (q := 3) dJ7_fill_031fb_2 rfl rfl ?_
  refine q_alenb (v := 576) (q := 4) dJ7_fill_031fb_3 rfl rfl (by decide) ?_
  refine x_istore_n (L2 := [some (.ref 82), some (.int x), some (.int 0), some (.int 576)]) (q := 5) dJ7_fill_031fb_4 rfl (by decide) rfl rfl ?_
  have q := l_fill82 x I r J 576 0 rfl
  rw [flI_0] at q
  exact q
def blB (I : MI) (b hn st y s : Nat) : Bool := decide (blockedF (I (b + 10 + 2 * y) 2) (trajY I b y hn 0 st s (yGet I y) 6) (trajY I b y hn 0 st s (yGet I y) 7) = 1)
def bkN (I : MI) (b hn st n s : Nat) : Nat := bitsN (fun y => blB I b hn st y s) n
theorem sh0k : ShOk 0 := by unfold ShOk; decide
theorem bl_if {a x y : Int32} : blockedF a x y = if decide (blockedF a x y = 1) then 1 else 0 := by
  rcases bl_01 a x y with q | q
  · rw [q]; rfl
  · rw [q]; rfl
theorem bk_s1 {I : MI} {b hn st y s : Nat} (hy : y ≤ 8) (h : blB I b hn st y s = true) : nI (bkN I b hn st y s) ||| (1 : Int32) <<< (nI y &&& 31) = nI (bkN I b hn st (y + 1) s) := by
  rw [sh1 hy, nI_or]
  unfold bkN
  rw [bitsN_1 _ y (2 ^ y) (by rw [h]; rfl)]
theorem bk_s0 {I : MI} {b hn st y s : Nat} (h : blB I b hn st y s = false) : bkN I b hn st (y + 1) s = bkN I b hn st y s := by
  unfold bkN
  rw [bitsN_s, h]
  rfl
def mkP (I : MI) (b hn st y i : Nat) (X : MI) : Prop := Kp I X ∧ GE (laN I b y) (gGet X 77) (trajY I b y hn 0 st i (yGet I y)) ∧ (∀ s, s < i → X 86 s = nI (bkN I b hn st (y + 1) s)) ∧ ∀ s, i ≤ s → s < 73 → X 86 s = nI (bkN I b hn st y s)
def bkP (I : MI) (b hn st n : Nat) (X : MI) : Prop := Kp I X ∧ ∀ s, s < 73 → X 86 s = nI (bkN I b hn st n s)
set_option maxRecDepth 100000 in
theorem l_mkb {I : MI} {b yn wn hn sn st : Nat} {r : MR} (J : MJ) (hr : RefOk r b) (h : RelL I b yn wn hn sn st) {y : Nat} (hy : y < yn) : ∀ (f : Nat) (i : Nat) (X : MI) (_ : i + f = 73) (_ : mkP I b hn st y i X), Wq MX7_markBlocked 27 [some (.ref 76), some (.ref 58), some (.int (nI y)), some (.ref 86), some (.ref (b + 10 + 2 * y)), some (.int (nI i))] [] X r J (Rp none (bkP I b hn st (y + 1)) r J) := by
  have hb28 := (refs_L hr).2
  have h8 : yn ≤ 8 := h.1.2.2.1
  have hst := h.2.2.2.2.1.2.2.1
  have h5 := (la5 h.1 hy).2
  intro f
  induction f with
  | zero =>
    intro i X hik hX
    refine x_iload (q := 29) dX7_markBlocked_27 rfl rfl ?_
    refine x_bipush (72) (q := 31) dX7_markBlocked_29 rfl (by decide) ?_
    refine x_icmp_gt (t := 90) (q := 34) dX7_markBlocked_31 (by decide) rfl (fun c31 => ?_) (fun c31 => absurd c31 (fun q => q ((nI_ltI (a := 72) (by omega) (by omega)).mpr (by omega))))
    refine q_vret dX7_markBlocked_90 rfl ?_
    rw [show i = 73 by omega] at hX
    exact ⟨rfl, ⟨hX.1, fun s hs => hX.2.2.1 s hs⟩, rfl, rfl⟩
  | succ f ih =>
    intro i X hik hX
    obtain ⟨hK, hGE, hlo, hhi⟩ := hX
    have hRX := RelL_k hK hb28 h
    have hcX := hK.L hb28
    have hGX : GB (laN X b y) (st + i) (gGet X 77) := by
      rw [laN_c hcX (by omega)]
      exact GB_GE hGE (GB_traj h.1 hy sh0k st (day_GC h hy).2.1.1 i (by omega))
    have e58 : X 58 2 = nI st := by rw [hK 58 2 (by unfold scr; omega)]; exact h.2.2.2.2.1.1
    have ebl : blockedF (X (b + 10 + 2 * y) 2) (X 77 2) (X 77 3) = if blB I b hn st y i then 1 else 0 := by
      have e6 : X 77 2 = trajY I b y hn 0 st i (yGet I y) 6 := hGE.2 6 (by decide) (by decide)
      have e7 : X 77 3 = trajY I b y hn 0 st i (yGet I y) 7 := hGE.2 7 (by decide) (by decide)
      rw [e6, e7, hcX (b + 10 + 2 * y) ⟨by omega, by omega⟩]
      exact bl_if
    have hci : (nI i).toNatClampNeg = i := nI_clamp (by omega)
    refine x_iload (q := 29) dX7_markBlocked_27 rfl rfl ?_
    refine x_bipush (72) (q := 31) dX7_markBlocked_29 rfl (by decide) ?_
    refine x_icmp_gt (t := 90) (q := 34) dX7_markBlocked_31 (by decide) rfl (fun c31 => absurd c31 (fun q => absurd ((nI_ltI (a := 72) (by omega) (by omega)).mp q) (by omega))) (fun c31 => ?_)
    refine x_iload (q := 36) dX7_markBlocked_34 rfl rfl ?_
    refine x_aload_n (q := 37) dX7_markBlocked_36 rfl rfl ?_
    refine q_aleni (v := 73) (q := 38) dX7_markBlocked_37 rfl rfl (by decide) ?_
    refine x_icmp_ge (t := 90) (q := 41) dX7_markBlocked_38 (by decide) rfl (fun c38 => absurd c38 (nI_ge (b := 73) (by omega) (by decide))) (fun c38 => ?_)
    refine x_aload_n (q := 42) dX7_markBlocked_41 rfl rfl ?_
    refine q_gr (K := 0) (b := 77) (q := 45) dX7_markBlocked_42 rfl cl_7 (by decide) tw_455 rfl rfl rfl ?_
    refine x_aload (q := 47) dX7_markBlocked_45 rfl rfl ?_
    refine q_callV (ci := 4) (N := 5) (T := TX4) (As := [.ref (b + 10 + 2 * y)]) (rest := []) (q := 50) dX7_markBlocked_47 rfl okX4_isBlocked tw_985 rfl rfl (c_isBlocked (g := 77) rfl (ly_w h.1.1 (by omega) r).2 X r J) rfl rfl (Nat.le_of_ble_eq_true rfl) ⟨by decide, by decide⟩ ⟨rfl, rfl⟩ (fun rv_ I_ r_ J_ hv_ => ?_)
    obtain ⟨a1_, a2_, a3_, a4_⟩ := hv_
    rw [a1_, a2_, a3_, a4_]
    show Wq MX7_markBlocked 50 [some (.ref 76), some (.ref 58), some (.int (nI y)), some (.ref 86), some (.ref (b + 10 + 2 * y)), some (.int (nI i))] [.int (blockedF (X (b + 10 + 2 * y) 2) (X 77 2) (X 77 3))] X r J _
    refine x_if_eq (t := 63) (q := 53) dX7_markBlocked_50 (by decide) rfl (fun c50 => ?_) (fun c50 => ?_)
    · refine x_aload_n (q := 64) dX7_markBlocked_63 rfl rfl ?_
      refine q_gr (K := 0) (b := 77) (q := 67) dX7_markBlocked_64 rfl cl_7 (by decide) tw_455 rfl rfl rfl ?_
      refine x_aload (q := 69) dX7_markBlocked_67 rfl rfl ?_
      refine x_aload_n (q := 70) dX7_markBlocked_69 rfl rfl ?_
      refine q_gr (K := 0) (b := b) (q := 73) dX7_markBlocked_70 rfl cl_1 (by decide) tw_422 rfl rfl (by rw [← hr.2.1]; rfl) ?_
      refine x_aload_n (q := 74) dX7_markBlocked_73 rfl rfl ?_
      refine q_gi (K := 2) (q := 77) dX7_markBlocked_74 rfl cl_1 (by decide) tw_430 rfl rfl ?_
      refine x_iload (q := 79) dX7_markBlocked_77 rfl rfl ?_
      refine x_iadd (q := 80) dX7_markBlocked_79 rfl ?_
      refine x_iconst (0) (q := 81) dX7_markBlocked_80 rfl (by decide) ?_
      have hbf : blB I b hn st y i = false := by
        cases q : blB I b hn st y i
        · rfl
        · rw [ebl, q] at c50; exact absurd c50 (by decide)
      have hKZ : Kp I X := hK
      have hgZ : gGet X 77 = gGet X 77 := rfl
      have hvi : X 86 i = nI (bkN I b hn st (y + 1) i) := by rw [bk_s0 hbf]; exact hhi i (Nat.le_refl _) (by omega)
      have hvo : ∀ s, ¬ s = i → X 86 s = X 86 s := fun s q => rfl
      have hcZ := hKZ.L hb28
      have e58Z : X 58 2 = nI st := by rw [hKZ 58 2 (by unfold scr; omega)]; exact h.2.2.2.2.1.1
      rw [e58Z, nI_add]
      refine q_callV (ci := 4) (N := 5) (T := TX4) (As := [.ref (b + 10 + 2 * y), .ref b, .int (nI (st + i)), .int 0]) (rest := []) (q := 84) dX7_markBlocked_81 rfl okX4_goStep tw_856 rfl rfl (by have q := c_stepY (g := 77) (s := st + i) (n := st + i) rfl (LOk_c hcZ h.1) hy sh0k (by omega) (by omega) (G := gGet X 77) (by rw [hgZ, laN_c hcZ (by omega), ← laN_c hcX (y := y) (by omega)]; exact hGX) r J; rw [gPut_get] at q; exact q) rfl rfl (Nat.le_of_ble_eq_true rfl) ⟨by decide, by decide⟩ ⟨rfl, rfl⟩ (fun rv_ I_ r_ J_ hv_ => ?_)
      obtain ⟨a1_, a2_, a3_, a4_⟩ := hv_
      rw [a1_, a2_, a3_, a4_]
      show Wq MX7_markBlocked 84 [some (.ref 76), some (.ref 58), some (.int (nI y)), some (.ref 86), some (.ref (b + 10 + 2 * y)), some (.int (nI i))] [] (gPut X 77 (stepY X b y hn 0 (st + i) (gGet X 77))) r J _
      obtain ⟨v31, ev31⟩ : ∃ y_ : Int32, y_ = (nI i) + 1 := ⟨_, rfl⟩
      refine x_iinc (v := v31) (L2 := [some (.ref 76), some (.ref 58), some (.int (nI y)), some (.ref 86), some (.ref (b + 10 + 2 * y)), some (.int v31)]) (q := 87) dX7_markBlocked_84 rfl (by decide) rfl rfl (by rw [ev31]; rfl) rfl ?_
      refine x_goto (t := 27) dX7_markBlocked_87 (by decide) ?_
      rw [show v31 = nI (i + 1) by rw [ev31, nI_p1]]
      refine ih (i + 1) _ (by omega) ⟨hKZ.tr (Kp_77 _), ?_, fun s hs => ?_, fun s h1 h2 => ?_⟩
      · rw [gGet_put, hgZ, stepY_c hcZ (by omega)]
        exact GE_stepY h.1 hy hGE
      · rw [g77c (by decide) (by decide)]
        by_cases e : s = i
        · rw [e]; exact hvi
        · rw [hvo s e]; exact hlo s (by omega)
      · rw [g77c (by decide) (by decide), hvo s (by omega)]
        exact hhi s (by omega) h2
    · refine x_aload_n (q := 54) dX7_markBlocked_53 rfl rfl ?_
      refine x_iload (q := 56) dX7_markBlocked_54 rfl rfl ?_
      refine x_dup2 (q := 57) dX7_markBlocked_56 rfl rfl rfl ?_
      refine q_iald (q := 58) dX7_markBlocked_57 rfl rfl (vp_in_nI (by omega) (by decide)) ?_
      refine x_iconst (1) (q := 59) dX7_markBlocked_58 rfl (by decide) ?_
      refine x_iload_n (q := 60) dX7_markBlocked_59 rfl rfl ?_
      refine x_ishl (q := 61) dX7_markBlocked_60 rfl ?_
      refine x_ior (q := 62) dX7_markBlocked_61 rfl ?_
      refine q_iast (q := 63) dX7_markBlocked_62 rfl rfl (vp_in_nI (by omega) (by decide)) (fun I1 eI1 => ?_)
      refine x_aload_n (q := 64) dX7_markBlocked_63 rfl rfl ?_
      refine q_gr (K := 0) (b := 77) (q := 67) dX7_markBlocked_64 rfl cl_7 (by decide) tw_455 rfl rfl rfl ?_
      refine x_aload (q := 69) dX7_markBlocked_67 rfl rfl ?_
      refine x_aload_n (q := 70) dX7_markBlocked_69 rfl rfl ?_
      refine q_gr (K := 0) (b := b) (q := 73) dX7_markBlocked_70 rfl cl_1 (by decide) tw_422 rfl rfl (by rw [← hr.2.1]; rfl) ?_
      refine x_aload_n (q := 74) dX7_markBlocked_73 rfl rfl ?_
      refine q_gi (K := 2) (q := 77) dX7_markBlocked_74 rfl cl_1 (by decide) tw_430 rfl rfl ?_
      refine x_iload (q := 79) dX7_markBlocked_77 rfl rfl ?_
      refine x_iadd (q := 80) dX7_markBlocked_79 rfl ?_
      refine x_iconst (0) (q := 81) dX7_markBlocked_80 rfl (by decide) ?_
      have hbt : blB I b hn st y i = true := by
        cases q : blB I b hn st y i
        · rw [ebl, q] at c50; exact absurd rfl c50
        · rfl
      rw [hci, hhi i (Nat.le_refl _) (by omega), bk_s1 (by omega) hbt] at eI1
      have hKZ : Kp I I1 := by rw [eI1]; exact hK.tr (Kp_up (by unfold scr; omega))
      have hgZ : gGet I1 77 = gGet X 77 := by unfold gGet; rw [eI1, upc (by decide), upc (by decide)]
      have hvi : I1 86 i = nI (bkN I b hn st (y + 1) i) := by rw [eI1, upq]
      have hvo : ∀ s, ¬ s = i → I1 86 s = X 86 s := fun s q => by rw [eI1, ups q]
      have hcZ := hKZ.L hb28
      have e58Z : I1 58 2 = nI st := by rw [hKZ 58 2 (by unfold scr; omega)]; exact h.2.2.2.2.1.1
      rw [e58Z, nI_add]
      refine q_callV (ci := 4) (N := 5) (T := TX4) (As := [.ref (b + 10 + 2 * y), .ref b, .int (nI (st + i)), .int 0]) (rest := []) (q := 84) dX7_markBlocked_81 rfl okX4_goStep tw_856 rfl rfl (by have q := c_stepY (g := 77) (s := st + i) (n := st + i) rfl (LOk_c hcZ h.1) hy sh0k (by omega) (by omega) (G := gGet I1 77) (by rw [hgZ, laN_c hcZ (by omega), ← laN_c hcX (y := y) (by omega)]; exact hGX) r J; rw [gPut_get] at q; exact q) rfl rfl (Nat.le_of_ble_eq_true rfl) ⟨by decide, by decide⟩ ⟨rfl, rfl⟩ (fun rv_ I_ r_ J_ hv_ => ?_)
      obtain ⟨a1_, a2_, a3_, a4_⟩ := hv_
      rw [a1_, a2_, a3_, a4_]
      show Wq MX7_markBlocked 84 [some (.ref 76), some (.ref 58), some (.int (nI y)), some (.ref 86), some (.ref (b + 10 + 2 * y)), some (.int (nI i))] [] (gPut I1 77 (stepY I1 b y hn 0 (st + i) (gGet I1 77))) r J _
      obtain ⟨v31, ev31⟩ : ∃ y_ : Int32, y_ = (nI i) + 1 := ⟨_, rfl⟩
      refine x_iinc (v := v31) (L2 := [some (.ref 76), some (.ref 58), some (.int (nI y)), some (.ref 86), some (.ref (b + 10 + 2 * y)), some (.int v31)]) (q := 87) dX7_markBlocked_84 rfl (by decide) rfl rfl (by rw [ev31]; rfl) rfl ?_
      refine x_goto (t := 27) dX7_markBlocked_87 (by decide) ?_
      rw [show v31 = nI (i + 1) by rw [ev31, nI_p1]]
      refine ih (i + 1) _ (by omega) ⟨hKZ.tr (Kp_77 _), ?_, fun s hs => ?_, fun s h1 h2 => ?_⟩
      · rw [gGet_put, hgZ, stepY_c hcZ (by omega)]
        exact GE_stepY h.1 hy hGE
      · rw [g77c (by decide) (by decide)]
        by_cases e : s = i
        · rw [e]; exact hvi
        · rw [hvo s e]; exact hlo s (by omega)
      · rw [g77c (by decide) (by decide), hvo s (by omega)]
        exact hhi s (by omega) h2
set_option maxRecDepth 100000 in
theorem c_mkb {I : MI} {b yn wn hn sn st : Nat} {r : MR} (J : MJ) (hr : RefOk r b) (h : RelL I b yn wn hn sn st) {y : Nat} (hy : y < yn) {X : MI} (hX : bkP I b hn st y X) : Cq yX7_markBlocked MX7_markBlocked [.ref 76, .ref 58, .int (nI y), .ref 86] X r J (Rp none (bkP I b hn st (y + 1)) r J) := by
  have hb28 := (refs_L hr).2
  have h8 : yn ≤ 8 := h.1.2.2.1
  have hst := h.2.2.2.2.1.2.2.1
  have h5 := (la5 h.1 hy).2
  refine cq_of [some (.ref 76), some (.ref 58), some (.int (nI y)), some (.ref 86), none, none] 2 (by decide +kernel) rfl rfl (Nat.le_of_ble_eq_true rfl) rfl ?_
  refine x_aload_n (q := 1) dX7_markBlocked_0 rfl rfl ?_
  refine q_gr (K := 0) (b := b) (q := 4) dX7_markBlocked_1 rfl cl_1 (by decide) tw_422 rfl rfl (by rw [← hr.2.1]; rfl) ?_
  refine q_gr (K := 0) (b := (b + 1)) (q := 7) dX7_markBlocked_4 rfl cl_5 (by decide) tw_160 h.1.1 rfl (lr_w h.1.1 _).1 ?_
  refine x_iload_n (q := 8) dX7_markBlocked_7 rfl rfl ?_
  refine q_aald4 (b := (b + 10 + 2 * y)) (q := 9) dX7_markBlocked_8 rfl (ls_w h.1.1).1 (vp_in_nI (by omega) (by decide)) (by rw [nI_clamp (by omega)]; exact (ly_w h.1.1 (by omega) _).1) ?_
  refine x_astore (L2 := [some (.ref 76), some (.ref 58), some (.int (nI y)), some (.ref 86), some (.ref (b + 10 + 2 * y)), none]) (q := 11) dX7_markBlocked_9 rfl (by decide) rfl rfl ?_
  refine x_aload_n (q := 12) dX7_markBlocked_11 rfl rfl ?_
  refine q_gr (K := 0) (b := 77) (q := 15) dX7_markBlocked_12 rfl cl_7 (by decide) tw_455 rfl rfl rfl ?_
  refine x_aload_n (q := 16) dX7_markBlocked_15 rfl rfl ?_
  refine q_gr (K := 1) (b := 59) (q := 19) dX7_markBlocked_16 rfl cl_1 (by decide) tw_427 rfl rfl rfl ?_
  refine x_iload_n (q := 20) dX7_markBlocked_19 rfl rfl ?_
  refine q_aald5 (b := (60 + 2 * y)) (q := 21) dX7_markBlocked_20 rfl rfl (vp_in_nI (by omega) (by decide)) (by rw [nI_clamp (by omega)]; exact (gy_w (by omega) _).1) ?_
  refine q_callV (ci := 4) (N := 5) (T := TX4) (As := [.ref (60 + 2 * y)]) (rest := []) (q := 24) dX7_markBlocked_21 rfl okX4_copy tw_852 rfl rfl (by have k := c_copy (g := 77) rfl (gy_w (show y < 8 by omega) r).2 (by omega) (by omega) X (gGet X 77) r J; rw [gPut_get] at k; exact k) rfl rfl (Nat.le_of_ble_eq_true rfl) ⟨by decide, by decide⟩ ⟨rfl, rfl⟩ (fun rv_ I_ r_ J_ hv_ => ?_)
  obtain ⟨a1_, a2_, a3_, a4_⟩ := hv_
  rw [a1_, a2_, a3_, a4_]
  show Wq MX7_markBlocked 24 [some (.ref 76), some (.ref 58), some (.int (nI y)), some (.ref 86), some (.ref (b + 10 + 2 * y)), none] [] (gPut X 77 (copyG (gGet X (60 + 2 * y)) (gGet X 77))) r J _
  refine x_iconst (0) (q := 25) dX7_markBlocked_24 rfl (by decide) ?_
  refine x_istore (L2 := [some (.ref 76), some (.ref 58), some (.int (nI y)), some (.ref 86), some (.ref (b + 10 + 2 * y)), some (.int 0)]) (q := 27) dX7_markBlocked_25 rfl (by decide) rfl rfl ?_
  refine l_mkb J hr h hy 73 0 _ rfl ⟨hX.1.tr (Kp_77 _), ?_, fun s hs => absurd hs (by omega), fun s _ h2 => by rw [g77c (by decide) (by decide)]; exact hX.2 s h2⟩
  rw [gGet_put]
  have eg : gGet X (60 + 2 * y) = gGet I (60 + 2 * y) := by
    unfold gGet
    rw [hX.1.cell (c := 60 + 2 * y) (fun j s => by unfold scr at s; omega), hX.1.cell (c := 60 + 2 * y + 1) (fun j s => by unfold scr at s; omega)]
  rw [eg]
  refine ⟨fun j hj => ?_, fun j j1 j2 => ?_⟩
  · rw [(GE_copy (F := gGet X 77) h5).1 j hj]
    exact (day_GC h hy).2.2.1 j hj
  · rw [(GE_copy (F := gGet X 77) h5).2 j j1 j2]
    exact (day_GC h hy).2.2.2 j j1 j2
set_option maxRecDepth 100000 in
theorem l_lko {I : MI} {b yn wn hn sn st : Nat} {r : MR} (J : MJ) (hr : RefOk r b) (h : RelL I b yn wn hn sn st) : ∀ (f : Nat) (y : Nat) (X : MI) (_ : y + f = yn) (_ : bkP I b hn st y X), Wq MX0_lookOut 10 [some (.ref 85), some (.ref 58), some (.ref 76), some (.int (nI y))] [] X r J (Rp none (bkP I b hn st yn) r J) := by
  have hb28 := (refs_L hr).2
  have h8 : yn ≤ 8 := h.1.2.2.1
  intro f
  induction f with
  | zero =>
    intro y X hyk hX
    have ey : X b 1 = nI yn := by rw [hX.1.L hb28 b ⟨by omega, by omega⟩]; exact h.1.2.1
    refine x_iload_n (q := 11) dX0_lookOut_10 rfl rfl ?_
    refine x_aload_n (q := 12) dX0_lookOut_11 rfl rfl ?_
    refine q_gr (K := 0) (b := b) (q := 15) dX0_lookOut_12 rfl cl_1 (by decide) tw_424 rfl rfl (by rw [← hr.2.1]; rfl) ?_
    refine q_gi (K := 1) (q := 18) dX0_lookOut_15 rfl cl_5 (by decide) tw_165 h.1.1 rfl ?_
    refine x_icmp_ge (t := 37) (q := 21) dX0_lookOut_18 (by decide) rfl (fun c18 => ?_) (fun c18 => absurd c18 (fun q => q (by rw [ey]; exact nI_le (by omega) (by omega))))
    refine q_vret dX0_lookOut_37 rfl ?_
    rw [show y = yn by omega] at hX
    exact ⟨rfl, hX, rfl, rfl⟩
  | succ f ih =>
    intro y X hyk hX
    have ey : X b 1 = nI yn := by rw [hX.1.L hb28 b ⟨by omega, by omega⟩]; exact h.1.2.1
    refine x_iload_n (q := 11) dX0_lookOut_10 rfl rfl ?_
    refine x_aload_n (q := 12) dX0_lookOut_11 rfl rfl ?_
    refine q_gr (K := 0) (b := b) (q := 15) dX0_lookOut_12 rfl cl_1 (by decide) tw_424 rfl rfl (by rw [← hr.2.1]; rfl) ?_
    refine q_gi (K := 1) (q := 18) dX0_lookOut_15 rfl cl_5 (by decide) tw_165 h.1.1 rfl ?_
    refine x_icmp_ge (t := 37) (q := 21) dX0_lookOut_18 (by decide) rfl (fun c18 => absurd c18 (by rw [ey]; exact nI_ge (by omega) (by omega))) (fun c18 => ?_)
    refine x_aload_n (q := 22) dX0_lookOut_21 rfl rfl ?_
    refine x_aload_n (q := 23) dX0_lookOut_22 rfl rfl ?_
    refine x_iload_n (q := 24) dX0_lookOut_23 rfl rfl ?_
    refine x_aload_n (q := 25) dX0_lookOut_24 rfl rfl ?_
    refine q_gr (K := 0) (b := 86) (q := 28) dX0_lookOut_25 rfl cl_0 (by decide) tw_518 rfl rfl rfl ?_
    refine q_callV (ci := 7) (N := 1) (T := TX7) (As := [.ref 58, .int (nI y), .ref 86]) (rest := []) (q := 31) dX0_lookOut_28 rfl okX7_markBlocked tw_981 rfl rfl (c_mkb J hr h (show y < yn by omega) hX) rfl rfl (Nat.le_of_ble_eq_true rfl) ⟨by decide, by decide⟩ ⟨rfl, rfl⟩ (fun rv_ Y r_ J_ hv_ => ?_)
    obtain ⟨a1_, hY, a3_, a4_⟩ := hv_
    rw [a1_, a3_, a4_]
    show Wq MX0_lookOut 31 [some (.ref 85), some (.ref 58), some (.ref 76), some (.int (nI y))] [] Y r J _
    obtain ⟨v1, ev1⟩ : ∃ y_ : Int32, y_ = (nI y) + 1 := ⟨_, rfl⟩
    refine x_iinc (v := v1) (L2 := [some (.ref 85), some (.ref 58), some (.ref 76), some (.int v1)]) (q := 34) dX0_lookOut_31 rfl (by decide) rfl rfl (by rw [ev1]; rfl) rfl ?_
    refine x_goto (t := 10) dX0_lookOut_34 (by decide) ?_
    rw [show v1 = nI (y + 1) by rw [ev1, nI_p1]]
    exact ih (y + 1) Y (by omega) hY
set_option maxRecDepth 100000 in
theorem c_lko {I : MI} {b yn wn hn sn st : Nat} {r : MR} (J : MJ) (hr : RefOk r b) (h : RelL I b yn wn hn sn st) : Cq yX0_lookOut MX0_lookOut [.ref 85, .ref 58, .ref 76] I r J (Rp none (bkP I b hn st yn) r J) := by
  have hb28 := (refs_L hr).2
  have h8 : yn ≤ 8 := h.1.2.2.1
  refine cq_of [some (.ref 85), some (.ref 58), some (.ref 76), none] 1 (by decide +kernel) rfl rfl (Nat.le_of_ble_eq_true rfl) rfl ?_
  refine x_aload_n (q := 1) dX0_lookOut_0 rfl rfl ?_
  refine q_gr (K := 0) (b := 86) (q := 4) dX0_lookOut_1 rfl cl_0 (by decide) tw_518 rfl rfl rfl ?_
  refine x_iconst (0) (q := 5) dX0_lookOut_4 rfl (by decide) ?_
  refine q_callS (As := [.ref 86, .int 0]) (rest := []) (q := 8) dX0_lookOut_5 rfl okJ7_fill_53178 tw_980 (c_fill86 0 I r J) rfl rfl (Nat.le_of_ble_eq_true rfl) ⟨by decide, by decide⟩ ⟨rfl, rfl⟩ (fun rv_ I_ r_ J_ hv_ => ?_)
  obtain ⟨a1_, a2_, a3_, a4_⟩ := hv_
  rw [a1_, a2_, a3_, a4_]
  show Wq MX0_lookOut 8 [some (.ref 85), some (.ref 58), some (.ref 76), none] [] (flI I 86 73 0) r J _
  refine x_iconst (0) (q := 9) dX0_lookOut_8 rfl (by decide) ?_
  refine x_istore_n (L2 := [some (.ref 85), some (.ref 58), some (.ref 76), some (.int 0)]) (q := 10) dX0_lookOut_9 rfl (by decide) rfl rfl ?_
  refine l_lko J hr h yn 0 _ (by omega) ⟨fun c j sc => by rw [flI_o (fun e => sc (by unfold scr; omega))], fun s hs => ?_⟩
  rw [flI_i hs]
  rfl
def mkM (I : MI) (b hn st y i : Nat) (X : MI) : Prop := Kp I X ∧ GE (laN I b y) (mGet X) (trajY I b y hn 0 st i (yGet I y)) ∧ (∀ s, s < i → X 133 s = nI (bkN I b hn st (y + 1) s)) ∧ ∀ s, i ≤ s → s < 73 → X 133 s = nI (bkN I b hn st y s)
def bkM (I : MI) (b hn st n : Nat) (X : MI) : Prop := Kp I X ∧ ∀ s, s < 73 → X 133 s = nI (bkN I b hn st n s)
theorem mGet_put {I : MI} {G : GT} : ∀ j, j < 9 → mGet (mPut I G) j = G j := by
  intro j hj
  unfold mGet
  by_cases h : j < 5
  · rw [if_pos h, mPut_w _ _ _ h]
  · rw [if_neg h, mPut_f _ _ _ (by omega)]
    congr 1
theorem nI_or0 (a : Nat) : nI a ||| 0 = nI a := by
  have := nI_or a 0
  rw [Nat.or_zero] at this
  exact this
set_option maxRecDepth 100000 in
theorem l_lyb1 {I : MI} {b yn wn hn sn st : Nat} (hb : b ≤ 28) (r : MR) (J : MJ) (h : RelL I b yn wn hn sn st) {y : Nat} (hy : y < yn) (post : Option Value → MI → MR → MJ → Prop) (kx : ∀ (X : MI) (x2 : Option Value), bkM I b hn st (y + 1) X → Wq MX12_layBlocked 86 [some (.ref 100), some (.int (nI y)), x2] [] X r J post) : ∀ (f : Nat) (i : Nat) (X : MI) (_ : i + f = 73) (_ : mkM I b hn st y i X), Wq MX12_layBlocked 38 [some (.ref 100), some (.int (nI y)), some (.int (nI i))] [] X r J (post) := by
  have h8 : yn ≤ 8 := h.1.2.2.1
  have hst := h.2.2.2.2.1.2.2.1
  have h5 := (la5 h.1 hy).2
  intro f
  induction f with
  | zero =>
    intro i X hik hX
    refine x_iload_n (q := 39) dX12_layBlocked_38 rfl rfl ?_
    refine x_bipush (72) (q := 41) dX12_layBlocked_39 rfl (by decide) ?_
    refine x_icmp_gt (t := 86) (q := 44) dX12_layBlocked_41 (by decide) rfl (fun c41 => ?_) (fun c41 => absurd c41 (fun q => q ((nI_ltI (a := 72) (by omega) (by omega)).mpr (by omega))))
    rw [show i = 73 by omega] at hX
    exact kx X _ ⟨hX.1, fun s hs => hX.2.2.1 s hs⟩
  | succ f ih =>
    intro i X hik hX
    obtain ⟨hK, hGE, hlo, hhi⟩ := hX
    have hRX := RelL_k hK hb h
    have hcX := hK.L hb
    have hGX : GB (laN X b y) (st + i) (mGet X) := by
      rw [laN_c hcX (by omega)]
      exact GB_GE hGE (GB_traj h.1 hy sh0k st (day_GC h hy).2.1.1 i (by omega))
    have ebl : blockedF (X 115 y) (X 100 50) (X 100 51) = if blB I b hn st y i then 1 else 0 := by
      have e6 : X 100 50 = trajY I b y hn 0 st i (yGet I y) 6 := hGE.2 6 (by decide) (by decide)
      have e7 : X 100 51 = trajY I b y hn 0 st i (yGet I y) 7 := hGE.2 7 (by decide) (by decide)
      rw [e6, e7, hK 115 y (by unfold scr; omega), (h.2.2.1.2.2.1 y hy).2.1]
      exact bl_if
    have hci : (nI i).toNatClampNeg = i := nI_clamp (by omega)
    refine x_iload_n (q := 39) dX12_layBlocked_38 rfl rfl ?_
    refine x_bipush (72) (q := 41) dX12_layBlocked_39 rfl (by decide) ?_
    refine x_icmp_gt (t := 86) (q := 44) dX12_layBlocked_41 (by decide) rfl (fun c41 => absurd c41 (fun q => absurd ((nI_ltI (a := 72) (by omega) (by omega)).mp q) (by omega))) (fun c41 => ?_)
    refine x_aload_n (q := 45) dX12_layBlocked_44 rfl rfl ?_
    refine q_gr (K := 64) (b := 133) (q := 48) dX12_layBlocked_45 rfl cl_12 (by decide) tw_1146 rfl rfl rfl ?_
    refine x_iload_n (q := 49) dX12_layBlocked_48 rfl rfl ?_
    refine x_dup2 (q := 50) dX12_layBlocked_49 rfl rfl rfl ?_
    refine q_iald (q := 51) dX12_layBlocked_50 rfl rfl (vp_in_nI (by omega) (by decide)) ?_
    refine x_aload_n (q := 52) dX12_layBlocked_51 rfl rfl ?_
    refine x_iload_n (q := 53) dX12_layBlocked_52 rfl rfl ?_
    refine q_callV (ci := 12) (N := 79) (T := TX12) (As := [.int (nI y)]) (rest := [.int (X 133 (nI i).toNatClampNeg), .int (nI i), .ref 133]) (q := 56) dX12_layBlocked_53 rfl okX12_isBlocked tw_1497 rfl rfl (c_misBlocked y (by omega) X r J) rfl rfl (Nat.le_of_ble_eq_true rfl) ⟨by decide, by decide⟩ ⟨rfl, rfl⟩ (fun rv_ I_ r_ J_ hv_ => ?_)
    obtain ⟨a1_, a2_, a3_, a4_⟩ := hv_
    rw [a1_, a2_, a3_, a4_]
    show Wq MX12_layBlocked 56 [some (.ref 100), some (.int (nI y)), some (.int (nI i))] [.int (blockedF (X 115 y) (X 100 50) (X 100 51)), .int (X 133 (nI i).toNatClampNeg), .int (nI i), .ref 133] X r J _
    refine x_if_eq (t := 65) (q := 59) dX12_layBlocked_56 (by decide) rfl (fun c56 => ?_) (fun c56 => ?_)
    · refine x_iconst (0) (q := 66) dX12_layBlocked_65 rfl (by decide) ?_
      refine x_ior (q := 67) dX12_layBlocked_66 rfl ?_
      refine q_iast (q := 68) dX12_layBlocked_67 rfl rfl (vp_in_nI (by omega) (by decide)) (fun I1 eI1 => ?_)
      refine x_aload_n (q := 69) dX12_layBlocked_68 rfl rfl ?_
      refine x_iload_n (q := 70) dX12_layBlocked_69 rfl rfl ?_
      refine x_aload_n (q := 71) dX12_layBlocked_70 rfl rfl ?_
      refine q_gi (K := 55) (q := 74) dX12_layBlocked_71 rfl cl_12 (by decide) tw_1137 rfl rfl ?_
      refine x_iload_n (q := 75) dX12_layBlocked_74 rfl rfl ?_
      refine x_iadd (q := 76) dX12_layBlocked_75 rfl ?_
      refine x_iconst (0) (q := 77) dX12_layBlocked_76 rfl (by decide) ?_
      rw [hci, hhi i (Nat.le_refl _) (by omega)] at eI1
      have ez : I1 = upI X 133 i (nI (bkN I b hn st (y + 1) i)) := by
        cases q : blB I b hn st y i
        · rw [ebl, q] at c56
          first | exact absurd rfl c56 | (rw [eI1, bk_s0 q]; congr 1; exact nI_or0 _)
        · rw [ebl, q] at c56
          first | exact absurd c56 (by decide) | rw [eI1, bk_s1 (by omega) q]
      have hKZ : Kp I I1 := by rw [ez]; exact hK.tr (Kp_up (by unfold scr; omega))
      have hgZ : mGet I1 = mGet X := by unfold mGet; rw [ez, upc (by decide), upc (by decide)]
      have hvi : I1 133 i = nI (bkN I b hn st (y + 1) i) := by rw [ez, upq]
      have hvo : ∀ s, ¬ s = i → I1 133 s = X 133 s := fun s q => by rw [ez, ups q]
      have hcZ := hKZ.L hb
      have hRZ := RelL_k hKZ hb h
      have e55 : I1 100 55 = nI st := by rw [hKZ 100 55 (by unfold scr; omega)]; exact h.2.2.2.2.1.2.1
      rw [e55, nI_add]
      refine q_callV (ci := 12) (N := 79) (T := TX12) (As := [.int (nI y), .int (nI (st + i)), .int 0]) (rest := []) (q := 80) dX12_layBlocked_77 rfl okX12_goOn tw_1457 rfl rfl (by have q := c_mstep (s := st + i) (n := st + i) hRZ.1 hRZ.2.2.1 hy sh0k (by omega) (by omega) (G := mGet I1) (by rw [hgZ, laN_c hcZ (by omega), ← laN_c hcX (y := y) (by omega)]; exact hGX) r J; rw [mPut_get] at q; exact q) rfl rfl (Nat.le_of_ble_eq_true rfl) ⟨by decide, by decide⟩ ⟨rfl, rfl⟩ (fun rv_ I_ r_ J_ hv_ => ?_)
      obtain ⟨a1_, a2_, a3_, a4_⟩ := hv_
      rw [a1_, a2_, a3_, a4_]
      show Wq MX12_layBlocked 80 [some (.ref 100), some (.int (nI y)), some (.int (nI i))] [] (mPut I1 (stepY I1 b y hn 0 (st + i) (mGet I1))) r J _
      obtain ⟨v31, ev31⟩ : ∃ y_ : Int32, y_ = (nI i) + 1 := ⟨_, rfl⟩
      refine x_iinc (v := v31) (L2 := [some (.ref 100), some (.int (nI y)), some (.int v31)]) (q := 83) dX12_layBlocked_80 rfl (by decide) rfl rfl (by rw [ev31]; rfl) rfl ?_
      refine x_goto (t := 38) dX12_layBlocked_83 (by decide) ?_
      rw [show v31 = nI (i + 1) by rw [ev31, nI_p1]]
      refine ih (i + 1) _ (by omega) ⟨hKZ.tr (Kp_m _), ?_, fun s hs => ?_, fun s h1 h2 => ?_⟩
      · refine GE_v h5 mGet_put (fun _ _ => rfl) ?_
        rw [hgZ, stepY_c hcZ (by omega)]
        exact GE_stepY h.1 hy hGE
      · rw [mPc (by decide) (by decide)]
        by_cases e : s = i
        · rw [e]; exact hvi
        · rw [hvo s e]; exact hlo s (by omega)
      · rw [mPc (by decide) (by decide), hvo s (by omega)]
        exact hhi s (by omega) h2
    · refine x_iconst (1) (q := 60) dX12_layBlocked_59 rfl (by decide) ?_
      refine x_iload_n (q := 61) dX12_layBlocked_60 rfl rfl ?_
      refine x_ishl (q := 62) dX12_layBlocked_61 rfl ?_
      refine x_goto (t := 66) dX12_layBlocked_62 (by decide) ?_
      refine x_ior (q := 67) dX12_layBlocked_66 rfl ?_
      refine q_iast (q := 68) dX12_layBlocked_67 rfl rfl (vp_in_nI (by omega) (by decide)) (fun I2 eI2 => ?_)
      refine x_aload_n (q := 69) dX12_layBlocked_68 rfl rfl ?_
      refine x_iload_n (q := 70) dX12_layBlocked_69 rfl rfl ?_
      refine x_aload_n (q := 71) dX12_layBlocked_70 rfl rfl ?_
      refine q_gi (K := 55) (q := 74) dX12_layBlocked_71 rfl cl_12 (by decide) tw_1137 rfl rfl ?_
      refine x_iload_n (q := 75) dX12_layBlocked_74 rfl rfl ?_
      refine x_iadd (q := 76) dX12_layBlocked_75 rfl ?_
      refine x_iconst (0) (q := 77) dX12_layBlocked_76 rfl (by decide) ?_
      rw [hci, hhi i (Nat.le_refl _) (by omega)] at eI2
      have ez : I2 = upI X 133 i (nI (bkN I b hn st (y + 1) i)) := by
        cases q : blB I b hn st y i
        · rw [ebl, q] at c56
          first | exact absurd rfl c56 | (rw [eI2, bk_s0 q]; congr 1; exact nI_or0 _)
        · rw [ebl, q] at c56
          first | exact absurd c56 (by decide) | rw [eI2, bk_s1 (by omega) q]
      have hKZ : Kp I I2 := by rw [ez]; exact hK.tr (Kp_up (by unfold scr; omega))
      have hgZ : mGet I2 = mGet X := by unfold mGet; rw [ez, upc (by decide), upc (by decide)]
      have hvi : I2 133 i = nI (bkN I b hn st (y + 1) i) := by rw [ez, upq]
      have hvo : ∀ s, ¬ s = i → I2 133 s = X 133 s := fun s q => by rw [ez, ups q]
      have hcZ := hKZ.L hb
      have hRZ := RelL_k hKZ hb h
      have e55 : I2 100 55 = nI st := by rw [hKZ 100 55 (by unfold scr; omega)]; exact h.2.2.2.2.1.2.1
      rw [e55, nI_add]
      refine q_callV (ci := 12) (N := 79) (T := TX12) (As := [.int (nI y), .int (nI (st + i)), .int 0]) (rest := []) (q := 80) dX12_layBlocked_77 rfl okX12_goOn tw_1457 rfl rfl (by have q := c_mstep (s := st + i) (n := st + i) hRZ.1 hRZ.2.2.1 hy sh0k (by omega) (by omega) (G := mGet I2) (by rw [hgZ, laN_c hcZ (by omega), ← laN_c hcX (y := y) (by omega)]; exact hGX) r J; rw [mPut_get] at q; exact q) rfl rfl (Nat.le_of_ble_eq_true rfl) ⟨by decide, by decide⟩ ⟨rfl, rfl⟩ (fun rv_ I_ r_ J_ hv_ => ?_)
      obtain ⟨a1_, a2_, a3_, a4_⟩ := hv_
      rw [a1_, a2_, a3_, a4_]
      show Wq MX12_layBlocked 80 [some (.ref 100), some (.int (nI y)), some (.int (nI i))] [] (mPut I2 (stepY I2 b y hn 0 (st + i) (mGet I2))) r J _
      obtain ⟨v31, ev31⟩ : ∃ y_ : Int32, y_ = (nI i) + 1 := ⟨_, rfl⟩
      refine x_iinc (v := v31) (L2 := [some (.ref 100), some (.int (nI y)), some (.int v31)]) (q := 83) dX12_layBlocked_80 rfl (by decide) rfl rfl (by rw [ev31]; rfl) rfl ?_
      refine x_goto (t := 38) dX12_layBlocked_83 (by decide) ?_
      rw [show v31 = nI (i + 1) by rw [ev31, nI_p1]]
      refine ih (i + 1) _ (by omega) ⟨hKZ.tr (Kp_m _), ?_, fun s hs => ?_, fun s h1 h2 => ?_⟩
      · refine GE_v h5 mGet_put (fun _ _ => rfl) ?_
        rw [hgZ, stepY_c hcZ (by omega)]
        exact GE_stepY h.1 hy hGE
      · rw [mPc (by decide) (by decide)]
        by_cases e : s = i
        · rw [e]; exact hvi
        · rw [hvo s e]; exact hlo s (by omega)
      · rw [mPc (by decide) (by decide), hvo s (by omega)]
        exact hhi s (by omega) h2
set_option maxRecDepth 100000 in
theorem l_lyb {I : MI} {b yn wn hn sn st : Nat} (hb : b ≤ 28) (r : MR) (J : MJ) (h : RelL I b yn wn hn sn st) : ∀ (f : Nat) (y : Nat) (X : MI) (x2 : Option Value) (_ : y + f = yn) (_ : bkM I b hn st y X), Wq MX12_layBlocked 23 [some (.ref 100), some (.int (nI y)), x2] [] X r J (Rp none (bkM I b hn st yn) r J) := by
  have h8 : yn ≤ 8 := h.1.2.2.1
  have hst := h.2.2.2.2.1.2.2.1
  intro f
  induction f with
  | zero =>
    intro y X x2 hyk hX
    have ey : X 100 41 = nI yn := by rw [hX.1 100 41 (by unfold scr; omega)]; exact h.2.2.1.1
    refine x_iload_n (q := 24) dX12_layBlocked_23 rfl rfl ?_
    refine x_aload_n (q := 25) dX12_layBlocked_24 rfl rfl ?_
    refine q_gi (K := 41) (q := 28) dX12_layBlocked_25 rfl cl_12 (by decide) tw_1123 rfl rfl ?_
    refine x_icmp_ge (t := 92) (q := 31) dX12_layBlocked_28 (by decide) rfl (fun c28 => ?_) (fun c28 => absurd c28 (fun q => q (by rw [ey]; exact nI_le (by omega) (by omega))))
    refine q_vret dX12_layBlocked_92 rfl ?_
    rw [show y = yn by omega] at hX
    exact ⟨rfl, hX, rfl, rfl⟩
  | succ f ih =>
    intro y X x2 hyk hX
    have ey : X 100 41 = nI yn := by rw [hX.1 100 41 (by unfold scr; omega)]; exact h.2.2.1.1
    refine x_iload_n (q := 24) dX12_layBlocked_23 rfl rfl ?_
    refine x_aload_n (q := 25) dX12_layBlocked_24 rfl rfl ?_
    refine q_gi (K := 41) (q := 28) dX12_layBlocked_25 rfl cl_12 (by decide) tw_1123 rfl rfl ?_
    refine x_icmp_ge (t := 92) (q := 31) dX12_layBlocked_28 (by decide) rfl (fun c28 => absurd c28 (by rw [ey]; exact nI_ge (by omega) (by omega))) (fun c28 => ?_)
    refine x_aload_n (q := 32) dX12_layBlocked_31 rfl rfl ?_
    refine x_iload_n (q := 33) dX12_layBlocked_32 rfl rfl ?_
    refine q_callV (ci := 12) (N := 79) (T := TX12) (As := [.int (nI y)]) (rest := []) (q := 36) dX12_layBlocked_33 rfl okX12_bring tw_1453 rfl rfl (by have k := c_bring y (by omega) X (mGet X) r J; rw [mPut_get] at k; exact k) rfl rfl (Nat.le_of_ble_eq_true rfl) ⟨by decide, by decide⟩ ⟨rfl, rfl⟩ (fun rv_ I_ r_ J_ hv_ => ?_)
    obtain ⟨a1_, a2_, a3_, a4_⟩ := hv_
    rw [a1_, a2_, a3_, a4_]
    show Wq MX12_layBlocked 36 [some (.ref 100), some (.int (nI y)), x2] [] (mPut X (yGet X y)) r J _
    refine x_iconst (0) (q := 37) dX12_layBlocked_36 rfl (by decide) ?_
    refine x_istore_n (L2 := [some (.ref 100), some (.int (nI y)), some (.int 0)]) (q := 38) dX12_layBlocked_37 rfl (by decide) rfl rfl ?_
    have hy : y < yn := by omega
    have h5 := (la5 h.1 hy).2
    have eyg : yGet X y = yGet I y := by
      unfold yGet
      rw [hX.1.cell (c := 126) (fun j s => by unfold scr at s; omega), hX.1.cell (c := 127) (fun j s => by unfold scr at s; omega)]
    refine l_lyb1 hb r J h hy _ (fun Y y2 hY => ?_) 73 0 _ rfl ⟨hX.1.tr (Kp_m _), GE_v h5 mGet_put (fun _ _ => rfl) (by rw [eyg]; exact ⟨fun _ _ => rfl, fun _ _ _ => rfl⟩), fun s hs => absurd hs (by omega), fun s _ h2 => by rw [mPc (by decide) (by decide)]; exact hX.2 s h2⟩
    obtain ⟨v31, ev31⟩ : ∃ y_ : Int32, y_ = (nI y) + 1 := ⟨_, rfl⟩
    refine x_iinc (v := v31) (L2 := [some (.ref 100), some (.int v31), y2]) (q := 89) dX12_layBlocked_86 rfl (by decide) rfl rfl (by rw [ev31]; rfl) rfl ?_
    refine x_goto (t := 23) dX12_layBlocked_89 (by decide) ?_
    rw [show v31 = nI (y + 1) by rw [ev31, nI_p1]]
    exact ih (y + 1) Y _ (by omega) hY
set_option maxRecDepth 100000 in
theorem l_lyb0 {I : MI} {b yn wn hn sn st : Nat} (hb : b ≤ 28) (r : MR) (J : MJ) (h : RelL I b yn wn hn sn st) : ∀ (f : Nat) (i : Nat) (x2 : Option Value) (_ : i + f = 73), Wq MX12_layBlocked 2 [some (.ref 100), some (.int (nI i)), x2] [] (flI I 133 i 0) r J (Rp none (bkM I b hn st yn) r J) := by
  have h8 : yn ≤ 8 := h.1.2.2.1
  have hst := h.2.2.2.2.1.2.2.1
  intro f
  induction f with
  | zero =>
    intro i x2 hik
    refine x_iload_n (q := 3) dX12_layBlocked_2 rfl rfl ?_
    refine x_bipush (72) (q := 5) dX12_layBlocked_3 rfl (by decide) ?_
    refine x_icmp_gt (t := 21) (q := 8) dX12_layBlocked_5 (by decide) rfl (fun c5 => ?_) (fun c5 => absurd c5 (fun q => q ((nI_ltI (a := 72) (by omega) (by omega)).mpr (by omega))))
    refine x_iconst (0) (q := 22) dX12_layBlocked_21 rfl (by decide) ?_
    refine x_istore_n (L2 := [some (.ref 100), some (.int 0), x2]) (q := 23) dX12_layBlocked_22 rfl (by decide) rfl rfl ?_
    refine l_lyb hb r J h yn 0 _ _ (by omega) ⟨fun c j sc => by rw [flI_o (fun e => sc (by unfold scr; omega))], fun s hs => ?_⟩
    rw [flI_i (by omega)]
    rfl
  | succ f ih =>
    intro i x2 hik
    refine x_iload_n (q := 3) dX12_layBlocked_2 rfl rfl ?_
    refine x_bipush (72) (q := 5) dX12_layBlocked_3 rfl (by decide) ?_
    refine x_icmp_gt (t := 21) (q := 8) dX12_layBlocked_5 (by decide) rfl (fun c5 => absurd c5 (fun q => absurd ((nI_ltI (a := 72) (by omega) (by omega)).mp q) (by omega))) (fun c5 => ?_)
    refine x_aload_n (q := 9) dX12_layBlocked_8 rfl rfl ?_
    refine q_gr (K := 64) (b := 133) (q := 12) dX12_layBlocked_9 rfl cl_12 (by decide) tw_1146 rfl rfl rfl ?_
    refine x_iload_n (q := 13) dX12_layBlocked_12 rfl rfl ?_
    refine x_iconst (0) (q := 14) dX12_layBlocked_13 rfl (by decide) ?_
    refine q_iast (q := 15) dX12_layBlocked_14 rfl rfl (vp_in_nI (by omega) (by decide)) (fun I1 eI1 => ?_)
    obtain ⟨v2, ev2⟩ : ∃ y_ : Int32, y_ = (nI i) + 1 := ⟨_, rfl⟩
    refine x_iinc (v := v2) (L2 := [some (.ref 100), some (.int v2), x2]) (q := 18) dX12_layBlocked_15 rfl (by decide) rfl rfl (by rw [ev2]; rfl) rfl ?_
    refine x_goto (t := 2) dX12_layBlocked_18 (by decide) ?_
    rw [nI_clamp (by omega), flI_s] at eI1
    rw [eI1, show v2 = nI (i + 1) by rw [ev2, nI_p1]]
    exact ih (i + 1) _ (by omega)
set_option maxRecDepth 100000 in
theorem c_lyb {I : MI} {b yn wn hn sn st : Nat} (hb : b ≤ 28) (r : MR) (J : MJ) (h : RelL I b yn wn hn sn st) : Cq yX12_layBlocked MX12_layBlocked [.ref 100] I r J (Rp none (bkM I b hn st yn) r J) := by
  refine cq_of [some (.ref 100), none, none] 2 (by decide +kernel) rfl rfl (Nat.le_of_ble_eq_true rfl) rfl ?_
  refine x_iconst (0) (q := 1) dX12_layBlocked_0 rfl (by decide) ?_
  refine x_istore_n (L2 := [some (.ref 100), some (.int 0), none]) (q := 2) dX12_layBlocked_1 rfl (by decide) rfl rfl ?_
  have q := l_lyb0 hb r J h 73 0 none rfl
  rw [flI_0] at q
  exact q
