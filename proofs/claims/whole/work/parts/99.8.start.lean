def IT : List (List Int32) := [[0, 0, 0, 0, 0, 0, 0, 0, 0, 0, 0, 0, 0, 0], [], [0, 0, 0, 0, 0, 0, 0, 0, 0, 0, 0, 0, 0, 0, 0, (-1), 999, 0], [], [], [], [], [], [], [], [], [], [0, 0, 0, 0, 0, 0], [], [0, 0, 0, 0, 0, 0], [], [0, 0, 0, 0, 0, 0], [], [0, 0, 0, 0, 0, 0], [], [0, 0, 0, 0, 0, 0], [], [0, 0, 0, 0, 0, 0], [], [0, 0, 0, 0, 0, 0], [], [0, 0, 0, 0, 0, 0], [], [0, 0, 0, 0, 0, 0, 0, 0, 0, 0, 0, 0, 0, 0, 0, (-1), 999, 0], [], [], [], [], [], [], [], [], [], [0, 0, 0, 0, 0, 0], [], [0, 0, 0, 0, 0, 0], [], [0, 0, 0, 0, 0, 0], [], [0, 0, 0, 0, 0, 0], [], [0, 0, 0, 0, 0, 0], [], [0, 0, 0, 0, 0, 0], [], [0, 0, 0, 0, 0, 0], [], [0, 0, 0, 0, 0, 0], [], [0, 0, 0, (-1), 0], [0, 0, 0, 0, 0, 0, 0, 0, (-1)], [], [], [0, 0, 0, 0, 999], [], [0, 0, 0, 0, 0], [], [0, 0, 0, 0, 0], [], [0, 0, 0, 0, 0], [], [0, 0, 0, 0, 0], [], [0, 0, 0, 0, 0], [], [0, 0, 0, 0, 0], [], [0, 0, 0, 0, 0], [], [0, 0, 0, 0, 0], [], [0], [0, 0, 0, 0, 0], [], [0, 0, (-1), 0], [0, 0, 0, 0, 0, 0, 0], [], [], [], [], [0, 0], [], [], [0, 0, 0, 0, 0, 0, (-1), (-1), (-1)], [], [], [], [0, 0, 0, 0, 0], [], [], [], [], [], [], [], [0, 0, 0, (-1), 0, 0, 0, 0, 0, 0, 0, 0, 0, 0, 0, 0, 0, 0, 0, 0, 0, 0, 0, 0, 0, 0, 0, 0, 0, 0, 0, 0, 0, 0, 0, 0, 0, 0, 0, 0, 0, 0, 0, 0, 0, 0, 0, (-1), 0, 0, 0, 0, 0, 0, 0, 0, 0, 999, 0, 0, 0, 0, 0, 0, 0, 0, 0, 0, 0, 0, 0, 0, 0, 0, 0, 0, 0, 0, 0], [], [], [], [], [], [], [], [], [], [], [], [], [], [], [], [], [], [], [], [], [], [], [], [], [], [], [], [], [], [], [], [], [], [], [], [], [], [], [], [], [], [], [], [], []]
def I0 : MI := fun a K => (IT.getD a []).getD K 0
def r0 : MR := fun k => [2, 28, 28, 2, 57].getD k 0
def J0 : MJ := fun a K => if a = 56 then (kS 110).2.2 K else 0
theorem upd0 {j : Nat} : upd (fun _ => (0 : Int32)) j 0 = fun _ => 0 := by
  funext i
  unfold upd
  by_cases e : i = j
  · rw [if_pos e]
  · rw [if_neg e]
theorem kS_end : ∀ k, k < 20 → (kS 110).2.2 k = KWl.getD k 0 := by decide +kernel
set_option maxRecDepth 100000 in
theorem ra3 : RR r0 3 = va_up (va_up (va_up (va_up (va_up (va_up (va_up (va_up (fun _ => none) (0 : Int32).toNatClampNeg (some (12))) (1 : Int32).toNatClampNeg (some (14))) (2 : Int32).toNatClampNeg (some (16))) (3 : Int32).toNatClampNeg (some (18))) (4 : Int32).toNatClampNeg (some (20))) (5 : Int32).toNatClampNeg (some (22))) (6 : Int32).toNatClampNeg (some (24))) (7 : Int32).toNatClampNeg (some (26)) := by
  funext j
  by_cases h0 : j = 0
  · subst h0; rfl
  by_cases h1 : j = 1
  · subst h1; rfl
  by_cases h2 : j = 2
  · subst h2; rfl
  by_cases h3 : j = 3
  · subst h3; rfl
  by_cases h4 : j = 4
  · subst h4; rfl
  by_cases h5 : j = 5
  · subst h5; rfl
  by_cases h6 : j = 6
  · subst h6; rfl
  by_cases h7 : j = 7
  · subst h7; rfl
  obtain ⟨k, rfl⟩ : ∃ k, j = k + 8 := ⟨j - 8, by omega⟩
  show (none : Option Nat) = _
  unfold va_up
  rw [if_neg (show ¬ k + 8 = (7 : Int32).toNatClampNeg from h7), if_neg (show ¬ k + 8 = (6 : Int32).toNatClampNeg from h6), if_neg (show ¬ k + 8 = (5 : Int32).toNatClampNeg from h5), if_neg (show ¬ k + 8 = (4 : Int32).toNatClampNeg from h4), if_neg (show ¬ k + 8 = (3 : Int32).toNatClampNeg from h3), if_neg (show ¬ k + 8 = (2 : Int32).toNatClampNeg from h2), if_neg (show ¬ k + 8 = (1 : Int32).toNatClampNeg from h1), if_neg (show ¬ k + 8 = (0 : Int32).toNatClampNeg from h0)]
set_option maxRecDepth 100000 in
theorem ra29 : RR r0 29 = va_up (va_up (va_up (va_up (va_up (va_up (va_up (va_up (fun _ => none) (0 : Int32).toNatClampNeg (some (38))) (1 : Int32).toNatClampNeg (some (40))) (2 : Int32).toNatClampNeg (some (42))) (3 : Int32).toNatClampNeg (some (44))) (4 : Int32).toNatClampNeg (some (46))) (5 : Int32).toNatClampNeg (some (48))) (6 : Int32).toNatClampNeg (some (50))) (7 : Int32).toNatClampNeg (some (52)) := by
  funext j
  by_cases h0 : j = 0
  · subst h0; rfl
  by_cases h1 : j = 1
  · subst h1; rfl
  by_cases h2 : j = 2
  · subst h2; rfl
  by_cases h3 : j = 3
  · subst h3; rfl
  by_cases h4 : j = 4
  · subst h4; rfl
  by_cases h5 : j = 5
  · subst h5; rfl
  by_cases h6 : j = 6
  · subst h6; rfl
  by_cases h7 : j = 7
  · subst h7; rfl
  obtain ⟨k, rfl⟩ : ∃ k, j = k + 8 := ⟨j - 8, by omega⟩
  show (none : Option Nat) = _
  unfold va_up
  rw [if_neg (show ¬ k + 8 = (7 : Int32).toNatClampNeg from h7), if_neg (show ¬ k + 8 = (6 : Int32).toNatClampNeg from h6), if_neg (show ¬ k + 8 = (5 : Int32).toNatClampNeg from h5), if_neg (show ¬ k + 8 = (4 : Int32).toNatClampNeg from h4), if_neg (show ¬ k + 8 = (3 : Int32).toNatClampNeg from h3), if_neg (show ¬ k + 8 = (2 : Int32).toNatClampNeg from h2), if_neg (show ¬ k + 8 = (1 : Int32).toNatClampNeg from h1), if_neg (show ¬ k + 8 = (0 : Int32).toNatClampNeg from h0)]
set_option maxRecDepth 100000 in
theorem ra59 : RR r0 59 = va_up (va_up (va_up (va_up (va_up (va_up (va_up (va_up (fun _ => none) (0 : Int32).toNatClampNeg (some (60))) (1 : Int32).toNatClampNeg (some (62))) (2 : Int32).toNatClampNeg (some (64))) (3 : Int32).toNatClampNeg (some (66))) (4 : Int32).toNatClampNeg (some (68))) (5 : Int32).toNatClampNeg (some (70))) (6 : Int32).toNatClampNeg (some (72))) (7 : Int32).toNatClampNeg (some (74)) := by
  funext j
  by_cases h0 : j = 0
  · subst h0; rfl
  by_cases h1 : j = 1
  · subst h1; rfl
  by_cases h2 : j = 2
  · subst h2; rfl
  by_cases h3 : j = 3
  · subst h3; rfl
  by_cases h4 : j = 4
  · subst h4; rfl
  by_cases h5 : j = 5
  · subst h5; rfl
  by_cases h6 : j = 6
  · subst h6; rfl
  by_cases h7 : j = 7
  · subst h7; rfl
  obtain ⟨k, rfl⟩ : ∃ k, j = k + 8 := ⟨j - 8, by omega⟩
  show (none : Option Nat) = _
  unfold va_up
  rw [if_neg (show ¬ k + 8 = (7 : Int32).toNatClampNeg from h7), if_neg (show ¬ k + 8 = (6 : Int32).toNatClampNeg from h6), if_neg (show ¬ k + 8 = (5 : Int32).toNatClampNeg from h5), if_neg (show ¬ k + 8 = (4 : Int32).toNatClampNeg from h4), if_neg (show ¬ k + 8 = (3 : Int32).toNatClampNeg from h3), if_neg (show ¬ k + 8 = (2 : Int32).toNatClampNeg from h2), if_neg (show ¬ k + 8 = (1 : Int32).toNatClampNeg from h1), if_neg (show ¬ k + 8 = (0 : Int32).toNatClampNeg from h0)]
set_option maxRecDepth 100000 in
theorem ra95 : RR r0 95 = mnF 95 := by
  funext j
  by_cases h0 : j = 0
  · subst h0; rfl
  by_cases h1 : j = 1
  · subst h1; rfl
  by_cases h2 : j = 2
  · subst h2; rfl
  obtain ⟨k, rfl⟩ : ∃ k, j = k + 3 := ⟨j - 3, by omega⟩
  show (none : Option Nat) = _
  unfold mnF
  rw [if_neg (by omega)]
set_option maxRecDepth 1000000 in
set_option maxHeartbeats 4000000 in
theorem hlA : Hl (hp I0 r0 J0) 0 lcA := ⟨rfl, rfl, rfl, (congrArg (cR 4 8) ra3), rfl, rfl, rfl, (by rw [upd0]; rfl), (by rw [upd0]; rfl), (by rw [upd0]; rfl), rfl, rfl, rfl, rfl, rfl, rfl, rfl, rfl, rfl, rfl, rfl, rfl, rfl, rfl, rfl, rfl, rfl, rfl, rfl, (congrArg (cR 4 8) ra29), rfl, rfl, rfl, (by rw [upd0]; rfl), (by rw [upd0]; rfl), (by rw [upd0]; rfl), rfl, rfl, rfl, rfl, rfl, rfl, rfl, rfl, rfl, rfl, rfl, rfl, rfl, rfl, rfl, rfl, rfl, rfl, rfl, rfl, rfl, rfl, rfl, (congrArg (cR 5 8) ra59), rfl, rfl, rfl, rfl, rfl, rfl, rfl, rfl, rfl, rfl, rfl, rfl, rfl, rfl, rfl, rfl, rfl, rfl, rfl, rfl, rfl, rfl, rfl, rfl, rfl, rfl, rfl, rfl, rfl, rfl, rfl, rfl, rfl, rfl, rfl, (congrArg (cR 6 3) ra95), rfl, rfl, rfl, rfl, trivial⟩
set_option maxRecDepth 1000000 in
set_option maxHeartbeats 4000000 in
theorem hlB : Hl (hp I0 r0 J0) 100 lcB := ⟨rfl, rfl, rfl, rfl, rfl, rfl, rfl, rfl, rfl, rfl, rfl, rfl, rfl, rfl, rfl, rfl, rfl, rfl, rfl, rfl, rfl, rfl, rfl, rfl, rfl, rfl, rfl, rfl, rfl, rfl, rfl, rfl, rfl, rfl, rfl, rfl, rfl, rfl, rfl, rfl, rfl, rfl, rfl, rfl, rfl, rfl, trivial⟩
theorem Hl_u {h h' : AH} : ∀ (l : List AC) (a : Nat), Hl h a l → Hl h' a l → ∀ j, j < l.length → h (a + j) = h' (a + j) := by
  intro l
  induction l with
  | nil => intro a _ _ j hj; exact absurd hj (Nat.not_lt_zero _)
  | cons c l ih =>
    intro a h1 h2 j hj
    cases j with
    | zero => exact h1.1.trans h2.1.symm
    | succ j =>
      have q := ih (a + 1) h1.2 h2.2 j (Nat.lt_of_succ_lt_succ hj)
      rw [show a + (j + 1) = a + 1 + j by omega]
      exact q
theorem wd_ext {N0 : Nat} {xa : Nat → Nat} {ca : Nat → ClassId} {n : Nat} {h h' : AH} (e : ∀ i, i < n → h i = h' i) : wd N0 xa ca n h = wd N0 xa ca n h' := by
  unfold wd
  apply List.map_congr_left
  intro i hi
  rw [e i (List.mem_range.mp hi)]
theorem Wl_ext {b Ln : Nat} {xs : Nat → Int32} {pc n k z : Nat} {L : List (Option Value)} {S : List Value} {h h' : AH} (e : ∀ i, i < n → h i = h' i) (kk : Wl b Ln xs pc L S n h' k z) : Wl b Ln xs pc L S n h k z := by
  intro p l e2 s m below meth c D ca xa C H locs ls hn hz hP hS hl
  rw [wd_ext e] at hP
  exact kk p l e2 s m below meth c D ca xa C H locs ls hn hz hP hS hl
theorem rel0 : Rel I0 r0 J0 := by
  refine ⟨2, 0, 0, 0, 0, 0, ⟨rfl, rfl, Or.inl ⟨rfl, rfl⟩⟩, ⟨⟨rfl, rfl, by decide, rfl, by decide, fun y h => absurd h (by omega), fun h hh => absurd hh (by omega), fun _ => ⟨rfl, rfl, rfl⟩⟩, ⟨rfl, by decide, rfl, by decide, fun y h => absurd h (by omega), fun y h => absurd h (by omega), ⟨by decide +kernel, by decide +kernel⟩, ⟨by decide +kernel, by decide +kernel⟩, Or.inl rfl⟩, ⟨rfl, rfl, fun y h => absurd h (by omega), fun y h => absurd h (by omega)⟩, ⟨rfl, rfl, rfl, rfl, rfl, fun y h => absurd h (by omega), fun y h => absurd h (by omega), fun a c _ _ hne => absurd rfl hne⟩, ⟨rfl, rfl, by decide, rfl, ⟨by decide +kernel, by decide +kernel⟩, rfl, ⟨by decide +kernel, by decide +kernel⟩, fun y h => absurd h (by omega)⟩, ⟨0, by decide, rfl, rfl, fun y h => absurd h (by omega)⟩, fun k _ => ⟨rfl, Or.inl rfl, fun h => absurd (show (0 : Int32) = 1 from h) (by decide)⟩⟩, ⟨⟨0, by decide, rfl, rfl, fun y h => absurd h (by omega)⟩, ⟨rfl, rfl⟩, ⟨rfl, by decide +kernel, by decide +kernel⟩, 0, by decide, rfl, rfl, fun y h => absurd h (by omega)⟩, fun k hk => kS_end k hk⟩
set_option maxRecDepth 1000000 in
set_option maxHeartbeats 4000000 in
theorem law_start {b Ln : Nat} {xs : Nat → Int32} (hL : Ln ≤ 3072) (h : AH) : Wl b Ln xs 0 [some (.ref 1000005), none, none, none] [] 0 h 0 0 := by
  refine y_new (fs := [.null, .int 0, .null, .null, .null, .null, .null, .null, .null, .null, .null, .int 0, .null, .null]) (n2 := 1) (q := 3) dL_law_0 rfl cl_11 tw_103 tw_104 tw_82 (by decide) (fun _ => rfl) rfl (by decide) (by decide) (by decide) (fun h1 e1 o1 => ?_)
  refine y_dup (q := 4) dL_law_3 rfl rfl ?_
  refine y_callI (a := 0) (As := []) (rest := [.ref 0]) (q := 7) dL_law_4 rfl okX11_init tw_105 (ci_X11 e1) (by decide) rfl rfl (Nat.le_of_ble_eq_true rfl) ⟨by decide, by decide⟩ ⟨by decide, by decide⟩ (fun rv_ n_ h2 hv_ => ?_)
  obtain ⟨a1_, a2_, o2, l2⟩ := hv_
  rw [a1_, a2_]
  show Wl b Ln xs 7 [some (.ref 1000005), none, none, none] [.ref 0] 100 h2 _ _
  refine y_astore_n (L2 := [some (.ref 1000005), some (.ref 0), none, none]) (q := 8) dL_law_7 rfl (by decide) rfl rfl ?_
  refine y_new (fs := [.null, .int 0, .int 0, .int 0, .int 0, .int 0, .int 0, .int 0, .int 0, .long 0, .null, .null, .null, .null, .null, .null, .null, .null, .null, .null, .null, .null, .null, .null, .null, .null, .null, .null, .null, .null, .null, .null, .null, .int 0, .int 0, .int 0, .int 0, .int 0, .int 0, .int 0, .int 0, .int 0, .int 0, .int 0, .int 0, .int 0, .int 0, .int 0, .null, .int 0, .int 0, .int 0, .int 0, .null, .null, .int 0, .int 0, .int 0, .null, .null, .null, .int 0, .null, .null, .null, .null, .null, .null, .null, .null, .null, .null, .int 0, .int 0, .null, .null, .null, .null, .null]) (n2 := 101) (q := 11) dL_law_8 rfl cl_12 tw_1076 tw_1077 tw_98 (by decide) (fun _ => rfl) rfl (by decide) (by decide) (by decide) (fun h3 e3 o3 => ?_)
  refine y_dup (q := 12) dL_law_11 rfl rfl ?_
  refine y_callI (a := 100) (As := []) (rest := [.ref 100]) (q := 15) dL_law_12 rfl okX12_init tw_1078 (ci_X12 e3) (by decide) rfl rfl (Nat.le_of_ble_eq_true rfl) ⟨by decide, by decide⟩ ⟨by decide, by decide⟩ (fun rv_ n_ h4 hv_ => ?_)
  obtain ⟨b1_, b2_, o4, l4⟩ := hv_
  rw [b1_, b2_]
  show Wl b Ln xs 15 [some (.ref 1000005), some (.ref 0), none, none] [.ref 100] 146 h4 _ _
  refine y_astore_n (L2 := [some (.ref 1000005), some (.ref 0), some (.ref 100), none]) (q := 16) dL_law_15 rfl (by decide) rfl rfl ?_
  refine y_iconst (0) (q := 17) dL_law_16 rfl (by decide) ?_
  refine y_istore_n (L2 := [some (.ref 1000005), some (.ref 0), some (.ref 100), some (.int 0)]) (q := 18) dL_law_17 rfl (by decide) rfl rfl ?_
  have eh : ∀ i, i < 146 → h4 i = hp I0 r0 J0 i := fun i hi => by
    by_cases hl : i < 100
    · rw [o4 i hl, o3 i (by omega)]
      have q := Hl_u lcA 0 l2 hlA i (by show i < 100; exact hl)
      rw [Nat.zero_add] at q
      exact q
    · have q := Hl_u lcB 100 l4 hlB (i - 100) (by show i - 100 < 46; omega)
      rw [show 100 + (i - 100) = i by omega] at q
      exact q
  refine Wl_ext eh ?_
  exact law_loop hL (by decide) (by decide) (Ln + 1) 0 I0 r0 J0 (by decide) (by omega) rel0
