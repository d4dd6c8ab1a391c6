section NM
variable {M : MX} {pc n k z : Nat} {L : List (Option Value)} {S : List Value} {h : AH} {post : Option Value → Nat → AH → Prop}
theorem x_nmi {x : Int32} (kk : ∀ y : Int32, y = x → Wp M pc L (.int y :: S) n h k z post) : Wp M pc L (.int x :: S) n h k z post := kk x rfl
theorem x_nml {x : Int64} (kk : ∀ y : Int64, y = x → Wp M pc L (.long y :: S) n h k z post) : Wp M pc L (.long x :: S) n h k z post := kk x rfl
end NM
theorem mm_min_s : Cond.static Lib.Math.min.name ∈ TBg := tw_637
theorem mm_max_s : Cond.static Lib.Math.max.name ∈ TBg := tw_779
theorem mm_abs_s : Cond.static Lib.Math.abs.name ∈ TBg := tw_1010
theorem mm_i : Cond.initialized "java/lang/Math" ∈ TBg := tw_99
theorem mm_min_c : Cond.code Lib.Math.min.name Lib.Math.min.code 2 (some .int) ∈ TBg := tw_638
theorem mm_max_c : Cond.code Lib.Math.max.name Lib.Math.max.code 2 (some .int) ∈ TBg := tw_780
theorem mm_abs_c : Cond.code Lib.Math.abs.name Lib.Math.abs.code 1 (some .int) ∈ TBg := tw_1011
theorem RR_up0 (r : MR) (b : Nat) : ∀ c j, RR (upR r 0 b) c j = if c = 0 ∧ j = 2 then some b else RR r c j := by
  intro c j
  by_cases h : c = 0 ∧ j = 2
  · obtain ⟨rfl, rfl⟩ := h
    rfl
  · rw [if_neg h]
    unfold RR
    simp only [upR]
    repeat' split
    all_goals first | rfl | (exfalso; apply h; assumption) | (simp_all; done)
theorem RR_up1 (r : MR) (b : Nat) : ∀ c j, RR (upR r 1 b) c j = if c = 0 ∧ j = 3 then some b else RR r c j := by
  intro c j
  by_cases h : c = 0 ∧ j = 3
  · obtain ⟨rfl, rfl⟩ := h
    rfl
  · rw [if_neg h]
    unfold RR
    simp only [upR]
    repeat' split
    all_goals first | rfl | (exfalso; apply h; assumption) | (simp_all; done)
theorem RR_up2 (r : MR) (b : Nat) : ∀ c j, RR (upR r 2 b) c j = if c = 54 ∧ j = 1 then some b else RR r c j := by
  intro c j
  by_cases h : c = 54 ∧ j = 1
  · obtain ⟨rfl, rfl⟩ := h
    rfl
  · rw [if_neg h]
    unfold RR
    simp only [upR]
    repeat' split
    all_goals first | rfl | (exfalso; apply h; assumption) | (simp_all; done)
theorem RR_up3 (r : MR) (b : Nat) : ∀ c j, RR (upR r 3 b) c j = if c = 58 ∧ j = 0 then some b else RR r c j := by
  intro c j
  by_cases h : c = 58 ∧ j = 0
  · obtain ⟨rfl, rfl⟩ := h
    rfl
  · rw [if_neg h]
    unfold RR
    simp only [upR]
    repeat' split
    all_goals first | rfl | (exfalso; apply h; assumption) | (simp_all; done)
theorem RR_up4 (r : MR) (b : Nat) : ∀ c j, RR (upR r 4 b) c j = if c = 55 ∧ j = 1 then some b else RR r c j := by
  intro c j
  by_cases h : c = 55 ∧ j = 1
  · obtain ⟨rfl, rfl⟩ := h
    rfl
  · rw [if_neg h]
    unfold RR
    simp only [upR]
    repeat' split
    all_goals first | rfl | (exfalso; apply h; assumption) | (simp_all; done)
theorem vin {i : Int32} {N : Nat} (h : ¬ (i < 0 ∨ N ≤ i.toNatClampNeg)) : vp_in i N := h
