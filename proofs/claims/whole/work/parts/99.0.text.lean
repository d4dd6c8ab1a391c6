/-! constructors -/
def Hl (h : AH) (a : Nat) : List AC → Prop
  | [] => True
  | c :: l => h a = c ∧ Hl h (a + 1) l
def PN (h : AH) (a n2 : Nat) (l : List AC) : Option Value → Nat → AH → Prop := fun v n' h' => v = none ∧ n' = n2 ∧ (∀ i, i < a → h' i = h i) ∧ Hl h' a l
def RnW (x : Option Value) (n : Nat) (h : AH) : Option Value → Nat → AH → Prop := fun v n' h' => v = x ∧ n' = n ∧ h' = h
abbrev MJ0_checkIndex_df160 : MX := (cJ0_checkIndex_df160, RJ0, 2, none, { frames := 1, cells := 0, slots := 0, locals := 22 }, false)
theorem okJ0_checkIndex_df160 : MOkS yJ0_checkIndex_df160 MJ0_checkIndex_df160 2 := ⟨⟨tw_303, tw_87, by decide +kernel, by decide +kernel, by decide +kernel⟩, tw_302⟩
theorem dJ0_checkIndex_df160_0 : decode cJ0_checkIndex_df160 0 = .ok (.iload_n 0, 1) := by decide +kernel
theorem dJ0_checkIndex_df160_1 : decode cJ0_checkIndex_df160 1 = .ok (.iload_n 1, 1) := by decide +kernel
theorem dJ0_checkIndex_df160_2 : decode cJ0_checkIndex_df160 2 = .ok (.getstatic 1053, 3) := by decide +kernel
theorem dJ0_checkIndex_df160_5 : decode cJ0_checkIndex_df160 5 = .ok (.invokestatic 1059, 3) := by decide +kernel
theorem dJ0_checkIndex_df160_8 : decode cJ0_checkIndex_df160 8 = .ok (.pop, 1) := by decide +kernel
theorem dJ0_checkIndex_df160_9 : decode cJ0_checkIndex_df160 9 = .ok (.return_, 1) := by decide +kernel
abbrev MJ3_checkIndex_8e157 : MX := (cJ3_checkIndex_8e157, RJ3, 3, (some .int), { frames := 0, cells := 0, slots := 0, locals := 0 }, false)
theorem okJ3_checkIndex_8e157 : MOkS yJ3_checkIndex_8e157 MJ3_checkIndex_8e157 3 := ⟨⟨tw_308, tw_89, by decide +kernel, by decide +kernel, by decide +kernel⟩, tw_307⟩
theorem dJ3_checkIndex_8e157_0 : decode cJ3_checkIndex_8e157 0 = .ok (.iload_n 0, 1) := by decide +kernel
theorem dJ3_checkIndex_8e157_1 : decode cJ3_checkIndex_8e157 1 = .ok (.ifCond .lt 8, 3) := by decide +kernel
theorem dJ3_checkIndex_8e157_4 : decode cJ3_checkIndex_8e157 4 = .ok (.iload_n 0, 1) := by decide +kernel
theorem dJ3_checkIndex_8e157_5 : decode cJ3_checkIndex_8e157 5 = .ok (.iload_n 1, 1) := by decide +kernel
theorem dJ3_checkIndex_8e157_6 : decode cJ3_checkIndex_8e157 6 = .ok (.if_icmp .lt 10, 3) := by decide +kernel
theorem dJ3_checkIndex_8e157_16 : decode cJ3_checkIndex_8e157 16 = .ok (.iload_n 0, 1) := by decide +kernel
theorem dJ3_checkIndex_8e157_17 : decode cJ3_checkIndex_8e157 17 = .ok (.ireturn, 1) := by decide +kernel
set_option maxRecDepth 100000 in
theorem c_coder (n : Nat) (h : AH) : Ct yJ0_coder_7d493 MJ0_coder_7d493 [.ref 1000002] n h (RnW (some (.int 0)) n h) := by
  refine ct_of [some (.ref 1000002)] 0 (by decide +kernel) rfl (fun q_ => by cases q_) (Nat.le_of_ble_eq_true rfl) rfl ?_
  refine x_getCS (q := 3) dJ0_coder_7d493_0 rfl tw_288 ?_
  refine x_if_eq (t := 13) (q := 6) dJ0_coder_7d493_3 (by decide) rfl (fun c_ => absurd c_ (by decide)) (fun _ => ?_)
  refine x_aload_n (q := 7) dJ0_coder_7d493_6 rfl rfl ?_
  refine x_gfC (q := 10) dJ0_coder_7d493_7 rfl tw_1650 ?_
  refine x_goto (t := 14) dJ0_coder_7d493_10 (by decide) ?_
  exact x_zret dJ0_coder_7d493_14 rfl rfl (Nat.zero_le _) (Nat.zero_le _) ⟨rfl, rfl, rfl⟩
set_option maxRecDepth 100000 in
theorem c_lat1 (n : Nat) (h : AH) : Ct yJ0_isLatin1_aae02 MJ0_isLatin1_aae02 [.ref 1000002] n h (RnW (some (.int 1)) n h) := by
  refine ct_of [some (.ref 1000002)] 0 (by decide +kernel) rfl (fun q_ => by cases q_) (Nat.le_of_ble_eq_true rfl) rfl ?_
  refine x_getCS (q := 3) dJ0_isLatin1_aae02_0 rfl tw_288 ?_
  refine x_if_eq (t := 17) (q := 6) dJ0_isLatin1_aae02_3 (by decide) rfl (fun c_ => absurd c_ (by decide)) (fun _ => ?_)
  refine x_aload_n (q := 7) dJ0_isLatin1_aae02_6 rfl rfl ?_
  refine x_gfC (q := 10) dJ0_isLatin1_aae02_7 rfl tw_1650 ?_
  refine x_if_ne (t := 17) (q := 13) dJ0_isLatin1_aae02_10 (by decide) rfl (fun c_ => absurd rfl c_) (fun _ => ?_)
  refine x_iconst (1) (q := 14) dJ0_isLatin1_aae02_13 rfl (by decide) ?_
  refine x_goto (t := 18) dJ0_isLatin1_aae02_14 (by decide) ?_
  exact x_zret dJ0_isLatin1_aae02_18 rfl rfl (Nat.zero_le _) (Nat.zero_le _) ⟨rfl, rfl, rfl⟩
set_option maxRecDepth 100000 in
theorem c_len (n : Nat) (h : AH) : Ct yJ0_length_8abf5 MJ0_length_8abf5 [.ref 1000002] n h (RnW (some (.int 110)) n h) := by
  refine ct_of [some (.ref 1000002)] 0 (by decide +kernel) rfl (fun q_ => by cases q_) (Nat.le_of_ble_eq_true rfl) rfl ?_
  refine x_aload_n (q := 1) dJ0_length_8abf5_0 rfl rfl ?_
  refine x_gfV (q := 4) dJ0_length_8abf5_1 rfl tw_1649 ?_
  refine x_alenT (q := 5) dJ0_length_8abf5_4 rfl ?_
  refine x_aload_n (q := 6) dJ0_length_8abf5_5 rfl rfl ?_
  refine x_callT (As := []) (rest := [.int 110]) (q := 9) dJ0_length_8abf5_6 rfl okJ0_coder_7d493 tw_284 rfl (c_coder n h) rfl rfl (by decide) ⟨by decide, by decide⟩ ⟨by decide, by decide⟩ (fun rv_ n_ h_ hv_ => ?_)
  obtain ⟨a1_, a2_, a3_⟩ := hv_
  rw [a1_, a2_, a3_]
  refine x_ishr (q := 10) dJ0_length_8abf5_9 rfl ?_
  exact x_iret dJ0_length_8abf5_10 rfl (Nat.zero_le _) (Nat.zero_le _) ⟨by decide, rfl, rfl⟩
set_option maxRecDepth 100000 in
theorem c_chk3 (n : Nat) (h : AH) {i : Nat} (hi : i < 110) {v : Value} (hv : v = .null ∨ v = .ref 1000004) : Ct yJ3_checkIndex_8e157 MJ3_checkIndex_8e157 [.int (nI i), .int 110, v] n h (RnW (some (.int (nI i))) n h) := by
  refine ct_of [some (.int (nI i)), some (.int 110), some v] 0 (by decide +kernel) rfl (fun q_ => by cases q_) (by rcases hv with rfl | rfl <;> exact Nat.le_of_ble_eq_true rfl) (by rcases hv with rfl | rfl <;> rfl) ?_
  refine x_iload_n (q := 1) dJ3_checkIndex_8e157_0 rfl rfl ?_
  refine x_if_lt (t := 9) (q := 4) dJ3_checkIndex_8e157_1 (by decide) rfl (fun c_ => absurd ((nI_ltI (a := i) (b := 0) (by omega) (by decide)).mp c_) (by omega)) (fun _ => ?_)
  refine x_iload_n (q := 5) dJ3_checkIndex_8e157_4 rfl rfl ?_
  refine x_iload_n (q := 6) dJ3_checkIndex_8e157_5 rfl rfl ?_
  refine x_icmp_lt (t := 16) (q := 9) dJ3_checkIndex_8e157_6 (by decide) rfl (fun _ => ?_) (fun c_ => absurd (nI_lt (b := 110) hi (by decide)) c_)
  refine x_iload_n (q := 17) dJ3_checkIndex_8e157_16 rfl rfl ?_
  exact x_iret dJ3_checkIndex_8e157_17 rfl (Nat.zero_le _) (Nat.zero_le _) ⟨rfl, rfl, rfl⟩
set_option maxRecDepth 100000 in
theorem c_chk0 (n : Nat) (h : AH) {i : Nat} (hi : i < 110) : Ct yJ0_checkIndex_df160 MJ0_checkIndex_df160 [.int (nI i), .int 110] n h (RnW none n h) := by
  refine ct_of [some (.int (nI i)), some (.int 110)] 0 (by decide +kernel) rfl (fun q_ => by cases q_) (Nat.le_of_ble_eq_true rfl) rfl ?_
  refine x_iload_n (q := 1) dJ0_checkIndex_df160_0 rfl rfl ?_
  refine x_iload_n (q := 2) dJ0_checkIndex_df160_1 rfl rfl ?_
  refine x_getSF (q := 5) dJ0_checkIndex_df160_2 rfl tw_304 (fun sv hsv => ?_)
  refine x_callS (As := [.int (nI i), .int 110, sv]) (rest := []) (q := 8) dJ0_checkIndex_df160_5 rfl okJ3_checkIndex_8e157 tw_306 (c_chk3 n h hi hsv) rfl rfl (by decide) ⟨by decide, by decide⟩ ⟨by decide, by decide⟩ (fun rv_ n_ h_ hv_ => ?_)
  obtain ⟨a1_, a2_, a3_⟩ := hv_
  rw [a1_, a2_, a3_]
  refine x_pop1 (q := 9) dJ0_checkIndex_df160_8 rfl rfl ?_
  exact x_vret dJ0_checkIndex_df160_9 rfl (Nat.zero_le _) (Nat.zero_le _) ⟨rfl, rfl, rfl⟩
theorem kwb_c : ∀ i, i < 110 → ((KWb.getD i 0 &&& 255).toUInt32 % 65536).toInt32 = KWb.getD i 0 ∧ narrow .char (.int (KWb.getD i 0)) = .int (KWb.getD i 0) := by decide +kernel
set_option maxRecDepth 100000 in
theorem c_chr1 (n : Nat) (h : AH) {i : Nat} (hi : i < 110) : Ct yJ1_charAt_3b067 MJ1_charAt_3b067 [.ref 1000003, .int (nI i)] n h (RnW (some (.int (KWb.getD i 0))) n h) := by
  have kc := kwb_c i hi
  refine ct_of [some (.ref 1000003), some (.int (nI i))] 0 (by decide +kernel) rfl (fun q_ => by cases q_) (Nat.le_of_ble_eq_true rfl) rfl ?_
  refine x_iload_n (q := 1) dJ1_charAt_3b067_0 rfl rfl ?_
  refine x_aload_n (q := 2) dJ1_charAt_3b067_1 rfl rfl ?_
  refine x_alenT (q := 3) dJ1_charAt_3b067_2 rfl ?_
  refine x_callS (As := [.int (nI i), .int 110]) (rest := []) (q := 6) dJ1_charAt_3b067_3 rfl okJ0_checkIndex_df160 tw_301 (c_chk0 n h hi) rfl rfl (by decide) ⟨by decide, by decide⟩ ⟨by decide, by decide⟩ (fun rv_ n_ h_ hv_ => ?_)
  obtain ⟨a1_, a2_, a3_⟩ := hv_
  rw [a1_, a2_, a3_]
  refine x_aload_n (q := 7) dJ1_charAt_3b067_6 rfl rfl ?_
  refine x_iload_n (q := 8) dJ1_charAt_3b067_7 rfl rfl ?_
  refine x_baldT (q := 9) dJ1_charAt_3b067_8 rfl (vp_in_nI hi (by decide)) ?_
  rw [nI_clamp (by omega)]
  refine x_sipush (255) (q := 12) dJ1_charAt_3b067_9 rfl (by decide) ?_
  refine x_iand (q := 13) dJ1_charAt_3b067_12 rfl ?_
  refine x_i2c (q := 14) dJ1_charAt_3b067_13 rfl ?_
  rw [kc.1]
  exact x_zret dJ1_charAt_3b067_14 rfl kc.2 (Nat.zero_le _) (Nat.zero_le _) ⟨rfl, rfl, rfl⟩
set_option maxRecDepth 100000 in
theorem c_chr0 (n : Nat) (h : AH) {i : Nat} (hi : i < 110) : Ct yJ0_charAt_5068e MJ0_charAt_5068e [.ref 1000002, .int (nI i)] n h (RnW (some (.int (KWb.getD i 0))) n h) := by
  have kc := kwb_c i hi
  refine ct_of [some (.ref 1000002), some (.int (nI i))] 0 (by decide +kernel) rfl (fun q_ => by cases q_) (Nat.le_of_ble_eq_true rfl) rfl ?_
  refine x_aload_n (q := 1) dJ0_charAt_5068e_0 rfl rfl ?_
  refine x_callT (As := []) (rest := []) (q := 4) dJ0_charAt_5068e_1 rfl okJ0_isLatin1_aae02 tw_294 rfl (c_lat1 n h) rfl rfl (by decide) ⟨by decide, by decide⟩ ⟨by decide, by decide⟩ (fun rv_ n_ h_ hv_ => ?_)
  obtain ⟨a1_, a2_, a3_⟩ := hv_
  rw [a1_, a2_, a3_]
  refine x_if_eq (t := 16) (q := 7) dJ0_charAt_5068e_4 (by decide) rfl (fun c_ => absurd c_ (by decide)) (fun _ => ?_)
  refine x_aload_n (q := 8) dJ0_charAt_5068e_7 rfl rfl ?_
  refine x_gfV (q := 11) dJ0_charAt_5068e_8 rfl tw_1649 ?_
  refine x_iload_n (q := 12) dJ0_charAt_5068e_11 rfl rfl ?_
  refine x_callS (As := [.ref 1000003, .int (nI i)]) (rest := []) (q := 15) dJ0_charAt_5068e_12 rfl okJ1_charAt_3b067 tw_298 (c_chr1 n h hi) rfl rfl (by decide) ⟨by decide, by decide⟩ ⟨by decide, by decide⟩ (fun rv_ n_ h_ hv_ => ?_)
  obtain ⟨a1_, a2_, a3_⟩ := hv_
  rw [a1_, a2_, a3_]
  exact x_zret dJ0_charAt_5068e_15 rfl kc.2 (Nat.zero_le _) (Nat.zero_le _) ⟨rfl, rfl, rfl⟩
