theorem el_t : ∀ j, j < 4 → Cond.eq (.elem (.static "WhiteRoads$Ground" "TOP_PARTS" "[I") (.int (Int32.ofNat j))) (.int (TPf j)) ∈ flatC (Jvm.Cond.and given_1 narrow_1) := by decide +kernel
theorem el_w : ∀ j, j < 4 → Cond.eq (.elem (.static "WhiteRoads$Ground" "WATER_HELD" "[I") (.int (Int32.ofNat j))) (.int (WHf j)) ∈ flatC (Jvm.Cond.and given_1 narrow_1) := by decide +kernel
theorem el_s : ∀ j, j < 110 → Cond.eq (.elem (.field (.string "WhiteRoads$Lexer" 42) "java/lang/String" "value" "[B") (.int (Int32.ofNat j))) (.int (KWb.getD j 0)) ∈ flatC (Jvm.Cond.and given_1 narrow_1) := by decide +kernel
set_option maxRecDepth 1000000 in
set_option maxHeartbeats 4000000 in
theorem whole_start {p : Program} {e : Env} {s : State} {m : MethodId} {below : List Frame} {meth : Method} {c : Code} (l : Launch) {b L : Nat} {xs : Nat → Int32} (hL : L ≤ 3072) (C0 : lw_At p s m meth c b L xs) : W p l e room_1 s m #[Value.ref b] below meth c s.heap [] 0 0 (lw_Z below #[Value.ref b] s) (entryFrame m ([Value.ref b] : List Value).toArray 4) := by
  obtain ⟨hx, hb, hr, hml, hown, hts, hX, hbl, hlocks, hgv⟩ := id C0
  have hA : ∀ a : Nat, a < s.heap.size → ¬ (fun q : Nat => s.heap.size ≤ q) a := fun a h => Nat.not_le.mpr h
  have htb : ∀ w ∈ TBg, w.before #[Value.ref b] s = true := fun w hw => hts w (tb_sub w hw)
  obtain ⟨c0_, i0_, hk0⟩ := u_known (C := RX0) (T := TX0) (N := 2) (n := 2) htb in_X0 (htb _ tw_513)
  obtain ⟨c1_, i1_, hk1⟩ := u_known (C := RX1) (T := TX1) (N := 5) (n := 5) htb in_X1 (htb _ tw_384)
  obtain ⟨c2_, i2_, hk2⟩ := u_known (C := RX2) (T := TX2) (N := 9) (n := 9) htb in_X2 (htb _ tw_526)
  obtain ⟨c3_, i3_, hk3⟩ := u_known (C := RX3) (T := TX3) (N := 7) (n := 7) htb in_X3 (htb _ tw_481)
  obtain ⟨c4_, i4_, hk4⟩ := u_known (C := RX4) (T := TX4) (N := 5) (n := 5) htb in_X4 (htb _ tw_391)
  obtain ⟨c5_, i5_, hk5⟩ := u_known (C := RX5) (T := TX5) (N := 18) (n := 18) htb in_X5 (htb _ tw_112)
  obtain ⟨c6_, i6_, hk6⟩ := u_known (C := RX6) (T := TX6) (N := 9) (n := 9) htb in_X6 (htb _ tw_274)
  obtain ⟨c7_, i7_, hk7⟩ := u_known (C := RX7) (T := TX7) (N := 1) (n := 1) htb in_X7 (htb _ tw_448)
  obtain ⟨c8_, i8_, hk8⟩ := u_known (C := RX8) (T := TX8) (N := 5) (n := 5) htb in_X8 (htb _ tw_268)
  obtain ⟨c9_, i9_, hk9⟩ := u_known (C := RX9) (T := TX9) (N := 4) (n := 4) htb in_X9 (htb _ tw_460)
  obtain ⟨c10_, i10_, hk10⟩ := u_known (C := RX10) (T := TX10) (N := 6) (n := 6) htb in_X10 (htb _ tw_119)
  obtain ⟨c11_, i11_, hk11⟩ := u_known (C := RX11) (T := TX11) (N := 14) (n := 14) htb in_X11 (htb _ tw_104)
  obtain ⟨c12_, i12_, hk12⟩ := u_known (C := RX12) (T := TX12) (N := 79) (n := 79) htb in_X12 (htb _ tw_1077)
  obtain ⟨dC, dI, hKc⟩ : ∃ (dC : Nat → ClassId) (dI : Nat → Nat → Nat), ∀ (k : Nat) (q : vw_C), vwCl[k]? = some q → u_Kn s q.1 q.2.1 q.2.2 (dC k) (dI k) := by
    refine ⟨fun k => [c0_, c1_, c2_, c3_, c4_, c5_, c6_, c7_, c8_, c9_, c10_, c11_, c12_].getD k c0_, fun k => [i0_, i1_, i2_, i3_, i4_, i5_, i6_, i7_, i8_, i9_, i10_, i11_, i12_].getD k i0_, ?_⟩
    intro k q hq
    match k, hq with
    | 0, hq => cases hq; exact hk0
    | 1, hq => cases hq; exact hk1
    | 2, hq => cases hq; exact hk2
    | 3, hq => cases hq; exact hk3
    | 4, hq => cases hq; exact hk4
    | 5, hq => cases hq; exact hk5
    | 6, hq => cases hq; exact hk6
    | 7, hq => cases hq; exact hk7
    | 8, hq => cases hq; exact hk8
    | 9, hq => cases hq; exact hk9
    | 10, hq => cases hq; exact hk10
    | 11, hq => cases hq; exact hk11
    | 12, hq => cases hq; exact hk12
    | k + 13, hq => cases hq
  obtain ⟨a0, k0, z0, f00, f01, f02⟩ := Cond.arrayClass_spec (htb _ tw_153)
  obtain ⟨a1, k1, z1, f10, f11, f12⟩ := Cond.arrayClass_spec (htb _ tw_152)
  obtain ⟨a2, k2, z2, f20, f21, f22⟩ := Cond.arrayClass_spec (htb _ tw_610)
  obtain ⟨a3, k3, z3, f30, f31, f32⟩ := Cond.arrayClass_spec (htb _ tw_364)
  have ao4 : (Cond.arrayOver (.object RX10)).before #[Value.ref b] s = true := hts _ (List.mem_of_getElem? (i := 118) rfl)
  have ao5 : (Cond.arrayOver (.object RX4)).before #[Value.ref b] s = true := hts _ (List.mem_of_getElem? (i := 390) rfl)
  have ao6 : (Cond.arrayOver (.array .int)).before #[Value.ref b] s = true := hts _ (List.mem_of_getElem? (i := 566) rfl)
  obtain ⟨q4, a4, k4, g41, g42, g43, g44, g45⟩ := Cond.arrayOver_spec ao4
  obtain ⟨q5, a5, k5, g51, g52, g53, g54, g55⟩ := Cond.arrayOver_spec ao5
  obtain ⟨q6, a6, k6, g61, g62, g63, g64, g65⟩ := arrayOverA_spec ao6
  obtain ⟨ca, hca⟩ : ∃ ca : Nat → ClassId, ca = fun t => [a0, a1, a2, a3, a4, a5, a6].getD t a0 := ⟨_, rfl⟩
  have hK : va_K (dC, dI) vwCl (tysL ca) s := by
    refine ⟨hKc, fun k q hk => ?_⟩
    subst hca
    match k, hk with
    | 0, hk => cases hk; exact ⟨fun n z => ⟨fun k h => (by cases h), k0, f01, z0, f02⟩, f00⟩
    | 1, hk => cases hk; exact ⟨fun n z => ⟨fun k h => (by cases h), k1, f11, z1, f12⟩, f10⟩
    | 2, hk => cases hk; exact ⟨fun n z => ⟨fun k h => (by cases h), k2, f21, z2, f22⟩, f20⟩
    | 3, hk => cases hk; exact ⟨fun n z => ⟨fun k h => (by cases h), k3, f31, z3, f32⟩, f30⟩
    | 4, hk => cases hk; exact ⟨fun n z => ⟨fun k h => (by cases h), k4, g43, q4, g44⟩, k4, q4, g43, g44, g41, g45⟩
    | 5, hk => cases hk; exact ⟨fun n z => ⟨fun k h => (by cases h), k5, g53, q5, g54⟩, k5, q5, g53, g54, g51, g55⟩
    | 6, hk => cases hk; exact ⟨fun n z => ⟨fun k h => (by cases h), k6, g63, q6, g64⟩, g65⟩
    | k + 7, hk => cases hk
  have hN : Nst s := fun q hq => by
    simp only [nws, List.mem_cons, List.not_mem_nil, or_false] at hq
    rcases hq with rfl | rfl | rfl | rfl | rfl | rfl | rfl | rfl | rfl
    · exact va_Nw.of rfl (hts _ (List.mem_of_getElem? (i := 120) rfl))
    · exact va_Nw.of rfl (hts _ (List.mem_of_getElem? (i := 392) rfl))
    · exact va_Nw.of rfl (hts _ (List.mem_of_getElem? (i := 449) rfl))
    · exact va_Nw.of rfl (hts _ (List.mem_of_getElem? (i := 454) rfl))
    · exact va_Nw.of rfl (hts _ (List.mem_of_getElem? (i := 461) rfl))
    · exact va_Nw.of rfl (hts _ (List.mem_of_getElem? (i := 482) rfl))
    · exact va_Nw.of rfl (hts _ (List.mem_of_getElem? (i := 514) rfl))
    · exact va_Nw.of rfl (hts _ (List.mem_of_getElem? (i := 527) rfl))
    · exact va_Nw.of rfl (hts _ (List.mem_of_getElem? (i := 532) rfl))
  have hs := flat_of_before _ hgv
  obtain ⟨t0, ht0, hT0⟩ := va_Tof (args := #[Value.ref b]) (s := s) (tm := .static "WhiteRoads$Ground" "TOP_PARTS" "[I") (ty := .int) (N := 4) (f := fun j => .int (TPf j)) (A := fun q => s.heap.size ≤ q) (by decide) (hs _ (by decide +kernel)) (va_eqt (z := 4) (hs _ (by decide +kernel))) (fun j hj => va_eqt (hs _ (el_t j hj))) hA
  have hZ0 := va_Zof (A := fun q => s.heap.size ≤ q) (hts (Cond.laysStatic "WhiteRoads$Ground" "TOP_PARTS" "[I") (List.mem_of_getElem? (i := 786) rfl)) (htb _ tw_92) ht0 hA
  obtain ⟨t1, ht1, hT1⟩ := va_Tof (args := #[Value.ref b]) (s := s) (tm := .static "WhiteRoads$Ground" "WATER_HELD" "[I") (ty := .int) (N := 4) (f := fun j => .int (WHf j)) (A := fun q => s.heap.size ≤ q) (by decide) (hs _ (by decide +kernel)) (va_eqt (z := 4) (hs _ (by decide +kernel))) (fun j hj => va_eqt (hs _ (el_w j hj))) hA
  have hZ1 := va_Zof (A := fun q => s.heap.size ≤ q) (hts (Cond.laysStatic "WhiteRoads$Ground" "WATER_HELD" "[I") (List.mem_of_getElem? (i := 794) rfl)) (htb _ tw_92) ht1 hA
  have hZ2 := va_Zof (A := fun q => s.heap.size ≤ q) (hts (Cond.laysStatic "java/lang/String" "COMPACT_STRINGS" "Z") (List.mem_of_getElem? (i := 289) rfl)) (htb _ tw_87) (va_eqi (z := 1) (hs _ (by decide +kernel))) hA
  obtain ⟨adK, adV, hSt, hStE⟩ := vk_Sof (args := #[Value.ref b]) (s := s) (N := 1) (tm := fun _ => .string "WhiteRoads$Lexer" 42) (len := [110]) (byt := [KWb]) (A := fun q => s.heap.size ≤ q) (fun i hi => by (obtain rfl : i = 0 := by omega); decide) (fun i hi => hs _ (by decide +kernel)) (fun i hi => hs _ (by decide +kernel)) (fun i hi => hs _ (by decide +kernel)) (fun i hi => by (obtain rfl : i = 0 := by omega); exact hs _ (by decide +kernel)) (fun i hi j hj => by (obtain rfl : i = 0 := by omega); exact hs _ (el_s j hj)) (fun i j hi hj hij => absurd (by omega) hij) hA
  have hStr := hStE 0 (by decide)
  have hR : (Cond.stringRef "WhiteRoads$Lexer" 42 "yard way hour slip call harm depot store grass road bridge roof slope traffic warm takes fall temp wet weight ").before #[Value.ref b] s = true := hts _ (List.mem_of_getElem? (i := 279) rfl)
  have hQ := va_Zqof (A := fun q => s.heap.size ≤ q) (hts (Cond.laysStatic "jdk/internal/util/Preconditions" "SIOOBE_FORMATTER" "Ljava/util/function/BiFunction;") (List.mem_of_getElem? (i := 305) rfl)) (htb _ tw_89) (hs _ (by decide +kernel)) hA
  obtain ⟨t4, hQ4⟩ : ∃ t4 : Nat, va_Z "jdk/internal/util/Preconditions" "SIOOBE_FORMATTER" "Ljava/util/function/BiFunction;" .null (fun q => s.heap.size ≤ q) s s.heap ∨ va_Z "jdk/internal/util/Preconditions" "SIOOBE_FORMATTER" "Ljava/util/function/BiFunction;" (.ref t4) (fun q => s.heap.size ≤ q) s s.heap := by
    rcases hQ with w | ⟨t, w⟩
    · exact ⟨0, Or.inl w⟩
    · exact ⟨t, Or.inr w⟩
  have hXt : Xt s.heap.size (fun k => [t0, t1, adK 0, adV 0, t4, b].getD k 0) s s.heap := ⟨⟨hZ0, hT0⟩, ⟨hZ1, hT1⟩, hZ2, ⟨fun i hi => by (obtain rfl : i = 0 := by omega); exact hSt.1 0 (by decide), fun i j hi hj _ => by omega⟩, vk_R.of hR hStr, hQ4, va_AO.of ao4, va_AO.of ao5, q6, a6, k6, g61, g63, g64, g65⟩
  have hCL : CL p s m meth c (dC, dI) ca (fun k => [t0, t1, adK 0, adV 0, t4, b].getD k 0) b L xs := ⟨⟨hx, hb, hml, hr, hlocks, hown, htb, hK, hN, Nat.le_refl _, hXt, fun q => by cases q⟩, hX, hbl, rfl⟩
  have hl := lv_entry ([.ref b]) (n := 4) (Nat.le_of_ble_eq_true rfl)
  rw [lg_entry_eq]
  generalize (lg_sl ([.ref b]) ++ List.replicate (4 - (lg_sl ([.ref b])).length) Slot.unset).toArray = ls at hl ⊢
  have hl : lv_has ls 4 [(0, .ref b)] := hl
  exact law_start hL (fun _ => cI 0 0 (fun _ => 0)) p l e s m below meth c (dC, dI) ca (fun k => [t0, t1, adK 0, adV 0, t4, b].getD k 0) hCL s.heap [] ls (by decide) rfl (fun k q hq => by simp [wd] at hq) va_S.rf hl
