def lc_X10 (n0 : Nat) : List AC := [cO 10 [.long 0, .int 0, .int 0, .int 0, .int 0, .ref (n0 + 1)], cI 0 5 (fun _ => 0)]
set_option maxRecDepth 100000 in
theorem ci_X10 {h : AH} {n0 : Nat} (hb : n0 ≤ 1000) (e0_0 : h n0 = cO 10 [.long 0, .int 0, .int 0, .int 0, .int 0, .null]) : Ct yX10_init MX10_init [.ref n0] (n0 + 1) h (PN h n0 (n0 + 2) (lc_X10 n0)) := by
  refine ct_of [some (.ref n0)] 0 (by decide +kernel) rfl (fun _ => rfl) (Nat.le_of_ble_eq_true rfl) rfl ?_
  refine x_aload_n (q := 1) dX10_init_0 rfl rfl ?_
  refine x_obj (q := 4) dX10_init_1 rfl tw_123 tw_109 tw_110 (by decide) (by decide) ?_
  refine x_aload_n (q := 5) dX10_init_4 rfl rfl ?_
  refine x_iconst (5) (q := 6) dX10_init_5 rfl (by decide) ?_
  refine x_newai (N := 5) (n2 := n0 + 2) (q := 8) dX10_init_6 rfl tw_153 (by decide) (by decide) (by decide) rfl (by omega) (by decide) (by decide) (fun h1 e1_1 o1 => ?_)
  refine x_putF (ci := 10) (K := 5) (a := n0) (fs := [.long 0, .int 0, .int 0, .int 0, .int 0, .null]) (q := 11) dX10_init_8 rfl cl_10.1 cl_10.2.1 cl_10.2.2.1 cl_10.2.2.2 (by decide) tw_136 rfl rfl rfl rfl rfl (by rw [o1 n0 (by omega)]; exact e0_0) (by omega) (Nat.le_of_ble_eq_true rfl) (fun h2 e2_0 o2 => ?_)
  have e2_0 : h2 n0 = cO 10 [.long 0, .int 0, .int 0, .int 0, .int 0, .ref (n0 + 1)] := e2_0
  refine x_vret dX10_init_11 rfl (by decide) (by decide) ?_
  refine ⟨rfl, rfl, fun i_ hi_ => ?_, e2_0, (by rw [o2 (n0 + 1) (by omega)]; exact e1_1), trivial⟩
  rw [o2 i_ (by omega), o1 i_ (by omega)]
def lc_X4 (n0 : Nat) : List AC := [cO 4 [.ref (n0 + 1), .int 0, .int 0, .int 0, .int 0], cI 0 5 (fun _ => 0)]
set_option maxRecDepth 100000 in
theorem ci_X4 {h : AH} {n0 : Nat} (hb : n0 ≤ 1000) (e0_0 : h n0 = cO 4 [.null, .int 0, .int 0, .int 0, .int 0]) : Ct yX4_init MX4_init [.ref n0] (n0 + 1) h (PN h n0 (n0 + 2) (lc_X4 n0)) := by
  refine ct_of [some (.ref n0)] 0 (by decide +kernel) rfl (fun _ => rfl) (Nat.le_of_ble_eq_true rfl) rfl ?_
  refine x_aload_n (q := 1) dX4_init_0 rfl rfl ?_
  refine x_obj (q := 4) dX4_init_1 rfl tw_395 tw_109 tw_110 (by decide) (by decide) ?_
  refine x_aload_n (q := 5) dX4_init_4 rfl rfl ?_
  refine x_iconst (5) (q := 6) dX4_init_5 rfl (by decide) ?_
  refine x_newai (N := 5) (n2 := n0 + 2) (q := 8) dX4_init_6 rfl tw_153 (by decide) (by decide) (by decide) rfl (by omega) (by decide) (by decide) (fun h1 e1_1 o1 => ?_)
  refine x_putF (ci := 4) (K := 0) (a := n0) (fs := [.null, .int 0, .int 0, .int 0, .int 0]) (q := 11) dX4_init_8 rfl cl_4.1 cl_4.2.1 cl_4.2.2.1 cl_4.2.2.2 (by decide) tw_396 rfl rfl rfl rfl rfl (by rw [o1 n0 (by omega)]; exact e0_0) (by omega) (Nat.le_of_ble_eq_true rfl) (fun h2 e2_0 o2 => ?_)
  have e2_0 : h2 n0 = cO 4 [.ref (n0 + 1), .int 0, .int 0, .int 0, .int 0] := e2_0
  refine x_aload_n (q := 12) dX4_init_11 rfl rfl ?_
  refine x_iconst (0) (q := 13) dX4_init_12 rfl (by decide) ?_
  refine x_put (ci := 4) (K := 1) (a := n0) (fs := [.ref (n0 + 1), .int 0, .int 0, .int 0, .int 0]) (q := 16) dX4_init_13 rfl cl_4.1 cl_4.2.1 cl_4.2.2.1 cl_4.2.2.2 (by decide) tw_399 rfl rfl rfl e2_0 (by omega) (Nat.le_of_ble_eq_true rfl) (fun h3 e3_0 o3 => ?_)
  have e3_0 : h3 n0 = cO 4 [.ref (n0 + 1), .int 0, .int 0, .int 0, .int 0] := e3_0
  refine x_aload_n (q := 17) dX4_init_16 rfl rfl ?_
  refine x_iconst (0) (q := 18) dX4_init_17 rfl (by decide) ?_
  refine x_put (ci := 4) (K := 2) (a := n0) (fs := [.ref (n0 + 1), .int 0, .int 0, .int 0, .int 0]) (q := 21) dX4_init_18 rfl cl_4.1 cl_4.2.1 cl_4.2.2.1 cl_4.2.2.2 (by decide) tw_401 rfl rfl rfl e3_0 (by omega) (Nat.le_of_ble_eq_true rfl) (fun h4 e4_0 o4 => ?_)
  have e4_0 : h4 n0 = cO 4 [.ref (n0 + 1), .int 0, .int 0, .int 0, .int 0] := e4_0
  refine x_aload_n (q := 22) dX4_init_21 rfl rfl ?_
  refine x_iconst (0) (q := 23) dX4_init_22 rfl (by decide) ?_
  refine x_put (ci := 4) (K := 3) (a := n0) (fs := [.ref (n0 + 1), .int 0, .int 0, .int 0, .int 0]) (q := 26) dX4_init_23 rfl cl_4.1 cl_4.2.1 cl_4.2.2.1 cl_4.2.2.2 (by decide) tw_404 rfl rfl rfl e4_0 (by omega) (Nat.le_of_ble_eq_true rfl) (fun h5 e5_0 o5 => ?_)
  have e5_0 : h5 n0 = cO 4 [.ref (n0 + 1), .int 0, .int 0, .int 0, .int 0] := e5_0
  refine x_aload_n (q := 27) dX4_init_26 rfl rfl ?_
  refine x_iconst (0) (q := 28) dX4_init_27 rfl (by decide) ?_
  refine x_put (ci := 4) (K := 4) (a := n0) (fs := [.ref (n0 + 1), .int 0, .int 0, .int 0, .int 0]) (q := 31) dX4_init_28 rfl cl_4.1 cl_4.2.1 cl_4.2.2.1 cl_4.2.2.2 (by decide) tw_406 rfl rfl rfl e5_0 (by omega) (Nat.le_of_ble_eq_true rfl) (fun h6 e6_0 o6 => ?_)
  have e6_0 : h6 n0 = cO 4 [.ref (n0 + 1), .int 0, .int 0, .int 0, .int 0] := e6_0
  refine x_vret dX4_init_31 rfl (by decide) (by decide) ?_
  refine ⟨rfl, rfl, fun i_ hi_ => ?_, e6_0, (by rw [o6 (n0 + 1) (by omega), o5 (n0 + 1) (by omega), o4 (n0 + 1) (by omega), o3 (n0 + 1) (by omega), o2 (n0 + 1) (by omega)]; exact e1_1), trivial⟩
  rw [o6 i_ (by omega), o5 i_ (by omega), o4 i_ (by omega), o3 i_ (by omega), o2 i_ (by omega), o1 i_ (by omega)]
def lc_X7 (n0 : Nat) : List AC := [cO 7 [.ref (n0 + 1)], cO 4 [.ref (n0 + 2), .int 0, .int 0, .int 0, .int 0], cI 0 5 (fun _ => 0)]
set_option maxRecDepth 100000 in
theorem ci_X7 {h : AH} {n0 : Nat} (hb : n0 ≤ 900) (e0_0 : h n0 = cO 7 [.null]) : Ct yX7_init MX7_init [.ref n0] (n0 + 1) h (PN h n0 (n0 + 3) (lc_X7 n0)) := by
  refine ct_of [some (.ref n0)] 0 (by decide +kernel) rfl (fun _ => rfl) (Nat.le_of_ble_eq_true rfl) rfl ?_
  refine x_aload_n (q := 1) dX7_init_0 rfl rfl ?_
  refine x_obj (q := 4) dX7_init_1 rfl tw_452 tw_109 tw_110 (by decide) (by decide) ?_
  refine x_aload_n (q := 5) dX7_init_4 rfl rfl ?_
  refine x_new (fs := [.null, .int 0, .int 0, .int 0, .int 0]) (n2 := n0 + 2) (q := 8) dX7_init_5 rfl cl_4 tw_453 tw_391 tw_92 (by decide) (fun _ => rfl) rfl (by omega) (by decide) (by decide) (fun h1 e1_1 o1 => ?_)
  refine x_dup (q := 9) dX7_init_8 rfl rfl ?_
  refine x_callN (host := "WhiteRoads") (a := n0 + 1) (As := []) (rest := [.ref (n0 + 1), .ref n0]) (q := 12) dX7_init_9 rfl okX4_init (by decide) (ci_X4 (n0 := n0 + 1) (by omega) e1_1) (by omega) rfl rfl (Nat.le_of_ble_eq_true rfl) ⟨by decide, by decide⟩ ⟨by decide, by decide⟩ (fun rv_ n_ h2 hv_ => ?_)
  obtain ⟨a1_, a2_, o2, l2⟩ := hv_
  rw [a1_, a2_]
  have e2_1 : h2 (n0 + 1) = cO 4 [.ref (n0 + 2), .int 0, .int 0, .int 0, .int 0] := l2.1
  have e2_2 : h2 (n0 + 2) = cI 0 5 (fun _ => 0) := l2.2.1
  show Wp MX7_init 12 [some (.ref n0)] [.ref (n0 + 1), .ref n0] (n0 + 3) h2 _ _ _
  refine x_putF (ci := 7) (K := 0) (a := n0) (fs := [.null]) (q := 15) dX7_init_12 rfl cl_7.1 cl_7.2.1 cl_7.2.2.1 cl_7.2.2.2 (by decide) tw_455 rfl rfl rfl rfl rfl (by rw [o2 n0 (by omega), o1 n0 (by omega)]; exact e0_0) (by omega) (Nat.le_of_ble_eq_true rfl) (fun h3 e3_0 o3 => ?_)
  have e3_0 : h3 n0 = cO 7 [.ref (n0 + 1)] := e3_0
  refine x_vret dX7_init_15 rfl (by decide) (by decide) ?_
  refine ⟨rfl, rfl, fun i_ hi_ => ?_, e3_0, (by rw [o3 (n0 + 1) (by omega)]; exact e2_1), (by rw [o3 (n0 + 2) (by omega)]; exact e2_2), trivial⟩
  rw [o3 i_ (by omega), o2 i_ (by omega), o1 i_ (by omega)]
def lc_X9 (n0 : Nat) : List AC := [cO 9 [.int 0, .int 0, .int (-1), .int 0]]
set_option maxRecDepth 100000 in
theorem ci_X9 {h : AH} {n0 : Nat} (hb : n0 ≤ 900) (e0_0 : h n0 = cO 9 [.int 0, .int 0, .int 0, .int 0]) : Ct yX9_init MX9_init [.ref n0] (n0 + 1) h (PN h n0 (n0 + 1) (lc_X9 n0)) := by
  refine ct_of [some (.ref n0)] 0 (by decide +kernel) rfl (fun _ => rfl) (Nat.le_of_ble_eq_true rfl) rfl ?_
  refine x_aload_n (q := 1) dX9_init_0 rfl rfl ?_
  refine x_obj (q := 4) dX9_init_1 rfl tw_464 tw_109 tw_110 (by decide) (by decide) ?_
  refine x_aload_n (q := 5) dX9_init_4 rfl rfl ?_
  refine x_iconst (0) (q := 6) dX9_init_5 rfl (by decide) ?_
  refine x_put (ci := 9) (K := 0) (a := n0) (fs := [.int 0, .int 0, .int 0, .int 0]) (q := 9) dX9_init_6 rfl cl_9.1 cl_9.2.1 cl_9.2.2.1 cl_9.2.2.2 (by decide) tw_465 rfl rfl rfl e0_0 (by omega) (Nat.le_of_ble_eq_true rfl) (fun h1 e1_0 o1 => ?_)
  have e1_0 : h1 n0 = cO 9 [.int 0, .int 0, .int 0, .int 0] := e1_0
  refine x_aload_n (q := 10) dX9_init_9 rfl rfl ?_
  refine x_iconst (0) (q := 11) dX9_init_10 rfl (by decide) ?_
  refine x_put (ci := 9) (K := 1) (a := n0) (fs := [.int 0, .int 0, .int 0, .int 0]) (q := 14) dX9_init_11 rfl cl_9.1 cl_9.2.1 cl_9.2.2.1 cl_9.2.2.2 (by decide) tw_466 rfl rfl rfl e1_0 (by omega) (Nat.le_of_ble_eq_true rfl) (fun h2 e2_0 o2 => ?_)
  have e2_0 : h2 n0 = cO 9 [.int 0, .int 0, .int 0, .int 0] := e2_0
  refine x_aload_n (q := 15) dX9_init_14 rfl rfl ?_
  refine x_iconst (-1) (q := 16) dX9_init_15 rfl (by decide) ?_
  refine x_put (ci := 9) (K := 2) (a := n0) (fs := [.int 0, .int 0, .int 0, .int 0]) (q := 19) dX9_init_16 rfl cl_9.1 cl_9.2.1 cl_9.2.2.1 cl_9.2.2.2 (by decide) tw_467 rfl rfl rfl e2_0 (by omega) (Nat.le_of_ble_eq_true rfl) (fun h3 e3_0 o3 => ?_)
  have e3_0 : h3 n0 = cO 9 [.int 0, .int 0, .int (-1), .int 0] := e3_0
  refine x_aload_n (q := 20) dX9_init_19 rfl rfl ?_
  refine x_iconst (0) (q := 21) dX9_init_20 rfl (by decide) ?_
  refine x_put (ci := 9) (K := 3) (a := n0) (fs := [.int 0, .int 0, .int (-1), .int 0]) (q := 24) dX9_init_21 rfl cl_9.1 cl_9.2.1 cl_9.2.2.1 cl_9.2.2.2 (by decide) tw_469 rfl rfl rfl e3_0 (by omega) (Nat.le_of_ble_eq_true rfl) (fun h4 e4_0 o4 => ?_)
  have e4_0 : h4 n0 = cO 9 [.int 0, .int 0, .int (-1), .int 0] := e4_0
  refine x_vret dX9_init_24 rfl (by decide) (by decide) ?_
  refine ⟨rfl, rfl, fun i_ hi_ => ?_, e4_0, trivial⟩
  rw [o4 i_ (by omega), o3 i_ (by omega), o2 i_ (by omega), o1 i_ (by omega)]
def lc_X3 (n0 : Nat) : List AC := [cO 3 [.ref (n0 + 1), .ref (n0 + 2), .ref (n0 + 3), .ref (n0 + 4), .int 0, .int 0, .int 0], cI 0 64 (fun _ => 0), cI 1 576 (fun _ => 0), cI 0 7 (fun _ => 0), cI 0 7 (fun _ => 0)]
set_option maxRecDepth 100000 in
theorem ci_X3 {h : AH} {n0 : Nat} (hb : n0 ≤ 900) (e0_0 : h n0 = cO 3 [.null, .null, .null, .null, .int 0, .int 0, .int 0]) : Ct yX3_init MX3_init [.ref n0] (n0 + 1) h (PN h n0 (n0 + 5) (lc_X3 n0)) := by
  refine ct_of [some (.ref n0)] 0 (by decide +kernel) rfl (fun _ => rfl) (Nat.le_of_ble_eq_true rfl) rfl ?_
  refine x_aload_n (q := 1) dX3_init_0 rfl rfl ?_
  refine x_obj (q := 4) dX3_init_1 rfl tw_485 tw_109 tw_110 (by decide) (by decide) ?_
  refine x_aload_n (q := 5) dX3_init_4 rfl rfl ?_
  refine x_bipush (64) (q := 7) dX3_init_5 rfl (by decide) ?_
  refine x_newai (N := 64) (n2 := n0 + 2) (q := 9) dX3_init_7 rfl tw_153 (by decide) (by decide) (by decide) rfl (by omega) (by decide) (by decide) (fun h1 e1_1 o1 => ?_)
  refine x_putF (ci := 3) (K := 0) (a := n0) (fs := [.null, .null, .null, .null, .int 0, .int 0, .int 0]) (q := 12) dX3_init_9 rfl cl_3.1 cl_3.2.1 cl_3.2.2.1 cl_3.2.2.2 (by decide) tw_486 rfl rfl rfl rfl rfl (by rw [o1 n0 (by omega)]; exact e0_0) (by omega) (Nat.le_of_ble_eq_true rfl) (fun h2 e2_0 o2 => ?_)
  have e2_0 : h2 n0 = cO 3 [.ref (n0 + 1), .null, .null, .null, .int 0, .int 0, .int 0] := e2_0
  refine x_aload_n (q := 13) dX3_init_12 rfl rfl ?_
  refine x_sipush (576) (q := 16) dX3_init_13 rfl (by decide) ?_
  refine x_newab (N := 576) (n2 := n0 + 3) (q := 18) dX3_init_16 rfl tw_152 (by decide) (by decide) (by decide) rfl (by omega) (by decide) (by decide) (fun h3 e3_2 o3 => ?_)
  refine x_putF (ci := 3) (K := 1) (a := n0) (fs := [.ref (n0 + 1), .null, .null, .null, .int 0, .int 0, .int 0]) (q := 21) dX3_init_18 rfl cl_3.1 cl_3.2.1 cl_3.2.2.1 cl_3.2.2.2 (by decide) tw_487 rfl rfl rfl rfl rfl (by rw [o3 n0 (by omega)]; exact e2_0) (by omega) (Nat.le_of_ble_eq_true rfl) (fun h4 e4_0 o4 => ?_)
  have e4_0 : h4 n0 = cO 3 [.ref (n0 + 1), .ref (n0 + 2), .null, .null, .int 0, .int 0, .int 0] := e4_0
  refine x_aload_n (q := 22) dX3_init_21 rfl rfl ?_
  refine x_bipush (7) (q := 24) dX3_init_22 rfl (by decide) ?_
  refine x_newai (N := 7) (n2 := n0 + 4) (q := 26) dX3_init_24 rfl tw_153 (by decide) (by decide) (by decide) rfl (by omega) (by decide) (by decide) (fun h5 e5_3 o5 => ?_)
  refine x_putF (ci := 3) (K := 2) (a := n0) (fs := [.ref (n0 + 1), .ref (n0 + 2), .null, .null, .int 0, .int 0, .int 0]) (q := 29) dX3_init_26 rfl cl_3.1 cl_3.2.1 cl_3.2.2.1 cl_3.2.2.2 (by decide) tw_488 rfl rfl rfl rfl rfl (by rw [o5 n0 (by omega)]; exact e4_0) (by omega) (Nat.le_of_ble_eq_true rfl) (fun h6 e6_0 o6 => ?_)
  have e6_0 : h6 n0 = cO 3 [.ref (n0 + 1), .ref (n0 + 2), .ref (n0 + 3), .null, .int 0, .int 0, .int 0] := e6_0
  refine x_aload_n (q := 30) dX3_init_29 rfl rfl ?_
  refine x_bipush (7) (q := 32) dX3_init_30 rfl (by decide) ?_
  refine x_newai (N := 7) (n2 := n0 + 5) (q := 34) dX3_init_32 rfl tw_153 (by decide) (by decide) (by decide) rfl (by omega) (by decide) (by decide) (fun h7 e7_4 o7 => ?_)
  refine x_putF (ci := 3) (K := 3) (a := n0) (fs := [.ref (n0 + 1), .ref (n0 + 2), .ref (n0 + 3), .null, .int 0, .int 0, .int 0]) (q := 37) dX3_init_34 rfl cl_3.1 cl_3.2.1 cl_3.2.2.1 cl_3.2.2.2 (by decide) tw_489 rfl rfl rfl rfl rfl (by rw [o7 n0 (by omega)]; exact e6_0) (by omega) (Nat.le_of_ble_eq_true rfl) (fun h8 e8_0 o8 => ?_)
  have e8_0 : h8 n0 = cO 3 [.ref (n0 + 1), .ref (n0 + 2), .ref (n0 + 3), .ref (n0 + 4), .int 0, .int 0, .int 0] := e8_0
  refine x_aload_n (q := 38) dX3_init_37 rfl rfl ?_
  refine x_iconst (0) (q := 39) dX3_init_38 rfl (by decide) ?_
  refine x_put (ci := 3) (K := 4) (a := n0) (fs := [.ref (n0 + 1), .ref (n0 + 2), .ref (n0 + 3), .ref (n0 + 4), .int 0, .int 0, .int 0]) (q := 42) dX3_init_39 rfl cl_3.1 cl_3.2.1 cl_3.2.2.1 cl_3.2.2.2 (by decide) tw_491 rfl rfl rfl e8_0 (by omega) (Nat.le_of_ble_eq_true rfl) (fun h9 e9_0 o9 => ?_)
  have e9_0 : h9 n0 = cO 3 [.ref (n0 + 1), .ref (n0 + 2), .ref (n0 + 3), .ref (n0 + 4), .int 0, .int 0, .int 0] := e9_0
  refine x_aload_n (q := 43) dX3_init_42 rfl rfl ?_
  refine x_iconst (0) (q := 44) dX3_init_43 rfl (by decide) ?_
  refine x_put (ci := 3) (K := 5) (a := n0) (fs := [.ref (n0 + 1), .ref (n0 + 2), .ref (n0 + 3), .ref (n0 + 4), .int 0, .int 0, .int 0]) (q := 47) dX3_init_44 rfl cl_3.1 cl_3.2.1 cl_3.2.2.1 cl_3.2.2.2 (by decide) tw_493 rfl rfl rfl e9_0 (by omega) (Nat.le_of_ble_eq_true rfl) (fun h10 e10_0 o10 => ?_)
  have e10_0 : h10 n0 = cO 3 [.ref (n0 + 1), .ref (n0 + 2), .ref (n0 + 3), .ref (n0 + 4), .int 0, .int 0, .int 0] := e10_0
  refine x_aload_n (q := 48) dX3_init_47 rfl rfl ?_
  refine x_iconst (0) (q := 49) dX3_init_48 rfl (by decide) ?_
  refine x_put (ci := 3) (K := 6) (a := n0) (fs := [.ref (n0 + 1), .ref (n0 + 2), .ref (n0 + 3), .ref (n0 + 4), .int 0, .int 0, .int 0]) (q := 52) dX3_init_49 rfl cl_3.1 cl_3.2.1 cl_3.2.2.1 cl_3.2.2.2 (by decide) tw_495 rfl rfl rfl e10_0 (by omega) (Nat.le_of_ble_eq_true rfl) (fun h11 e11_0 o11 => ?_)
  have e11_0 : h11 n0 = cO 3 [.ref (n0 + 1), .ref (n0 + 2), .ref (n0 + 3), .ref (n0 + 4), .int 0, .int 0, .int 0] := e11_0
  refine x_vret dX3_init_52 rfl (by decide) (by decide) ?_
  refine ⟨rfl, rfl, fun i_ hi_ => ?_, e11_0, (by rw [o11 (n0 + 1) (by omega), o10 (n0 + 1) (by omega), o9 (n0 + 1) (by omega), o8 (n0 + 1) (by omega), o7 (n0 + 1) (by omega), o6 (n0 + 1) (by omega), o5 (n0 + 1) (by omega), o4 (n0 + 1) (by omega), o3 (n0 + 1) (by omega), o2 (n0 + 1) (by omega)]; exact e1_1), (by rw [o11 (n0 + 2) (by omega), o10 (n0 + 2) (by omega), o9 (n0 + 2) (by omega), o8 (n0 + 2) (by omega), o7 (n0 + 2) (by omega), o6 (n0 + 2) (by omega), o5 (n0 + 2) (by omega), o4 (n0 + 2) (by omega)]; exact e3_2), (by rw [o11 (n0 + 3) (by omega), o10 (n0 + 3) (by omega), o9 (n0 + 3) (by omega), o8 (n0 + 3) (by omega), o7 (n0 + 3) (by omega), o6 (n0 + 3) (by omega)]; exact e5_3), (by rw [o11 (n0 + 4) (by omega), o10 (n0 + 4) (by omega), o9 (n0 + 4) (by omega), o8 (n0 + 4) (by omega)]; exact e7_4), trivial⟩
  rw [o11 i_ (by omega), o10 i_ (by omega), o9 i_ (by omega), o8 i_ (by omega), o7 i_ (by omega), o6 i_ (by omega), o5 i_ (by omega), o4 i_ (by omega), o3 i_ (by omega), o2 i_ (by omega), o1 i_ (by omega)]
def lc_X0 (n0 : Nat) : List AC := [cO 0 [.ref (n0 + 1), .ref (n0 + 2)], cI 0 73 (fun _ => 0), cI 0 721 (fun _ => 0)]
set_option maxRecDepth 100000 in
theorem ci_X0 {h : AH} {n0 : Nat} (hb : n0 ≤ 900) (e0_0 : h n0 = cO 0 [.null, .null]) : Ct yX0_init MX0_init [.ref n0] (n0 + 1) h (PN h n0 (n0 + 3) (lc_X0 n0)) := by
  refine ct_of [some (.ref n0)] 0 (by decide +kernel) rfl (fun _ => rfl) (Nat.le_of_ble_eq_true rfl) rfl ?_
  refine x_aload_n (q := 1) dX0_init_0 rfl rfl ?_
  refine x_obj (q := 4) dX0_init_1 rfl tw_517 tw_109 tw_110 (by decide) (by decide) ?_
  refine x_aload_n (q := 5) dX0_init_4 rfl rfl ?_
  refine x_bipush (73) (q := 7) dX0_init_5 rfl (by decide) ?_
  refine x_newai (N := 73) (n2 := n0 + 2) (q := 9) dX0_init_7 rfl tw_153 (by decide) (by decide) (by decide) rfl (by omega) (by decide) (by decide) (fun h1 e1_1 o1 => ?_)
  refine x_putF (ci := 0) (K := 0) (a := n0) (fs := [.null, .null]) (q := 12) dX0_init_9 rfl cl_0.1 cl_0.2.1 cl_0.2.2.1 cl_0.2.2.2 (by decide) tw_518 rfl rfl rfl rfl rfl (by rw [o1 n0 (by omega)]; exact e0_0) (by omega) (Nat.le_of_ble_eq_true rfl) (fun h2 e2_0 o2 => ?_)
  have e2_0 : h2 n0 = cO 0 [.ref (n0 + 1), .null] := e2_0
  refine x_aload_n (q := 13) dX0_init_12 rfl rfl ?_
  refine x_sipush (721) (q := 16) dX0_init_13 rfl (by decide) ?_
  refine x_newai (N := 721) (n2 := n0 + 3) (q := 18) dX0_init_16 rfl tw_153 (by decide) (by decide) (by decide) rfl (by omega) (by decide) (by decide) (fun h3 e3_2 o3 => ?_)
  refine x_putF (ci := 0) (K := 1) (a := n0) (fs := [.ref (n0 + 1), .null]) (q := 21) dX0_init_18 rfl cl_0.1 cl_0.2.1 cl_0.2.2.1 cl_0.2.2.2 (by decide) tw_519 rfl rfl rfl rfl rfl (by rw [o3 n0 (by omega)]; exact e2_0) (by omega) (Nat.le_of_ble_eq_true rfl) (fun h4 e4_0 o4 => ?_)
  have e4_0 : h4 n0 = cO 0 [.ref (n0 + 1), .ref (n0 + 2)] := e4_0
  refine x_vret dX0_init_21 rfl (by decide) (by decide) ?_
  refine ⟨rfl, rfl, fun i_ hi_ => ?_, e4_0, (by rw [o4 (n0 + 1) (by omega), o3 (n0 + 1) (by omega), o2 (n0 + 1) (by omega)]; exact e1_1), (by rw [o4 (n0 + 2) (by omega)]; exact e3_2), trivial⟩
  rw [o4 i_ (by omega), o3 i_ (by omega), o2 i_ (by omega), o1 i_ (by omega)]
def lc_X2 (n0 : Nat) : List AC := [cO 2 [.ref (n0 + 1), .ref (n0 + 2), .ref (n0 + 3), .int 0, .ref (n0 + 4), .ref (n0 + 6), .int (-1), .int (-1), .int (-1)], cI 0 30 (fun _ => 0), cI 0 30 (fun _ => 0), cI 0 30 (fun _ => 0), cO 4 [.ref (n0 + 5), .int 0, .int 0, .int 0, .int 0], cI 0 5 (fun _ => 0), cI 0 35 (fun _ => 0)]
set_option maxRecDepth 100000 in
theorem ci_X2 {h : AH} {n0 : Nat} (hb : n0 ≤ 900) (e0_0 : h n0 = cO 2 [.null, .null, .null, .int 0, .null, .null, .int 0, .int 0, .int 0]) : Ct yX2_init MX2_init [.ref n0] (n0 + 1) h (PN h n0 (n0 + 7) (lc_X2 n0)) := by
  refine ct_of [some (.ref n0)] 0 (by decide +kernel) rfl (fun _ => rfl) (Nat.le_of_ble_eq_true rfl) rfl ?_
  refine x_aload_n (q := 1) dX2_init_0 rfl rfl ?_
  refine x_obj (q := 4) dX2_init_1 rfl tw_530 tw_109 tw_110 (by decide) (by decide) ?_
  refine x_aload_n (q := 5) dX2_init_4 rfl rfl ?_
  refine x_bipush (30) (q := 7) dX2_init_5 rfl (by decide) ?_
  refine x_newai (N := 30) (n2 := n0 + 2) (q := 9) dX2_init_7 rfl tw_153 (by decide) (by decide) (by decide) rfl (by omega) (by decide) (by decide) (fun h1 e1_1 o1 => ?_)
  refine x_putF (ci := 2) (K := 0) (a := n0) (fs := [.null, .null, .null, .int 0, .null, .null, .int 0, .int 0, .int 0]) (q := 12) dX2_init_9 rfl cl_2.1 cl_2.2.1 cl_2.2.2.1 cl_2.2.2.2 (by decide) tw_533 rfl rfl rfl rfl rfl (by rw [o1 n0 (by omega)]; exact e0_0) (by omega) (Nat.le_of_ble_eq_true rfl) (fun h2 e2_0 o2 => ?_)
  have e2_0 : h2 n0 = cO 2 [.ref (n0 + 1), .null, .null, .int 0, .null, .null, .int 0, .int 0, .int 0] := e2_0
  refine x_aload_n (q := 13) dX2_init_12 rfl rfl ?_
  refine x_bipush (30) (q := 15) dX2_init_13 rfl (by decide) ?_
  refine x_newai (N := 30) (n2 := n0 + 3) (q := 17) dX2_init_15 rfl tw_153 (by decide) (by decide) (by decide) rfl (by omega) (by decide) (by decide) (fun h3 e3_2 o3 => ?_)
  refine x_putF (ci := 2) (K := 1) (a := n0) (fs := [.ref (n0 + 1), .null, .null, .int 0, .null, .null, .int 0, .int 0, .int 0]) (q := 20) dX2_init_17 rfl cl_2.1 cl_2.2.1 cl_2.2.2.1 cl_2.2.2.2 (by decide) tw_534 rfl rfl rfl rfl rfl (by rw [o3 n0 (by omega)]; exact e2_0) (by omega) (Nat.le_of_ble_eq_true rfl) (fun h4 e4_0 o4 => ?_)
  have e4_0 : h4 n0 = cO 2 [.ref (n0 + 1), .ref (n0 + 2), .null, .int 0, .null, .null, .int 0, .int 0, .int 0] := e4_0
  refine x_aload_n (q := 21) dX2_init_20 rfl rfl ?_
  refine x_bipush (30) (q := 23) dX2_init_21 rfl (by decide) ?_
  refine x_newai (N := 30) (n2 := n0 + 4) (q := 25) dX2_init_23 rfl tw_153 (by decide) (by decide) (by decide) rfl (by omega) (by decide) (by decide) (fun h5 e5_3 o5 => ?_)
  refine x_putF (ci := 2) (K := 2) (a := n0) (fs := [.ref (n0 + 1), .ref (n0 + 2), .null, .int 0, .null, .null, .int 0, .int 0, .int 0]) (q := 28) dX2_init_25 rfl cl_2.1 cl_2.2.1 cl_2.2.2.1 cl_2.2.2.2 (by decide) tw_535 rfl rfl rfl rfl rfl (by rw [o5 n0 (by omega)]; exact e4_0) (by omega) (Nat.le_of_ble_eq_true rfl) (fun h6 e6_0 o6 => ?_)
  have e6_0 : h6 n0 = cO 2 [.ref (n0 + 1), .ref (n0 + 2), .ref (n0 + 3), .int 0, .null, .null, .int 0, .int 0, .int 0] := e6_0
  refine x_aload_n (q := 29) dX2_init_28 rfl rfl ?_
  refine x_iconst (0) (q := 30) dX2_init_29 rfl (by decide) ?_
  refine x_put (ci := 2) (K := 3) (a := n0) (fs := [.ref (n0 + 1), .ref (n0 + 2), .ref (n0 + 3), .int 0, .null, .null, .int 0, .int 0, .int 0]) (q := 33) dX2_init_30 rfl cl_2.1 cl_2.2.1 cl_2.2.2.1 cl_2.2.2.2 (by decide) tw_536 rfl rfl rfl e6_0 (by omega) (Nat.le_of_ble_eq_true rfl) (fun h7 e7_0 o7 => ?_)
  have e7_0 : h7 n0 = cO 2 [.ref (n0 + 1), .ref (n0 + 2), .ref (n0 + 3), .int 0, .null, .null, .int 0, .int 0, .int 0] := e7_0
  refine x_aload_n (q := 34) dX2_init_33 rfl rfl ?_
  refine x_new (fs := [.null, .int 0, .int 0, .int 0, .int 0]) (n2 := n0 + 5) (q := 37) dX2_init_34 rfl cl_4 tw_531 tw_391 tw_92 (by decide) (fun _ => rfl) rfl (by omega) (by decide) (by decide) (fun h8 e8_4 o8 => ?_)
  refine x_dup (q := 38) dX2_init_37 rfl rfl ?_
  refine x_callN (host := "WhiteRoads") (a := n0 + 4) (As := []) (rest := [.ref (n0 + 4), .ref n0]) (q := 41) dX2_init_38 rfl okX4_init (by decide) (ci_X4 (n0 := n0 + 4) (by omega) e8_4) (by omega) rfl rfl (Nat.le_of_ble_eq_true rfl) ⟨by decide, by decide⟩ ⟨by decide, by decide⟩ (fun rv_ n_ h9 hv_ => ?_)
  obtain ⟨a1_, a2_, o9, l9⟩ := hv_
  rw [a1_, a2_]
  have e9_4 : h9 (n0 + 4) = cO 4 [.ref (n0 + 5), .int 0, .int 0, .int 0, .int 0] := l9.1
  have e9_5 : h9 (n0 + 5) = cI 0 5 (fun _ => 0) := l9.2.1
  show Wp MX2_init 41 [some (.ref n0)] [.ref (n0 + 4), .ref n0] (n0 + 6) h9 _ _ _
  refine x_putF (ci := 2) (K := 4) (a := n0) (fs := [.ref (n0 + 1), .ref (n0 + 2), .ref (n0 + 3), .int 0, .null, .null, .int 0, .int 0, .int 0]) (q := 44) dX2_init_41 rfl cl_2.1 cl_2.2.1 cl_2.2.2.1 cl_2.2.2.2 (by decide) tw_538 rfl rfl rfl rfl rfl (by rw [o9 n0 (by omega), o8 n0 (by omega)]; exact e7_0) (by omega) (Nat.le_of_ble_eq_true rfl) (fun h10 e10_0 o10 => ?_)
  have e10_0 : h10 n0 = cO 2 [.ref (n0 + 1), .ref (n0 + 2), .ref (n0 + 3), .int 0, .ref (n0 + 4), .null, .int 0, .int 0, .int 0] := e10_0
  refine x_aload_n (q := 45) dX2_init_44 rfl rfl ?_
  refine x_bipush (35) (q := 47) dX2_init_45 rfl (by decide) ?_
  refine x_newai (N := 35) (n2 := n0 + 7) (q := 49) dX2_init_47 rfl tw_153 (by decide) (by decide) (by decide) rfl (by omega) (by decide) (by decide) (fun h11 e11_6 o11 => ?_)
  refine x_putF (ci := 2) (K := 5) (a := n0) (fs := [.ref (n0 + 1), .ref (n0 + 2), .ref (n0 + 3), .int 0, .ref (n0 + 4), .null, .int 0, .int 0, .int 0]) (q := 52) dX2_init_49 rfl cl_2.1 cl_2.2.1 cl_2.2.2.1 cl_2.2.2.2 (by decide) tw_539 rfl rfl rfl rfl rfl (by rw [o11 n0 (by omega)]; exact e10_0) (by omega) (Nat.le_of_ble_eq_true rfl) (fun h12 e12_0 o12 => ?_)
  have e12_0 : h12 n0 = cO 2 [.ref (n0 + 1), .ref (n0 + 2), .ref (n0 + 3), .int 0, .ref (n0 + 4), .ref (n0 + 6), .int 0, .int 0, .int 0] := e12_0
  refine x_aload_n (q := 53) dX2_init_52 rfl rfl ?_
  refine x_iconst (-1) (q := 54) dX2_init_53 rfl (by decide) ?_
  refine x_put (ci := 2) (K := 6) (a := n0) (fs := [.ref (n0 + 1), .ref (n0 + 2), .ref (n0 + 3), .int 0, .ref (n0 + 4), .ref (n0 + 6), .int 0, .int 0, .int 0]) (q := 57) dX2_init_54 rfl cl_2.1 cl_2.2.1 cl_2.2.2.1 cl_2.2.2.2 (by decide) tw_540 rfl rfl rfl e12_0 (by omega) (Nat.le_of_ble_eq_true rfl) (fun h13 e13_0 o13 => ?_)
  have e13_0 : h13 n0 = cO 2 [.ref (n0 + 1), .ref (n0 + 2), .ref (n0 + 3), .int 0, .ref (n0 + 4), .ref (n0 + 6), .int (-1), .int 0, .int 0] := e13_0
  refine x_aload_n (q := 58) dX2_init_57 rfl rfl ?_
  refine x_iconst (-1) (q := 59) dX2_init_58 rfl (by decide) ?_
  refine x_put (ci := 2) (K := 7) (a := n0) (fs := [.ref (n0 + 1), .ref (n0 + 2), .ref (n0 + 3), .int 0, .ref (n0 + 4), .ref (n0 + 6), .int (-1), .int 0, .int 0]) (q := 62) dX2_init_59 rfl cl_2.1 cl_2.2.1 cl_2.2.2.1 cl_2.2.2.2 (by decide) tw_542 rfl rfl rfl e13_0 (by omega) (Nat.le_of_ble_eq_true rfl) (fun h14 e14_0 o14 => ?_)
  have e14_0 : h14 n0 = cO 2 [.ref (n0 + 1), .ref (n0 + 2), .ref (n0 + 3), .int 0, .ref (n0 + 4), .ref (n0 + 6), .int (-1), .int (-1), .int 0] := e14_0
  refine x_aload_n (q := 63) dX2_init_62 rfl rfl ?_
  refine x_iconst (-1) (q := 64) dX2_init_63 rfl (by decide) ?_
  refine x_put (ci := 2) (K := 8) (a := n0) (fs := [.ref (n0 + 1), .ref (n0 + 2), .ref (n0 + 3), .int 0, .ref (n0 + 4), .ref (n0 + 6), .int (-1), .int (-1), .int 0]) (q := 67) dX2_init_64 rfl cl_2.1 cl_2.2.1 cl_2.2.2.1 cl_2.2.2.2 (by decide) tw_544 rfl rfl rfl e14_0 (by omega) (Nat.le_of_ble_eq_true rfl) (fun h15 e15_0 o15 => ?_)
  have e15_0 : h15 n0 = cO 2 [.ref (n0 + 1), .ref (n0 + 2), .ref (n0 + 3), .int 0, .ref (n0 + 4), .ref (n0 + 6), .int (-1), .int (-1), .int (-1)] := e15_0
  refine x_vret dX2_init_67 rfl (by decide) (by decide) ?_
  refine ⟨rfl, rfl, fun i_ hi_ => ?_, e15_0, (by rw [o15 (n0 + 1) (by omega), o14 (n0 + 1) (by omega), o13 (n0 + 1) (by omega), o12 (n0 + 1) (by omega), o11 (n0 + 1) (by omega), o10 (n0 + 1) (by omega), o9 (n0 + 1) (by omega), o8 (n0 + 1) (by omega), o7 (n0 + 1) (by omega), o6 (n0 + 1) (by omega), o5 (n0 + 1) (by omega), o4 (n0 + 1) (by omega), o3 (n0 + 1) (by omega), o2 (n0 + 1) (by omega)]; exact e1_1), (by rw [o15 (n0 + 2) (by omega), o14 (n0 + 2) (by omega), o13 (n0 + 2) (by omega), o12 (n0 + 2) (by omega), o11 (n0 + 2) (by omega), o10 (n0 + 2) (by omega), o9 (n0 + 2) (by omega), o8 (n0 + 2) (by omega), o7 (n0 + 2) (by omega), o6 (n0 + 2) (by omega), o5 (n0 + 2) (by omega), o4 (n0 + 2) (by omega)]; exact e3_2), (by rw [o15 (n0 + 3) (by omega), o14 (n0 + 3) (by omega), o13 (n0 + 3) (by omega), o12 (n0 + 3) (by omega), o11 (n0 + 3) (by omega), o10 (n0 + 3) (by omega), o9 (n0 + 3) (by omega), o8 (n0 + 3) (by omega), o7 (n0 + 3) (by omega), o6 (n0 + 3) (by omega)]; exact e5_3), (by rw [o15 (n0 + 4) (by omega), o14 (n0 + 4) (by omega), o13 (n0 + 4) (by omega), o12 (n0 + 4) (by omega), o11 (n0 + 4) (by omega), o10 (n0 + 4) (by omega)]; exact e9_4), (by rw [o15 (n0 + 5) (by omega), o14 (n0 + 5) (by omega), o13 (n0 + 5) (by omega), o12 (n0 + 5) (by omega), o11 (n0 + 5) (by omega), o10 (n0 + 5) (by omega)]; exact e9_5), (by rw [o15 (n0 + 6) (by omega), o14 (n0 + 6) (by omega), o13 (n0 + 6) (by omega), o12 (n0 + 6) (by omega)]; exact e11_6), trivial⟩
  rw [o15 i_ (by omega), o14 i_ (by omega), o13 i_ (by omega), o12 i_ (by omega), o11 i_ (by omega), o10 i_ (by omega), o9 i_ (by omega), o8 i_ (by omega), o7 i_ (by omega), o6 i_ (by omega), o5 i_ (by omega), o4 i_ (by omega), o3 i_ (by omega), o2 i_ (by omega), o1 i_ (by omega)]
