set_option maxRecDepth 100000 in
theorem c_wlW (n : Nat) (h : AH) (a : Int64) (x : Int32) : Ct yX6_withLetter MX6_withLetter [.long a, .int x] n h (RnW (some (.long ((a <<< ((5 : Int32).toInt64 &&& 63)) ||| (x - 97 + 1).toInt64))) n h) := by
  refine ct_of [some (.long a), none, some (.int x)] 0 (by decide +kernel) rfl (fun q_ => by cases q_) (Nat.le_of_ble_eq_true rfl) rfl ?_
  refine x_lload_n (q := 1) dX6_withLetter_0 rfl rfl ?_
  refine x_iconst (5) (q := 2) dX6_withLetter_1 rfl (by decide) ?_
  refine x_lshl (q := 3) dX6_withLetter_2 rfl ?_
  refine x_iload_n (q := 4) dX6_withLetter_3 rfl rfl ?_
  refine x_bipush (97) (q := 6) dX6_withLetter_4 rfl (by decide) ?_
  refine x_isub (q := 7) dX6_withLetter_6 rfl ?_
  refine x_iconst (1) (q := 8) dX6_withLetter_7 rfl (by decide) ?_
  refine x_iadd (q := 9) dX6_withLetter_8 rfl ?_
  refine x_i2l (q := 10) dX6_withLetter_9 rfl ?_
  refine x_lor (q := 11) dX6_withLetter_10 rfl ?_
  exact x_lret dX6_withLetter_11 rfl (Nat.zero_le _) (Nat.zero_le _) ⟨rfl, rfl, rfl⟩
def kS : Nat → Nat × Int64 × (Nat → Int64)
  | 0 => (0, 0, fun _ => 0)
  | i + 1 => if KWb.getD i 0 = 32 then ((kS i).1 + 1, 0, vp_updL (kS i).2.2 (kS i).1 (kS i).2.1) else ((kS i).1, ((kS i).2.1 <<< ((5 : Int32).toInt64 &&& 63)) ||| (KWb.getD i 0 - 97 + 1).toInt64, (kS i).2.2)
theorem kS_lt : ∀ i, i < 110 → (kS i).1 < 20 := by decide +kernel
def lc_X6 (n0 : Nat) : List AC := [cO 6 [.ref (n0 + 1), .ref (n0 + 2), .int 0, .int 0, .int 0, .int 0, .int 0, .long 0, .int (-1)], cJ 20 (kS 110).2.2, cI 1 0 (fun _ => 0)]
set_option maxRecDepth 100000 in
theorem l_lex {n0 : Nat} {hz : AH} : ∀ (f i : Nat) (h : AH) (x5 : Option Value) (_ : i + f = 110) (_ : h n0 = cO 6 [.ref (n0 + 1), .ref (n0 + 2), .int 0, .int 0, .int 0, .int 0, .int 0, .long 0, .int (-1)]) (_ : h (n0 + 1) = cJ 20 (kS i).2.2) (_ : h (n0 + 2) = cI 1 0 (fun _ => 0)) (_ : ∀ j, j < n0 → h j = hz j), Wp MX6_init 61 [some (.ref n0), some (.int (nI (kS i).1)), some (.long (kS i).2.1), none, some (.int (nI i)), x5] [] (n0 + 3) h 2 20 (PN hz n0 (n0 + 3) (lc_X6 n0)) := by
  intro f
  induction f with
  | zero =>
    intro i h x5 hif e0 e1 e2 eo
    obtain rfl : i = 110 := by omega
    refine x_iload (q := 63) dX6_init_61 rfl rfl ?_
    refine x_ldcS (q := 65) dX6_init_63 rfl rfl rfl ?_
    refine x_callT (As := []) (rest := [.int (nI 110)]) (q := 68) dX6_init_65 rfl okJ0_length_8abf5 tw_280 rfl (c_len (n0 + 3) h) rfl rfl (Nat.le_of_ble_eq_true rfl) ⟨by decide, by decide⟩ ⟨by decide, by decide⟩ (fun rv_ n_ h_ hv_ => ?_)
    obtain ⟨a1_, a2_, a3_⟩ := hv_
    rw [a1_, a2_, a3_]
    refine x_icmp_ge (t := 121) (q := 71) dX6_init_68 (by decide) rfl (fun _ => ?_) (fun c_ => absurd (by decide) c_)
    refine x_vret dX6_init_121 rfl (by decide) (by decide) ?_
    exact ⟨rfl, rfl, eo, e0, e1, e2, trivial⟩
  | succ f ih =>
    intro i h x5 hif e0 e1 e2 eo
    have hi : i < 110 := by omega
    have hk := kS_lt i hi
    refine x_iload (q := 63) dX6_init_61 rfl rfl ?_
    refine x_ldcS (q := 65) dX6_init_63 rfl rfl rfl ?_
    refine x_callT (As := []) (rest := [.int (nI i)]) (q := 68) dX6_init_65 rfl okJ0_length_8abf5 tw_280 rfl (c_len (n0 + 3) h) rfl rfl (Nat.le_of_ble_eq_true rfl) ⟨by decide, by decide⟩ ⟨by decide, by decide⟩ (fun rv_ n_ h_ hv_ => ?_)
    obtain ⟨a1_, a2_, a3_⟩ := hv_
    rw [a1_, a2_, a3_]
    refine x_icmp_ge (t := 121) (q := 71) dX6_init_68 (by decide) rfl (fun c_ => absurd c_ (nI_ge (b := 110) hi (by decide))) (fun _ => ?_)
    refine x_iload_n (q := 72) dX6_init_71 rfl rfl ?_
    refine x_bipush (20) (q := 74) dX6_init_72 rfl (by decide) ?_
    refine x_icmp_ge (t := 121) (q := 77) dX6_init_74 (by decide) rfl (fun c_ => absurd c_ (nI_ge (b := 20) hk (by decide))) (fun _ => ?_)
    refine x_ldcS (q := 79) dX6_init_77 rfl rfl rfl ?_
    refine x_iload (q := 81) dX6_init_79 rfl rfl ?_
    refine x_callT (As := [.int (nI i)]) (rest := []) (q := 84) dX6_init_81 rfl okJ0_charAt_5068e tw_290 rfl (c_chr0 (n0 + 3) h hi) rfl rfl (Nat.le_of_ble_eq_true rfl) ⟨by decide, by decide⟩ ⟨by decide, by decide⟩ (fun rv_ n_ h_ hv_ => ?_)
    obtain ⟨a1_, a2_, a3_⟩ := hv_
    rw [a1_, a2_, a3_]
    show Wp MX6_init 84 [some (.ref n0), some (.int (nI (kS i).1)), some (.long (kS i).2.1), none, some (.int (nI i)), x5] [.int (KWb.getD i 0)] (n0 + 3) h 2 20 _
    obtain ⟨ch, hch⟩ : ∃ ch, ch = KWb.getD i 0 := ⟨_, rfl⟩
    rw [← hch]
    refine x_istore (L2 := [some (.ref n0), some (.int (nI (kS i).1)), some (.long (kS i).2.1), none, some (.int (nI i)), some (.int ch)]) (q := 86) dX6_init_84 rfl (by decide) rfl rfl ?_
    refine x_iload (q := 88) dX6_init_86 rfl rfl ?_
    refine x_bipush (32) (q := 90) dX6_init_88 rfl (by decide) ?_
    refine x_icmp_ne (t := 108) (q := 93) dX6_init_90 (by decide) rfl (fun c_ => ?_) (fun c_ => ?_)
    · have ek : kS (i + 1) = ((kS i).1, ((kS i).2.1 <<< ((5 : Int32).toInt64 &&& 63)) ||| (ch - 97 + 1).toInt64, (kS i).2.2) := by
        show (if KWb.getD i 0 = 32 then _ else _) = _
        rw [← hch, if_neg c_]
      refine x_lload_n (q := 109) dX6_init_108 rfl rfl ?_
      refine x_iload (q := 111) dX6_init_109 rfl rfl ?_
      refine x_callS (As := [.long (kS i).2.1, .int ch]) (rest := []) (q := 114) dX6_init_111 rfl okX6_withLetter tw_328 (c_wlW (n0 + 3) h _ _) rfl rfl (Nat.le_of_ble_eq_true rfl) ⟨by decide, by decide⟩ ⟨by decide, by decide⟩ (fun rv_ n_ h_ hv_ => ?_)
      obtain ⟨a1_, a2_, a3_⟩ := hv_
      rw [a1_, a2_, a3_]
      show Wp MX6_init 114 [some (.ref n0), some (.int (nI (kS i).1)), some (.long (kS i).2.1), none, some (.int (nI i)), some (.int ch)] [.long (((kS i).2.1 <<< ((5 : Int32).toInt64 &&& 63)) ||| (ch - 97 + 1).toInt64)] (n0 + 3) h 2 20 _
      refine x_lstore_n (L2 := [some (.ref n0), some (.int (nI (kS i).1)), some (.long (((kS i).2.1 <<< ((5 : Int32).toInt64 &&& 63)) ||| (ch - 97 + 1).toInt64)), none, some (.int (nI i)), some (.int ch)]) (q := 115) dX6_init_114 rfl (by decide) rfl rfl ?_
      refine x_iinc (v := nI (i + 1)) (L2 := [some (.ref n0), some (.int (nI (kS i).1)), some (.long (((kS i).2.1 <<< ((5 : Int32).toInt64 &&& 63)) ||| (ch - 97 + 1).toInt64)), none, some (.int (nI (i + 1))), some (.int ch)]) (q := 118) dX6_init_115 rfl (by decide) rfl rfl (by show _ + (1 : Int32) = _; exact nI_add _ 1) rfl ?_
      refine x_goto (t := 61) dX6_init_118 (by decide) ?_
      have g := ih (i + 1) h (some (.int ch)) (by omega) e0 (by rw [ek]; exact e1) e2 eo
      rw [ek] at g
      exact g
    · have ek : kS (i + 1) = ((kS i).1 + 1, 0, vp_updL (kS i).2.2 (kS i).1 (kS i).2.1) := by
        show (if KWb.getD i 0 = 32 then _ else _) = _
        rw [← hch, if_pos c_]
      refine x_aload_n (q := 94) dX6_init_93 rfl rfl ?_
      refine x_get (ci := 6) (K := 0) (q := 97) dX6_init_94 rfl cl_6.1 cl_6.2.1 (by decide) tw_331 e0 (by omega) rfl ?_
      refine x_iload_n (q := 98) dX6_init_97 rfl rfl ?_
      refine x_lload_n (q := 99) dX6_init_98 rfl rfl ?_
      refine x_last (q := 100) dX6_init_99 rfl e1 (by omega) (vp_in_nI hk (by decide)) (fun h2 e3 o3 => ?_)
      rw [nI_clamp (by omega)] at e3
      refine x_lconst 0 (q := 101) dX6_init_100 rfl (by decide) ?_
      refine x_lstore_n (L2 := [some (.ref n0), some (.int (nI (kS i).1)), some (.long 0), none, some (.int (nI i)), some (.int ch)]) (q := 102) dX6_init_101 rfl (by decide) rfl rfl ?_
      refine x_iinc (v := nI ((kS i).1 + 1)) (L2 := [some (.ref n0), some (.int (nI ((kS i).1 + 1))), some (.long 0), none, some (.int (nI i)), some (.int ch)]) (q := 105) dX6_init_102 rfl (by decide) rfl rfl (by show _ + (1 : Int32) = _; exact nI_add _ 1) rfl ?_
      refine x_goto (t := 115) dX6_init_105 (by decide) ?_
      refine x_iinc (v := nI (i + 1)) (L2 := [some (.ref n0), some (.int (nI ((kS i).1 + 1))), some (.long 0), none, some (.int (nI (i + 1))), some (.int ch)]) (q := 118) dX6_init_115 rfl (by decide) rfl rfl (by show _ + (1 : Int32) = _; exact nI_add _ 1) rfl ?_
      refine x_goto (t := 61) dX6_init_118 (by decide) ?_
      have g := ih (i + 1) h2 (some (.int ch)) (by omega) (by rw [o3 n0 (by omega)]; exact e0) (by rw [ek]; exact e3) (by rw [o3 (n0 + 2) (by omega)]; exact e2) (fun j hj => by rw [o3 j (by omega)]; exact eo j hj)
      rw [ek] at g
      exact g
set_option maxRecDepth 100000 in
theorem ci_X6 {h : AH} {n0 : Nat} (hb : n0 ≤ 900) (e0_0 : h n0 = cO 6 [.null, .null, .int 0, .int 0, .int 0, .int 0, .int 0, .long 0, .int 0]) : Ct yX6_init MX6_init [.ref n0] (n0 + 1) h (PN h n0 (n0 + 3) (lc_X6 n0)) := by
  refine ct_of [some (.ref n0), none, none, none, none, none] 5 (by decide +kernel) rfl (fun _ => rfl) (Nat.le_of_ble_eq_true rfl) rfl ?_
  refine x_aload_n (q := 1) dX6_init_0 rfl rfl ?_
  refine x_obj (q := 4) dX6_init_1 rfl tw_278 tw_109 tw_110 (by decide) (by decide) ?_
  refine x_aload_n (q := 5) dX6_init_4 rfl rfl ?_
  refine x_bipush (20) (q := 7) dX6_init_5 rfl (by decide) ?_
  refine x_newal (N := 20) (n2 := n0 + 2) (q := 9) dX6_init_7 rfl tw_364 (by decide) (by decide) (by decide) rfl (by omega) (by decide) (by decide) (fun h1 e1_1 o1 => ?_)
  refine x_putF (ci := 6) (K := 0) (a := n0) (fs := [.null, .null, .int 0, .int 0, .int 0, .int 0, .int 0, .long 0, .int 0]) (q := 12) dX6_init_9 rfl cl_6.1 cl_6.2.1 cl_6.2.2.1 cl_6.2.2.2 (by decide) tw_331 rfl rfl rfl rfl rfl (by rw [o1 n0 (by omega)]; exact e0_0) (by omega) (Nat.le_of_ble_eq_true rfl) (fun h2 e2_0 o2 => ?_)
  have e2_0 : h2 n0 = cO 6 [.ref (n0 + 1), .null, .int 0, .int 0, .int 0, .int 0, .int 0, .long 0, .int 0] := e2_0
  refine x_aload_n (q := 13) dX6_init_12 rfl rfl ?_
  refine x_iconst (0) (q := 14) dX6_init_13 rfl (by decide) ?_
  refine x_newab (N := 0) (n2 := n0 + 3) (q := 16) dX6_init_14 rfl tw_152 (by decide) (by decide) (by decide) rfl (by omega) (by decide) (by decide) (fun h3 e3_2 o3 => ?_)
  refine x_put (ci := 6) (K := 1) (a := n0) (fs := [.ref (n0 + 1), .null, .int 0, .int 0, .int 0, .int 0, .int 0, .long 0, .int 0]) (q := 19) dX6_init_16 rfl cl_6.1 cl_6.2.1 cl_6.2.2.1 cl_6.2.2.2 (by decide) tw_332 rfl rfl rfl (by rw [o3 n0 (by omega)]; exact e2_0) (by omega) (Nat.le_of_ble_eq_true rfl) (fun h4 e4_0 o4 => ?_)
  have e4_0 : h4 n0 = cO 6 [.ref (n0 + 1), .ref (n0 + 2), .int 0, .int 0, .int 0, .int 0, .int 0, .long 0, .int 0] := e4_0
  refine x_aload_n (q := 20) dX6_init_19 rfl rfl ?_
  refine x_iconst (0) (q := 21) dX6_init_20 rfl (by decide) ?_
  refine x_put (ci := 6) (K := 2) (a := n0) (fs := [.ref (n0 + 1), .ref (n0 + 2), .int 0, .int 0, .int 0, .int 0, .int 0, .long 0, .int 0]) (q := 24) dX6_init_21 rfl cl_6.1 cl_6.2.1 cl_6.2.2.1 cl_6.2.2.2 (by decide) tw_333 rfl rfl rfl e4_0 (by omega) (Nat.le_of_ble_eq_true rfl) (fun h5 e5_0 o5 => ?_)
  have e5_0 : h5 n0 = cO 6 [.ref (n0 + 1), .ref (n0 + 2), .int 0, .int 0, .int 0, .int 0, .int 0, .long 0, .int 0] := e5_0
  refine x_aload_n (q := 25) dX6_init_24 rfl rfl ?_
  refine x_iconst (0) (q := 26) dX6_init_25 rfl (by decide) ?_
  refine x_put (ci := 6) (K := 3) (a := n0) (fs := [.ref (n0 + 1), .ref (n0 + 2), .int 0, .int 0, .int 0, .int 0, .int 0, .long 0, .int 0]) (q := 29) dX6_init_26 rfl cl_6.1 cl_6.2.1 cl_6.2.2.1 cl_6.2.2.2 (by decide) tw_334 rfl rfl rfl e5_0 (by omega) (Nat.le_of_ble_eq_true rfl) (fun h6 e6_0 o6 => ?_)
  have e6_0 : h6 n0 = cO 6 [.ref (n0 + 1), .ref (n0 + 2), .int 0, .int 0, .int 0, .int 0, .int 0, .long 0, .int 0] := e6_0
  refine x_aload_n (q := 30) dX6_init_29 rfl rfl ?_
  refine x_iconst (0) (q := 31) dX6_init_30 rfl (by decide) ?_
  refine x_put (ci := 6) (K := 4) (a := n0) (fs := [.ref (n0 + 1), .ref (n0 + 2), .int 0, .int 0, .int 0, .int 0, .int 0, .long 0, .int 0]) (q := 34) dX6_init_31 rfl cl_6.1 cl_6.2.1 cl_6.2.2.1 cl_6.2.2.2 (by decide) tw_335 rfl rfl rfl e6_0 (by omega) (Nat.le_of_ble_eq_true rfl) (fun h7 e7_0 o7 => ?_)
  have e7_0 : h7 n0 = cO 6 [.ref (n0 + 1), .ref (n0 + 2), .int 0, .int 0, .int 0, .int 0, .int 0, .long 0, .int 0] := e7_0
  refine x_aload_n (q := 35) dX6_init_34 rfl rfl ?_
  refine x_iconst (0) (q := 36) dX6_init_35 rfl (by decide) ?_
  refine x_put (ci := 6) (K := 5) (a := n0) (fs := [.ref (n0 + 1), .ref (n0 + 2), .int 0, .int 0, .int 0, .int 0, .int 0, .long 0, .int 0]) (q := 39) dX6_init_36 rfl cl_6.1 cl_6.2.1 cl_6.2.2.1 cl_6.2.2.2 (by decide) tw_337 rfl rfl rfl e7_0 (by omega) (Nat.le_of_ble_eq_true rfl) (fun h8 e8_0 o8 => ?_)
  have e8_0 : h8 n0 = cO 6 [.ref (n0 + 1), .ref (n0 + 2), .int 0, .int 0, .int 0, .int 0, .int 0, .long 0, .int 0] := e8_0
  refine x_aload_n (q := 40) dX6_init_39 rfl rfl ?_
  refine x_iconst (0) (q := 41) dX6_init_40 rfl (by decide) ?_
  refine x_put (ci := 6) (K := 6) (a := n0) (fs := [.ref (n0 + 1), .ref (n0 + 2), .int 0, .int 0, .int 0, .int 0, .int 0, .long 0, .int 0]) (q := 44) dX6_init_41 rfl cl_6.1 cl_6.2.1 cl_6.2.2.1 cl_6.2.2.2 (by decide) tw_339 rfl rfl rfl e8_0 (by omega) (Nat.le_of_ble_eq_true rfl) (fun h9 e9_0 o9 => ?_)
  have e9_0 : h9 n0 = cO 6 [.ref (n0 + 1), .ref (n0 + 2), .int 0, .int 0, .int 0, .int 0, .int 0, .long 0, .int 0] := e9_0
  refine x_aload_n (q := 45) dX6_init_44 rfl rfl ?_
  refine x_lconst 0 (q := 46) dX6_init_45 rfl (by decide) ?_
  refine x_put (ci := 6) (K := 7) (a := n0) (fs := [.ref (n0 + 1), .ref (n0 + 2), .int 0, .int 0, .int 0, .int 0, .int 0, .long 0, .int 0]) (q := 49) dX6_init_46 rfl cl_6.1 cl_6.2.1 cl_6.2.2.1 cl_6.2.2.2 (by decide) tw_341 rfl rfl rfl e9_0 (by omega) (Nat.le_of_ble_eq_true rfl) (fun h10 e10_0 o10 => ?_)
  have e10_0 : h10 n0 = cO 6 [.ref (n0 + 1), .ref (n0 + 2), .int 0, .int 0, .int 0, .int 0, .int 0, .long 0, .int 0] := e10_0
  refine x_aload_n (q := 50) dX6_init_49 rfl rfl ?_
  refine x_iconst (-1) (q := 51) dX6_init_50 rfl (by decide) ?_
  refine x_put (ci := 6) (K := 8) (a := n0) (fs := [.ref (n0 + 1), .ref (n0 + 2), .int 0, .int 0, .int 0, .int 0, .int 0, .long 0, .int 0]) (q := 54) dX6_init_51 rfl cl_6.1 cl_6.2.1 cl_6.2.2.1 cl_6.2.2.2 (by decide) tw_343 rfl rfl rfl e10_0 (by omega) (Nat.le_of_ble_eq_true rfl) (fun h11 e11_0 o11 => ?_)
  have e11_0 : h11 n0 = cO 6 [.ref (n0 + 1), .ref (n0 + 2), .int 0, .int 0, .int 0, .int 0, .int 0, .long 0, .int (-1)] := e11_0
  refine x_iconst (0) (q := 55) dX6_init_54 rfl (by decide) ?_
  refine x_istore_n (L2 := [some (.ref n0), some (.int 0), none, none, none, none]) (q := 56) dX6_init_55 rfl (by decide) rfl rfl ?_
  refine x_lconst 0 (q := 57) dX6_init_56 rfl (by decide) ?_
  refine x_lstore_n (L2 := [some (.ref n0), some (.int 0), some (.long 0), none, none, none]) (q := 58) dX6_init_57 rfl (by decide) rfl rfl ?_
  refine x_iconst (0) (q := 59) dX6_init_58 rfl (by decide) ?_
  refine x_istore (L2 := [some (.ref n0), some (.int 0), some (.long 0), none, some (.int 0), none]) (q := 61) dX6_init_59 rfl (by decide) rfl rfl ?_
  exact l_lex 110 0 h11 none rfl e11_0 (by rw [o11 (n0 + 1) (by omega), o10 (n0 + 1) (by omega), o9 (n0 + 1) (by omega), o8 (n0 + 1) (by omega), o7 (n0 + 1) (by omega), o6 (n0 + 1) (by omega), o5 (n0 + 1) (by omega), o4 (n0 + 1) (by omega), o3 (n0 + 1) (by omega), o2 (n0 + 1) (by omega)]; exact e1_1) (by rw [o11 (n0 + 2) (by omega), o10 (n0 + 2) (by omega), o9 (n0 + 2) (by omega), o8 (n0 + 2) (by omega), o7 (n0 + 2) (by omega), o6 (n0 + 2) (by omega), o5 (n0 + 2) (by omega), o4 (n0 + 2) (by omega)]; exact e3_2) (fun j hj => by rw [o11 j (by omega), o10 j (by omega), o9 j (by omega), o8 j (by omega), o7 j (by omega), o6 j (by omega), o5 j (by omega), o4 j (by omega), o3 j (by omega), o2 j (by omega), o1 j (by omega)])
def lc_X8 (n0 : Nat) (d : Nat) : List AC := [cO 8 [.ref (n0 + 1), .ref d, .int 0, .int (-1), .int 0], cO 6 [.ref (n0 + 2), .ref (n0 + 3), .int 0, .int 0, .int 0, .int 0, .int 0, .long 0, .int (-1)], cJ 20 (kS 110).2.2, cI 1 0 (fun _ => 0)]
set_option maxRecDepth 100000 in
theorem ci_X8 {h : AH} {n0 : Nat} (hb : n0 ≤ 800) (d : Nat) (hd : d < n0) (e0_0 : h n0 = cO 8 [.null, .null, .int 0, .int 0, .int 0]) : Ct yX8_init MX8_init [.ref n0, .ref d] (n0 + 1) h (PN h n0 (n0 + 4) (lc_X8 n0 d)) := by
  refine ct_of [some (.ref n0), some (.ref d)] 0 (by decide +kernel) rfl (fun _ => rfl) (Nat.le_of_ble_eq_true rfl) rfl ?_
  refine x_aload_n (q := 1) dX8_init_0 rfl rfl ?_
  refine x_obj (q := 4) dX8_init_1 rfl tw_272 tw_109 tw_110 (by decide) (by decide) ?_
  refine x_aload_n (q := 5) dX8_init_4 rfl rfl ?_
  refine x_new (fs := [.null, .null, .int 0, .int 0, .int 0, .int 0, .int 0, .long 0, .int 0]) (n2 := n0 + 2) (q := 8) dX8_init_5 rfl cl_6 tw_273 tw_274 tw_86 (by decide) (fun _ => rfl) rfl (by omega) (by decide) (by decide) (fun h1 e1_1 o1 => ?_)
  refine x_dup (q := 9) dX8_init_8 rfl rfl ?_
  refine x_callI (a := n0 + 1) (As := []) (rest := [.ref (n0 + 1), .ref n0]) (q := 12) dX8_init_9 rfl okX6_init tw_275 (ci_X6 (n0 := n0 + 1) (by omega) e1_1) (by omega) rfl rfl (Nat.le_of_ble_eq_true rfl) ⟨by decide, by decide⟩ ⟨by decide, by decide⟩ (fun rv_ n_ h2 hv_ => ?_)
  obtain ⟨a1_, a2_, o2, l2⟩ := hv_
  rw [a1_, a2_]
  have e2_1 : h2 (n0 + 1) = cO 6 [.ref (n0 + 2), .ref (n0 + 3), .int 0, .int 0, .int 0, .int 0, .int 0, .long 0, .int (-1)] := l2.1
  have e2_2 : h2 (n0 + 2) = cJ 20 (kS 110).2.2 := l2.2.1
  have e2_3 : h2 (n0 + 3) = cI 1 0 (fun _ => 0) := l2.2.2.1
  show Wp MX8_init 12 [some (.ref n0), some (.ref d)] [.ref (n0 + 1), .ref n0] (n0 + 4) h2 _ _ _
  refine x_putF (ci := 8) (K := 0) (a := n0) (fs := [.null, .null, .int 0, .int 0, .int 0]) (q := 15) dX8_init_12 rfl cl_8.1 cl_8.2.1 cl_8.2.2.1 cl_8.2.2.2 (by decide) tw_365 rfl rfl rfl rfl rfl (by rw [o2 n0 (by omega), o1 n0 (by omega)]; exact e0_0) (by omega) (Nat.le_of_ble_eq_true rfl) (fun h3 e3_0 o3 => ?_)
  have e3_0 : h3 n0 = cO 8 [.ref (n0 + 1), .null, .int 0, .int 0, .int 0] := e3_0
  refine x_aload_n (q := 16) dX8_init_15 rfl rfl ?_
  refine x_iconst (0) (q := 17) dX8_init_16 rfl (by decide) ?_
  refine x_put (ci := 8) (K := 2) (a := n0) (fs := [.ref (n0 + 1), .null, .int 0, .int 0, .int 0]) (q := 20) dX8_init_17 rfl cl_8.1 cl_8.2.1 cl_8.2.2.1 cl_8.2.2.2 (by decide) tw_367 rfl rfl rfl e3_0 (by omega) (Nat.le_of_ble_eq_true rfl) (fun h4 e4_0 o4 => ?_)
  have e4_0 : h4 n0 = cO 8 [.ref (n0 + 1), .null, .int 0, .int 0, .int 0] := e4_0
  refine x_aload_n (q := 21) dX8_init_20 rfl rfl ?_
  refine x_iconst (-1) (q := 22) dX8_init_21 rfl (by decide) ?_
  refine x_put (ci := 8) (K := 3) (a := n0) (fs := [.ref (n0 + 1), .null, .int 0, .int 0, .int 0]) (q := 25) dX8_init_22 rfl cl_8.1 cl_8.2.1 cl_8.2.2.1 cl_8.2.2.2 (by decide) tw_369 rfl rfl rfl e4_0 (by omega) (Nat.le_of_ble_eq_true rfl) (fun h5 e5_0 o5 => ?_)
  have e5_0 : h5 n0 = cO 8 [.ref (n0 + 1), .null, .int 0, .int (-1), .int 0] := e5_0
  refine x_aload_n (q := 26) dX8_init_25 rfl rfl ?_
  refine x_iconst (0) (q := 27) dX8_init_26 rfl (by decide) ?_
  refine x_put (ci := 8) (K := 4) (a := n0) (fs := [.ref (n0 + 1), .null, .int 0, .int (-1), .int 0]) (q := 30) dX8_init_27 rfl cl_8.1 cl_8.2.1 cl_8.2.2.1 cl_8.2.2.2 (by decide) tw_371 rfl rfl rfl e5_0 (by omega) (Nat.le_of_ble_eq_true rfl) (fun h6 e6_0 o6 => ?_)
  have e6_0 : h6 n0 = cO 8 [.ref (n0 + 1), .null, .int 0, .int (-1), .int 0] := e6_0
  refine x_aload_n (q := 31) dX8_init_30 rfl rfl ?_
  refine x_aload_n (q := 32) dX8_init_31 rfl rfl ?_
  refine x_put (ci := 8) (K := 1) (a := n0) (fs := [.ref (n0 + 1), .null, .int 0, .int (-1), .int 0]) (q := 35) dX8_init_32 rfl cl_8.1 cl_8.2.1 cl_8.2.2.1 cl_8.2.2.2 (by decide) tw_366 rfl rfl rfl e6_0 (by omega) (Nat.le_of_ble_eq_true rfl) (fun h7 e7_0 o7 => ?_)
  have e7_0 : h7 n0 = cO 8 [.ref (n0 + 1), .ref d, .int 0, .int (-1), .int 0] := e7_0
  refine x_vret dX8_init_35 rfl (by decide) (by decide) ?_
  refine ⟨rfl, rfl, fun i_ hi_ => ?_, e7_0, (by rw [o7 (n0 + 1) (by omega), o6 (n0 + 1) (by omega), o5 (n0 + 1) (by omega), o4 (n0 + 1) (by omega), o3 (n0 + 1) (by omega)]; exact e2_1), (by rw [o7 (n0 + 2) (by omega), o6 (n0 + 2) (by omega), o5 (n0 + 2) (by omega), o4 (n0 + 2) (by omega), o3 (n0 + 2) (by omega)]; exact e2_2), (by rw [o7 (n0 + 3) (by omega), o6 (n0 + 3) (by omega), o5 (n0 + 3) (by omega), o4 (n0 + 3) (by omega), o3 (n0 + 3) (by omega)]; exact e2_3), trivial⟩
  rw [o7 i_ (by omega), o6 i_ (by omega), o5 i_ (by omega), o4 i_ (by omega), o3 i_ (by omega), o2 i_ (by omega), o1 i_ (by omega)]
def lc_X1 (n0 : Nat) (d : Nat) (v : Int32) : List AC := [cO 1 [.ref d, .ref (n0 + 1), .int 0, .int 0, .int v], cR 5 8 (va_up (va_up (va_up (va_up (va_up (va_up (va_up (va_up (fun _ => none) (0 : Int32).toNatClampNeg (some (n0 + 2))) (1 : Int32).toNatClampNeg (some (n0 + 4))) (2 : Int32).toNatClampNeg (some (n0 + 6))) (3 : Int32).toNatClampNeg (some (n0 + 8))) (4 : Int32).toNatClampNeg (some (n0 + 10))) (5 : Int32).toNatClampNeg (some (n0 + 12))) (6 : Int32).toNatClampNeg (some (n0 + 14))) (7 : Int32).toNatClampNeg (some (n0 + 16))), cO 4 [.ref (n0 + 3), .int 0, .int 0, .int 0, .int 0], cI 0 5 (fun _ => 0), cO 4 [.ref (n0 + 5), .int 0, .int 0, .int 0, .int 0], cI 0 5 (fun _ => 0), cO 4 [.ref (n0 + 7), .int 0, .int 0, .int 0, .int 0], cI 0 5 (fun _ => 0), cO 4 [.ref (n0 + 9), .int 0, .int 0, .int 0, .int 0], cI 0 5 (fun _ => 0), cO 4 [.ref (n0 + 11), .int 0, .int 0, .int 0, .int 0], cI 0 5 (fun _ => 0), cO 4 [.ref (n0 + 13), .int 0, .int 0, .int 0, .int 0], cI 0 5 (fun _ => 0), cO 4 [.ref (n0 + 15), .int 0, .int 0, .int 0, .int 0], cI 0 5 (fun _ => 0), cO 4 [.ref (n0 + 17), .int 0, .int 0, .int 0, .int 0], cI 0 5 (fun _ => 0)]
set_option maxRecDepth 100000 in
theorem ci_X1 {h : AH} {n0 : Nat} (hb : n0 ≤ 800) (d : Nat) (hd : d < n0) {fsL : List Value} {v : Int32} (hL : h d = cO 5 fsL) (hv : fsL[16]? = some (.int v)) (e0_0 : h n0 = cO 1 [.null, .null, .int 0, .int 0, .int 0]) : Ct yX1_init MX1_init [.ref n0, .ref d] (n0 + 1) h (PN h n0 (n0 + 18) (lc_X1 n0 d v)) := by
  refine ct_of [some (.ref n0), some (.ref d), none] 1 (by decide +kernel) rfl (fun _ => rfl) (Nat.le_of_ble_eq_true rfl) rfl ?_
  refine x_aload_n (q := 1) dX1_init_0 rfl rfl ?_
  refine x_obj (q := 4) dX1_init_1 rfl tw_388 tw_109 tw_110 (by decide) (by decide) ?_
  refine x_aload_n (q := 5) dX1_init_4 rfl rfl ?_
  refine x_bipush (8) (q := 7) dX1_init_5 rfl (by decide) ?_
  refine x_anew5 (N := 8) (n2 := n0 + 2) (q := 10) dX1_init_7 rfl tw_389 (by decide) (by decide) (by decide) rfl (by omega) (by decide) (by decide) (fun h1 e1_1 o1 => ?_)
  refine x_putF (ci := 1) (K := 1) (a := n0) (fs := [.null, .null, .int 0, .int 0, .int 0]) (q := 13) dX1_init_10 rfl cl_1.1 cl_1.2.1 cl_1.2.2.1 cl_1.2.2.2 (by decide) tw_426 rfl rfl rfl rfl rfl (by rw [o1 n0 (by omega)]; exact e0_0) (by omega) (Nat.le_of_ble_eq_true rfl) (fun h2 e2_0 o2 => ?_)
  have e2_0 : h2 n0 = cO 1 [.null, .ref (n0 + 1), .int 0, .int 0, .int 0] := e2_0
  refine x_aload_n (q := 14) dX1_init_13 rfl rfl ?_
  refine x_iconst (0) (q := 15) dX1_init_14 rfl (by decide) ?_
  refine x_put (ci := 1) (K := 2) (a := n0) (fs := [.null, .ref (n0 + 1), .int 0, .int 0, .int 0]) (q := 18) dX1_init_15 rfl cl_1.1 cl_1.2.1 cl_1.2.2.1 cl_1.2.2.2 (by decide) tw_429 rfl rfl rfl e2_0 (by omega) (Nat.le_of_ble_eq_true rfl) (fun h3 e3_0 o3 => ?_)
  have e3_0 : h3 n0 = cO 1 [.null, .ref (n0 + 1), .int 0, .int 0, .int 0] := e3_0
  refine x_aload_n (q := 19) dX1_init_18 rfl rfl ?_
  refine x_iconst (0) (q := 20) dX1_init_19 rfl (by decide) ?_
  refine x_put (ci := 1) (K := 3) (a := n0) (fs := [.null, .ref (n0 + 1), .int 0, .int 0, .int 0]) (q := 23) dX1_init_20 rfl cl_1.1 cl_1.2.1 cl_1.2.2.1 cl_1.2.2.2 (by decide) tw_432 rfl rfl rfl e3_0 (by omega) (Nat.le_of_ble_eq_true rfl) (fun h4 e4_0 o4 => ?_)
  have e4_0 : h4 n0 = cO 1 [.null, .ref (n0 + 1), .int 0, .int 0, .int 0] := e4_0
  refine x_aload_n (q := 24) dX1_init_23 rfl rfl ?_
  refine x_aload_n (q := 25) dX1_init_24 rfl rfl ?_
  refine x_put (ci := 1) (K := 0) (a := n0) (fs := [.null, .ref (n0 + 1), .int 0, .int 0, .int 0]) (q := 28) dX1_init_25 rfl cl_1.1 cl_1.2.1 cl_1.2.2.1 cl_1.2.2.2 (by decide) tw_421 rfl rfl rfl e4_0 (by omega) (Nat.le_of_ble_eq_true rfl) (fun h5 e5_0 o5 => ?_)
  have e5_0 : h5 n0 = cO 1 [.ref d, .ref (n0 + 1), .int 0, .int 0, .int 0] := e5_0
  refine x_aload_n (q := 29) dX1_init_28 rfl rfl ?_
  refine x_aload_n (q := 30) dX1_init_29 rfl rfl ?_
  refine x_get (ci := 5) (K := 16) (fs := fsL) (q := 33) dX1_init_30 rfl cl_5.1 cl_5.2.1 (by decide) tw_225 (by rw [o5 d (by omega), o4 d (by omega), o3 d (by omega), o2 d (by omega), o1 d (by omega)]; exact hL) (by omega) hv ?_
  refine x_put (ci := 1) (K := 4) (a := n0) (fs := [.ref d, .ref (n0 + 1), .int 0, .int 0, .int 0]) (q := 36) dX1_init_33 rfl cl_1.1 cl_1.2.1 cl_1.2.2.1 cl_1.2.2.2 (by decide) tw_434 rfl rfl rfl e5_0 (by omega) (Nat.le_of_ble_eq_true rfl) (fun h6 e6_0 o6 => ?_)
  have e6_0 : h6 n0 = cO 1 [.ref d, .ref (n0 + 1), .int 0, .int 0, .int v] := e6_0
  refine x_iconst (0) (q := 37) dX1_init_36 rfl (by decide) ?_
  refine x_istore_n (L2 := [some (.ref n0), some (.ref d), some (.int 0)]) (q := 38) dX1_init_37 rfl (by decide) rfl rfl ?_
  refine x_iload_n (q := 39) dX1_init_38 rfl rfl ?_
  refine x_bipush (8) (q := 41) dX1_init_39 rfl (by decide) ?_
  refine x_icmp_ge (t := 63) (q := 44) dX1_init_41 (by decide) rfl (fun c_ => absurd c_ (by decide)) (fun _ => ?_)
  refine x_aload_n (q := 45) dX1_init_44 rfl rfl ?_
  refine x_get (ci := 1) (K := 1) (fs := [.ref d, .ref (n0 + 1), .int 0, .int 0, .int v]) (q := 48) dX1_init_45 rfl cl_1.1 cl_1.2.1 (by decide) tw_426 e6_0 (by omega) rfl ?_
  refine x_iload_n (q := 49) dX1_init_48 rfl rfl ?_
  refine x_new (fs := [.null, .int 0, .int 0, .int 0, .int 0]) (n2 := n0 + 3) (q := 52) dX1_init_49 rfl cl_4 tw_389 tw_391 tw_92 (by decide) (fun _ => rfl) rfl (by omega) (by decide) (by decide) (fun h7 e7_2 o7 => ?_)
  refine x_dup (q := 53) dX1_init_52 rfl rfl ?_
  refine x_callN (host := "WhiteRoads") (a := n0 + 2) (As := []) (rest := [.ref (n0 + 2), .int 0, .ref (n0 + 1)]) (q := 56) dX1_init_53 rfl okX4_init (by decide) (ci_X4 (n0 := n0 + 2) (by omega) e7_2) (by omega) rfl rfl (Nat.le_of_ble_eq_true rfl) ⟨by decide, by decide⟩ ⟨by decide, by decide⟩ (fun rv_ n_ h8 hv_ => ?_)
  obtain ⟨a1_, a2_, o8, l8⟩ := hv_
  rw [a1_, a2_]
  have e8_2 : h8 (n0 + 2) = cO 4 [.ref (n0 + 3), .int 0, .int 0, .int 0, .int 0] := l8.1
  have e8_3 : h8 (n0 + 3) = cI 0 5 (fun _ => 0) := l8.2.1
  show Wp MX1_init 56 [some (.ref n0), some (.ref d), some (.int 0)] [.ref (n0 + 2), .int 0, .ref (n0 + 1)] (n0 + 4) h8 _ _ _
  refine x_aast5 (a := n0 + 1) (b := n0 + 2) (N := 8) (q := 57) dX1_init_56 rfl (by rw [o8 (n0 + 1) (by omega), o7 (n0 + 1) (by omega), o6 (n0 + 1) (by omega), o5 (n0 + 1) (by omega), o4 (n0 + 1) (by omega), o3 (n0 + 1) (by omega), o2 (n0 + 1) (by omega)]; exact e1_1) (by omega) e8_2 (by omega) (vin (by decide)) (fun h9 e9_1 o9 => ?_)
  refine x_iinc (v := 1) (L2 := [some (.ref n0), some (.ref d), some (.int 1)]) (q := 60) dX1_init_57 rfl (by decide) rfl rfl (by decide) rfl ?_
  refine x_goto (t := 38) dX1_init_60 (by decide) ?_
  refine x_iload_n (q := 39) dX1_init_38 rfl rfl ?_
  refine x_bipush (8) (q := 41) dX1_init_39 rfl (by decide) ?_
  refine x_icmp_ge (t := 63) (q := 44) dX1_init_41 (by decide) rfl (fun c_ => absurd c_ (by decide)) (fun _ => ?_)
  refine x_aload_n (q := 45) dX1_init_44 rfl rfl ?_
  refine x_get (ci := 1) (K := 1) (fs := [.ref d, .ref (n0 + 1), .int 0, .int 0, .int v]) (q := 48) dX1_init_45 rfl cl_1.1 cl_1.2.1 (by decide) tw_426 (by rw [o9 n0 (by omega), o8 n0 (by omega), o7 n0 (by omega)]; exact e6_0) (by omega) rfl ?_
  refine x_iload_n (q := 49) dX1_init_48 rfl rfl ?_
  refine x_new (fs := [.null, .int 0, .int 0, .int 0, .int 0]) (n2 := n0 + 5) (q := 52) dX1_init_49 rfl cl_4 tw_389 tw_391 tw_92 (by decide) (fun _ => rfl) rfl (by omega) (by decide) (by decide) (fun h10 e10_4 o10 => ?_)
  refine x_dup (q := 53) dX1_init_52 rfl rfl ?_
  refine x_callN (host := "WhiteRoads") (a := n0 + 4) (As := []) (rest := [.ref (n0 + 4), .int 1, .ref (n0 + 1)]) (q := 56) dX1_init_53 rfl okX4_init (by decide) (ci_X4 (n0 := n0 + 4) (by omega) e10_4) (by omega) rfl rfl (Nat.le_of_ble_eq_true rfl) ⟨by decide, by decide⟩ ⟨by decide, by decide⟩ (fun rv_ n_ h11 hv_ => ?_)
  obtain ⟨a1_, a2_, o11, l11⟩ := hv_
  rw [a1_, a2_]
  have e11_4 : h11 (n0 + 4) = cO 4 [.ref (n0 + 5), .int 0, .int 0, .int 0, .int 0] := l11.1
  have e11_5 : h11 (n0 + 5) = cI 0 5 (fun _ => 0) := l11.2.1
  show Wp MX1_init 56 [some (.ref n0), some (.ref d), some (.int 1)] [.ref (n0 + 4), .int 1, .ref (n0 + 1)] (n0 + 6) h11 _ _ _
  refine x_aast5 (a := n0 + 1) (b := n0 + 4) (N := 8) (q := 57) dX1_init_56 rfl (by rw [o11 (n0 + 1) (by omega), o10 (n0 + 1) (by omega)]; exact e9_1) (by omega) e11_4 (by omega) (vin (by decide)) (fun h12 e12_1 o12 => ?_)
  refine x_iinc (v := 2) (L2 := [some (.ref n0), some (.ref d), some (.int 2)]) (q := 60) dX1_init_57 rfl (by decide) rfl rfl (by decide) rfl ?_
  refine x_goto (t := 38) dX1_init_60 (by decide) ?_
  refine x_iload_n (q := 39) dX1_init_38 rfl rfl ?_
  refine x_bipush (8) (q := 41) dX1_init_39 rfl (by decide) ?_
  refine x_icmp_ge (t := 63) (q := 44) dX1_init_41 (by decide) rfl (fun c_ => absurd c_ (by decide)) (fun _ => ?_)
  refine x_aload_n (q := 45) dX1_init_44 rfl rfl ?_
  refine x_get (ci := 1) (K := 1) (fs := [.ref d, .ref (n0 + 1), .int 0, .int 0, .int v]) (q := 48) dX1_init_45 rfl cl_1.1 cl_1.2.1 (by decide) tw_426 (by rw [o12 n0 (by omega), o11 n0 (by omega), o10 n0 (by omega), o9 n0 (by omega), o8 n0 (by omega), o7 n0 (by omega)]; exact e6_0) (by omega) rfl ?_
  refine x_iload_n (q := 49) dX1_init_48 rfl rfl ?_
  refine x_new (fs := [.null, .int 0, .int 0, .int 0, .int 0]) (n2 := n0 + 7) (q := 52) dX1_init_49 rfl cl_4 tw_389 tw_391 tw_92 (by decide) (fun _ => rfl) rfl (by omega) (by decide) (by decide) (fun h13 e13_6 o13 => ?_)
  refine x_dup (q := 53) dX1_init_52 rfl rfl ?_
  refine x_callN (host := "WhiteRoads") (a := n0 + 6) (As := []) (rest := [.ref (n0 + 6), .int 2, .ref (n0 + 1)]) (q := 56) dX1_init_53 rfl okX4_init (by decide) (ci_X4 (n0 := n0 + 6) (by omega) e13_6) (by omega) rfl rfl (Nat.le_of_ble_eq_true rfl) ⟨by decide, by decide⟩ ⟨by decide, by decide⟩ (fun rv_ n_ h14 hv_ => ?_)
  obtain ⟨a1_, a2_, o14, l14⟩ := hv_
  rw [a1_, a2_]
  have e14_6 : h14 (n0 + 6) = cO 4 [.ref (n0 + 7), .int 0, .int 0, .int 0, .int 0] := l14.1
  have e14_7 : h14 (n0 + 7) = cI 0 5 (fun _ => 0) := l14.2.1
  show Wp MX1_init 56 [some (.ref n0), some (.ref d), some (.int 2)] [.ref (n0 + 6), .int 2, .ref (n0 + 1)] (n0 + 8) h14 _ _ _
  refine x_aast5 (a := n0 + 1) (b := n0 + 6) (N := 8) (q := 57) dX1_init_56 rfl (by rw [o14 (n0 + 1) (by omega), o13 (n0 + 1) (by omega)]; exact e12_1) (by omega) e14_6 (by omega) (vin (by decide)) (fun h15 e15_1 o15 => ?_)
  refine x_iinc (v := 3) (L2 := [some (.ref n0), some (.ref d), some (.int 3)]) (q := 60) dX1_init_57 rfl (by decide) rfl rfl (by decide) rfl ?_
  refine x_goto (t := 38) dX1_init_60 (by decide) ?_
  refine x_iload_n (q := 39) dX1_init_38 rfl rfl ?_
  refine x_bipush (8) (q := 41) dX1_init_39 rfl (by decide) ?_
  refine x_icmp_ge (t := 63) (q := 44) dX1_init_41 (by decide) rfl (fun c_ => absurd c_ (by decide)) (fun _ => ?_)
  refine x_aload_n (q := 45) dX1_init_44 rfl rfl ?_
  refine x_get (ci := 1) (K := 1) (fs := [.ref d, .ref (n0 + 1), .int 0, .int 0, .int v]) (q := 48) dX1_init_45 rfl cl_1.1 cl_1.2.1 (by decide) tw_426 (by rw [o15 n0 (by omega), o14 n0 (by omega), o13 n0 (by omega), o12 n0 (by omega), o11 n0 (by omega), o10 n0 (by omega), o9 n0 (by omega), o8 n0 (by omega), o7 n0 (by omega)]; exact e6_0) (by omega) rfl ?_
  refine x_iload_n (q := 49) dX1_init_48 rfl rfl ?_
  refine x_new (fs := [.null, .int 0, .int 0, .int 0, .int 0]) (n2 := n0 + 9) (q := 52) dX1_init_49 rfl cl_4 tw_389 tw_391 tw_92 (by decide) (fun _ => rfl) rfl (by omega) (by decide) (by decide) (fun h16 e16_8 o16 => ?_)
  refine x_dup (q := 53) dX1_init_52 rfl rfl ?_
  refine x_callN (host := "WhiteRoads") (a := n0 + 8) (As := []) (rest := [.ref (n0 + 8), .int 3, .ref (n0 + 1)]) (q := 56) dX1_init_53 rfl okX4_init (by decide) (ci_X4 (n0 := n0 + 8) (by omega) e16_8) (by omega) rfl rfl (Nat.le_of_ble_eq_true rfl) ⟨by decide, by decide⟩ ⟨by decide, by decide⟩ (fun rv_ n_ h17 hv_ => ?_)
  obtain ⟨a1_, a2_, o17, l17⟩ := hv_
  rw [a1_, a2_]
  have e17_8 : h17 (n0 + 8) = cO 4 [.ref (n0 + 9), .int 0, .int 0, .int 0, .int 0] := l17.1
  have e17_9 : h17 (n0 + 9) = cI 0 5 (fun _ => 0) := l17.2.1
  show Wp MX1_init 56 [some (.ref n0), some (.ref d), some (.int 3)] [.ref (n0 + 8), .int 3, .ref (n0 + 1)] (n0 + 10) h17 _ _ _
  refine x_aast5 (a := n0 + 1) (b := n0 + 8) (N := 8) (q := 57) dX1_init_56 rfl (by rw [o17 (n0 + 1) (by omega), o16 (n0 + 1) (by omega)]; exact e15_1) (by omega) e17_8 (by omega) (vin (by decide)) (fun h18 e18_1 o18 => ?_)
  refine x_iinc (v := 4) (L2 := [some (.ref n0), some (.ref d), some (.int 4)]) (q := 60) dX1_init_57 rfl (by decide) rfl rfl (by decide) rfl ?_
  refine x_goto (t := 38) dX1_init_60 (by decide) ?_
  refine x_iload_n (q := 39) dX1_init_38 rfl rfl ?_
  refine x_bipush (8) (q := 41) dX1_init_39 rfl (by decide) ?_
  refine x_icmp_ge (t := 63) (q := 44) dX1_init_41 (by decide) rfl (fun c_ => absurd c_ (by decide)) (fun _ => ?_)
  refine x_aload_n (q := 45) dX1_init_44 rfl rfl ?_
  refine x_get (ci := 1) (K := 1) (fs := [.ref d, .ref (n0 + 1), .int 0, .int 0, .int v]) (q := 48) dX1_init_45 rfl cl_1.1 cl_1.2.1 (by decide) tw_426 (by rw [o18 n0 (by omega), o17 n0 (by omega), o16 n0 (by omega), o15 n0 (by omega), o14 n0 (by omega), o13 n0 (by omega), o12 n0 (by omega), o11 n0 (by omega), o10 n0 (by omega), o9 n0 (by omega), o8 n0 (by omega), o7 n0 (by omega)]; exact e6_0) (by omega) rfl ?_
  refine x_iload_n (q := 49) dX1_init_48 rfl rfl ?_
  refine x_new (fs := [.null, .int 0, .int 0, .int 0, .int 0]) (n2 := n0 + 11) (q := 52) dX1_init_49 rfl cl_4 tw_389 tw_391 tw_92 (by decide) (fun _ => rfl) rfl (by omega) (by decide) (by decide) (fun h19 e19_10 o19 => ?_)
  refine x_dup (q := 53) dX1_init_52 rfl rfl ?_
  refine x_callN (host := "WhiteRoads") (a := n0 + 10) (As := []) (rest := [.ref (n0 + 10), .int 4, .ref (n0 + 1)]) (q := 56) dX1_init_53 rfl okX4_init (by decide) (ci_X4 (n0 := n0 + 10) (by omega) e19_10) (by omega) rfl rfl (Nat.le_of_ble_eq_true rfl) ⟨by decide, by decide⟩ ⟨by decide, by decide⟩ (fun rv_ n_ h20 hv_ => ?_)
  obtain ⟨a1_, a2_, o20, l20⟩ := hv_
  rw [a1_, a2_]
  have e20_10 : h20 (n0 + 10) = cO 4 [.ref (n0 + 11), .int 0, .int 0, .int 0, .int 0] := l20.1
  have e20_11 : h20 (n0 + 11) = cI 0 5 (fun _ => 0) := l20.2.1
  show Wp MX1_init 56 [some (.ref n0), some (.ref d), some (.int 4)] [.ref (n0 + 10), .int 4, .ref (n0 + 1)] (n0 + 12) h20 _ _ _
  refine x_aast5 (a := n0 + 1) (b := n0 + 10) (N := 8) (q := 57) dX1_init_56 rfl (by rw [o20 (n0 + 1) (by omega), o19 (n0 + 1) (by omega)]; exact e18_1) (by omega) e20_10 (by omega) (vin (by decide)) (fun h21 e21_1 o21 => ?_)
  refine x_iinc (v := 5) (L2 := [some (.ref n0), some (.ref d), some (.int 5)]) (q := 60) dX1_init_57 rfl (by decide) rfl rfl (by decide) rfl ?_
  refine x_goto (t := 38) dX1_init_60 (by decide) ?_
  refine x_iload_n (q := 39) dX1_init_38 rfl rfl ?_
  refine x_bipush (8) (q := 41) dX1_init_39 rfl (by decide) ?_
  refine x_icmp_ge (t := 63) (q := 44) dX1_init_41 (by decide) rfl (fun c_ => absurd c_ (by decide)) (fun _ => ?_)
  refine x_aload_n (q := 45) dX1_init_44 rfl rfl ?_
  refine x_get (ci := 1) (K := 1) (fs := [.ref d, .ref (n0 + 1), .int 0, .int 0, .int v]) (q := 48) dX1_init_45 rfl cl_1.1 cl_1.2.1 (by decide) tw_426 (by rw [o21 n0 (by omega), o20 n0 (by omega), o19 n0 (by omega), o18 n0 (by omega), o17 n0 (by omega), o16 n0 (by omega), o15 n0 (by omega), o14 n0 (by omega), o13 n0 (by omega), o12 n0 (by omega), o11 n0 (by omega), o10 n0 (by omega), o9 n0 (by omega), o8 n0 (by omega), o7 n0 (by omega)]; exact e6_0) (by omega) rfl ?_
  refine x_iload_n (q := 49) dX1_init_48 rfl rfl ?_
  refine x_new (fs := [.null, .int 0, .int 0, .int 0, .int 0]) (n2 := n0 + 13) (q := 52) dX1_init_49 rfl cl_4 tw_389 tw_391 tw_92 (by decide) (fun _ => rfl) rfl (by omega) (by decide) (by decide) (fun h22 e22_12 o22 => ?_)
  refine x_dup (q := 53) dX1_init_52 rfl rfl ?_
  refine x_callN (host := "WhiteRoads") (a := n0 + 12) (As := []) (rest := [.ref (n0 + 12), .int 5, .ref (n0 + 1)]) (q := 56) dX1_init_53 rfl okX4_init (by decide) (ci_X4 (n0 := n0 + 12) (by omega) e22_12) (by omega) rfl rfl (Nat.le_of_ble_eq_true rfl) ⟨by decide, by decide⟩ ⟨by decide, by decide⟩ (fun rv_ n_ h23 hv_ => ?_)
  obtain ⟨a1_, a2_, o23, l23⟩ := hv_
  rw [a1_, a2_]
  have e23_12 : h23 (n0 + 12) = cO 4 [.ref (n0 + 13), .int 0, .int 0, .int 0, .int 0] := l23.1
  have e23_13 : h23 (n0 + 13) = cI 0 5 (fun _ => 0) := l23.2.1
  show Wp MX1_init 56 [some (.ref n0), some (.ref d), some (.int 5)] [.ref (n0 + 12), .int 5, .ref (n0 + 1)] (n0 + 14) h23 _ _ _
  refine x_aast5 (a := n0 + 1) (b := n0 + 12) (N := 8) (q := 57) dX1_init_56 rfl (by rw [o23 (n0 + 1) (by omega), o22 (n0 + 1) (by omega)]; exact e21_1) (by omega) e23_12 (by omega) (vin (by decide)) (fun h24 e24_1 o24 => ?_)
  refine x_iinc (v := 6) (L2 := [some (.ref n0), some (.ref d), some (.int 6)]) (q := 60) dX1_init_57 rfl (by decide) rfl rfl (by decide) rfl ?_
  refine x_goto (t := 38) dX1_init_60 (by decide) ?_
  refine x_iload_n (q := 39) dX1_init_38 rfl rfl ?_
  refine x_bipush (8) (q := 41) dX1_init_39 rfl (by decide) ?_
  refine x_icmp_ge (t := 63) (q := 44) dX1_init_41 (by decide) rfl (fun c_ => absurd c_ (by decide)) (fun _ => ?_)
  refine x_aload_n (q := 45) dX1_init_44 rfl rfl ?_
  refine x_get (ci := 1) (K := 1) (fs := [.ref d, .ref (n0 + 1), .int 0, .int 0, .int v]) (q := 48) dX1_init_45 rfl cl_1.1 cl_1.2.1 (by decide) tw_426 (by rw [o24 n0 (by omega), o23 n0 (by omega), o22 n0 (by omega), o21 n0 (by omega), o20 n0 (by omega), o19 n0 (by omega), o18 n0 (by omega), o17 n0 (by omega), o16 n0 (by omega), o15 n0 (by omega), o14 n0 (by omega), o13 n0 (by omega), o12 n0 (by omega), o11 n0 (by omega), o10 n0 (by omega), o9 n0 (by omega), o8 n0 (by omega), o7 n0 (by omega)]; exact e6_0) (by omega) rfl ?_
  refine x_iload_n (q := 49) dX1_init_48 rfl rfl ?_
  refine x_new (fs := [.null, .int 0, .int 0, .int 0, .int 0]) (n2 := n0 + 15) (q := 52) dX1_init_49 rfl cl_4 tw_389 tw_391 tw_92 (by decide) (fun _ => rfl) rfl (by omega) (by decide) (by decide) (fun h25 e25_14 o25 => ?_)
  refine x_dup (q := 53) dX1_init_52 rfl rfl ?_
  refine x_callN (host := "WhiteRoads") (a := n0 + 14) (As := []) (rest := [.ref (n0 + 14), .int 6, .ref (n0 + 1)]) (q := 56) dX1_init_53 rfl okX4_init (by decide) (ci_X4 (n0 := n0 + 14) (by omega) e25_14) (by omega) rfl rfl (Nat.le_of_ble_eq_true rfl) ⟨by decide, by decide⟩ ⟨by decide, by decide⟩ (fun rv_ n_ h26 hv_ => ?_)
  obtain ⟨a1_, a2_, o26, l26⟩ := hv_
  rw [a1_, a2_]
  have e26_14 : h26 (n0 + 14) = cO 4 [.ref (n0 + 15), .int 0, .int 0, .int 0, .int 0] := l26.1
  have e26_15 : h26 (n0 + 15) = cI 0 5 (fun _ => 0) := l26.2.1
  show Wp MX1_init 56 [some (.ref n0), some (.ref d), some (.int 6)] [.ref (n0 + 14), .int 6, .ref (n0 + 1)] (n0 + 16) h26 _ _ _
  refine x_aast5 (a := n0 + 1) (b := n0 + 14) (N := 8) (q := 57) dX1_init_56 rfl (by rw [o26 (n0 + 1) (by omega), o25 (n0 + 1) (by omega)]; exact e24_1) (by omega) e26_14 (by omega) (vin (by decide)) (fun h27 e27_1 o27 => ?_)
  refine x_iinc (v := 7) (L2 := [some (.ref n0), some (.ref d), some (.int 7)]) (q := 60) dX1_init_57 rfl (by decide) rfl rfl (by decide) rfl ?_
  refine x_goto (t := 38) dX1_init_60 (by decide) ?_
  refine x_iload_n (q := 39) dX1_init_38 rfl rfl ?_
  refine x_bipush (8) (q := 41) dX1_init_39 rfl (by decide) ?_
  refine x_icmp_ge (t := 63) (q := 44) dX1_init_41 (by decide) rfl (fun c_ => absurd c_ (by decide)) (fun _ => ?_)
  refine x_aload_n (q := 45) dX1_init_44 rfl rfl ?_
  refine x_get (ci := 1) (K := 1) (fs := [.ref d, .ref (n0 + 1), .int 0, .int 0, .int v]) (q := 48) dX1_init_45 rfl cl_1.1 cl_1.2.1 (by decide) tw_426 (by rw [o27 n0 (by omega), o26 n0 (by omega), o25 n0 (by omega), o24 n0 (by omega), o23 n0 (by omega), o22 n0 (by omega), o21 n0 (by omega), o20 n0 (by omega), o19 n0 (by omega), o18 n0 (by omega), o17 n0 (by omega), o16 n0 (by omega), o15 n0 (by omega), o14 n0 (by omega), o13 n0 (by omega), o12 n0 (by omega), o11 n0 (by omega), o10 n0 (by omega), o9 n0 (by omega), o8 n0 (by omega), o7 n0 (by omega)]; exact e6_0) (by omega) rfl ?_
  refine x_iload_n (q := 49) dX1_init_48 rfl rfl ?_
  refine x_new (fs := [.null, .int 0, .int 0, .int 0, .int 0]) (n2 := n0 + 17) (q := 52) dX1_init_49 rfl cl_4 tw_389 tw_391 tw_92 (by decide) (fun _ => rfl) rfl (by omega) (by decide) (by decide) (fun h28 e28_16 o28 => ?_)
  refine x_dup (q := 53) dX1_init_52 rfl rfl ?_
  refine x_callN (host := "WhiteRoads") (a := n0 + 16) (As := []) (rest := [.ref (n0 + 16), .int 7, .ref (n0 + 1)]) (q := 56) dX1_init_53 rfl okX4_init (by decide) (ci_X4 (n0 := n0 + 16) (by omega) e28_16) (by omega) rfl rfl (Nat.le_of_ble_eq_true rfl) ⟨by decide, by decide⟩ ⟨by decide, by decide⟩ (fun rv_ n_ h29 hv_ => ?_)
  obtain ⟨a1_, a2_, o29, l29⟩ := hv_
  rw [a1_, a2_]
  have e29_16 : h29 (n0 + 16) = cO 4 [.ref (n0 + 17), .int 0, .int 0, .int 0, .int 0] := l29.1
  have e29_17 : h29 (n0 + 17) = cI 0 5 (fun _ => 0) := l29.2.1
  show Wp MX1_init 56 [some (.ref n0), some (.ref d), some (.int 7)] [.ref (n0 + 16), .int 7, .ref (n0 + 1)] (n0 + 18) h29 _ _ _
  refine x_aast5 (a := n0 + 1) (b := n0 + 16) (N := 8) (q := 57) dX1_init_56 rfl (by rw [o29 (n0 + 1) (by omega), o28 (n0 + 1) (by omega)]; exact e27_1) (by omega) e29_16 (by omega) (vin (by decide)) (fun h30 e30_1 o30 => ?_)
  refine x_iinc (v := 8) (L2 := [some (.ref n0), some (.ref d), some (.int 8)]) (q := 60) dX1_init_57 rfl (by decide) rfl rfl (by decide) rfl ?_
  refine x_goto (t := 38) dX1_init_60 (by decide) ?_
  refine x_iload_n (q := 39) dX1_init_38 rfl rfl ?_
  refine x_bipush (8) (q := 41) dX1_init_39 rfl (by decide) ?_
  refine x_icmp_ge (t := 63) (q := 44) dX1_init_41 (by decide) rfl (fun _ => ?_) (fun c_ => absurd c_ (by decide))
  refine x_vret dX1_init_63 rfl (by decide) (by decide) ?_
  refine ⟨rfl, rfl, fun i_ hi_ => ?_, (by rw [o30 n0 (by omega), o29 n0 (by omega), o28 n0 (by omega), o27 n0 (by omega), o26 n0 (by omega), o25 n0 (by omega), o24 n0 (by omega), o23 n0 (by omega), o22 n0 (by omega), o21 n0 (by omega), o20 n0 (by omega), o19 n0 (by omega), o18 n0 (by omega), o17 n0 (by omega), o16 n0 (by omega), o15 n0 (by omega), o14 n0 (by omega), o13 n0 (by omega), o12 n0 (by omega), o11 n0 (by omega), o10 n0 (by omega), o9 n0 (by omega), o8 n0 (by omega), o7 n0 (by omega)]; exact e6_0), e30_1, (by rw [o30 (n0 + 2) (by omega), o29 (n0 + 2) (by omega), o28 (n0 + 2) (by omega), o27 (n0 + 2) (by omega), o26 (n0 + 2) (by omega), o25 (n0 + 2) (by omega), o24 (n0 + 2) (by omega), o23 (n0 + 2) (by omega), o22 (n0 + 2) (by omega), o21 (n0 + 2) (by omega), o20 (n0 + 2) (by omega), o19 (n0 + 2) (by omega), o18 (n0 + 2) (by omega), o17 (n0 + 2) (by omega), o16 (n0 + 2) (by omega), o15 (n0 + 2) (by omega), o14 (n0 + 2) (by omega), o13 (n0 + 2) (by omega), o12 (n0 + 2) (by omega), o11 (n0 + 2) (by omega), o10 (n0 + 2) (by omega), o9 (n0 + 2) (by omega)]; exact e8_2), (by rw [o30 (n0 + 3) (by omega), o29 (n0 + 3) (by omega), o28 (n0 + 3) (by omega), o27 (n0 + 3) (by omega), o26 (n0 + 3) (by omega), o25 (n0 + 3) (by omega), o24 (n0 + 3) (by omega), o23 (n0 + 3) (by omega), o22 (n0 + 3) (by omega), o21 (n0 + 3) (by omega), o20 (n0 + 3) (by omega), o19 (n0 + 3) (by omega), o18 (n0 + 3) (by omega), o17 (n0 + 3) (by omega), o16 (n0 + 3) (by omega), o15 (n0 + 3) (by omega), o14 (n0 + 3) (by omega), o13 (n0 + 3) (by omega), o12 (n0 + 3) (by omega), o11 (n0 + 3) (by omega), o10 (n0 + 3) (by omega), o9 (n0 + 3) (by omega)]; exact e8_3), (by rw [o30 (n0 + 4) (by omega), o29 (n0 + 4) (by omega), o28 (n0 + 4) (by omega), o27 (n0 + 4) (by omega), o26 (n0 + 4) (by omega), o25 (n0 + 4) (by omega), o24 (n0 + 4) (by omega), o23 (n0 + 4) (by omega), o22 (n0 + 4) (by omega), o21 (n0 + 4) (by omega), o20 (n0 + 4) (by omega), o19 (n0 + 4) (by omega), o18 (n0 + 4) (by omega), o17 (n0 + 4) (by omega), o16 (n0 + 4) (by omega), o15 (n0 + 4) (by omega), o14 (n0 + 4) (by omega), o13 (n0 + 4) (by omega), o12 (n0 + 4) (by omega)]; exact e11_4), (by rw [o30 (n0 + 5) (by omega), o29 (n0 + 5) (by omega), o28 (n0 + 5) (by omega), o27 (n0 + 5) (by omega), o26 (n0 + 5) (by omega), o25 (n0 + 5) (by omega), o24 (n0 + 5) (by omega), o23 (n0 + 5) (by omega), o22 (n0 + 5) (by omega), o21 (n0 + 5) (by omega), o20 (n0 + 5) (by omega), o19 (n0 + 5) (by omega), o18 (n0 + 5) (by omega), o17 (n0 + 5) (by omega), o16 (n0 + 5) (by omega), o15 (n0 + 5) (by omega), o14 (n0 + 5) (by omega), o13 (n0 + 5) (by omega), o12 (n0 + 5) (by omega)]; exact e11_5), (by rw [o30 (n0 + 6) (by omega), o29 (n0 + 6) (by omega), o28 (n0 + 6) (by omega), o27 (n0 + 6) (by omega), o26 (n0 + 6) (by omega), o25 (n0 + 6) (by omega), o24 (n0 + 6) (by omega), o23 (n0 + 6) (by omega), o22 (n0 + 6) (by omega), o21 (n0 + 6) (by omega), o20 (n0 + 6) (by omega), o19 (n0 + 6) (by omega), o18 (n0 + 6) (by omega), o17 (n0 + 6) (by omega), o16 (n0 + 6) (by omega), o15 (n0 + 6) (by omega)]; exact e14_6), (by rw [o30 (n0 + 7) (by omega), o29 (n0 + 7) (by omega), o28 (n0 + 7) (by omega), o27 (n0 + 7) (by omega), o26 (n0 + 7) (by omega), o25 (n0 + 7) (by omega), o24 (n0 + 7) (by omega), o23 (n0 + 7) (by omega), o22 (n0 + 7) (by omega), o21 (n0 + 7) (by omega), o20 (n0 + 7) (by omega), o19 (n0 + 7) (by omega), o18 (n0 + 7) (by omega), o17 (n0 + 7) (by omega), o16 (n0 + 7) (by omega), o15 (n0 + 7) (by omega)]; exact e14_7), (by rw [o30 (n0 + 8) (by omega), o29 (n0 + 8) (by omega), o28 (n0 + 8) (by omega), o27 (n0 + 8) (by omega), o26 (n0 + 8) (by omega), o25 (n0 + 8) (by omega), o24 (n0 + 8) (by omega), o23 (n0 + 8) (by omega), o22 (n0 + 8) (by omega), o21 (n0 + 8) (by omega), o20 (n0 + 8) (by omega), o19 (n0 + 8) (by omega), o18 (n0 + 8) (by omega)]; exact e17_8), (by rw [o30 (n0 + 9) (by omega), o29 (n0 + 9) (by omega), o28 (n0 + 9) (by omega), o27 (n0 + 9) (by omega), o26 (n0 + 9) (by omega), o25 (n0 + 9) (by omega), o24 (n0 + 9) (by omega), o23 (n0 + 9) (by omega), o22 (n0 + 9) (by omega), o21 (n0 + 9) (by omega), o20 (n0 + 9) (by omega), o19 (n0 + 9) (by omega), o18 (n0 + 9) (by omega)]; exact e17_9), (by rw [o30 (n0 + 10) (by omega), o29 (n0 + 10) (by omega), o28 (n0 + 10) (by omega), o27 (n0 + 10) (by omega), o26 (n0 + 10) (by omega), o25 (n0 + 10) (by omega), o24 (n0 + 10) (by omega), o23 (n0 + 10) (by omega), o22 (n0 + 10) (by omega), o21 (n0 + 10) (by omega)]; exact e20_10), (by rw [o30 (n0 + 11) (by omega), o29 (n0 + 11) (by omega), o28 (n0 + 11) (by omega), o27 (n0 + 11) (by omega), o26 (n0 + 11) (by omega), o25 (n0 + 11) (by omega), o24 (n0 + 11) (by omega), o23 (n0 + 11) (by omega), o22 (n0 + 11) (by omega), o21 (n0 + 11) (by omega)]; exact e20_11), (by rw [o30 (n0 + 12) (by omega), o29 (n0 + 12) (by omega), o28 (n0 + 12) (by omega), o27 (n0 + 12) (by omega), o26 (n0 + 12) (by omega), o25 (n0 + 12) (by omega), o24 (n0 + 12) (by omega)]; exact e23_12), (by rw [o30 (n0 + 13) (by omega), o29 (n0 + 13) (by omega), o28 (n0 + 13) (by omega), o27 (n0 + 13) (by omega), o26 (n0 + 13) (by omega), o25 (n0 + 13) (by omega), o24 (n0 + 13) (by omega)]; exact e23_13), (by rw [o30 (n0 + 14) (by omega), o29 (n0 + 14) (by omega), o28 (n0 + 14) (by omega), o27 (n0 + 14) (by omega)]; exact e26_14), (by rw [o30 (n0 + 15) (by omega), o29 (n0 + 15) (by omega), o28 (n0 + 15) (by omega), o27 (n0 + 15) (by omega)]; exact e26_15), (by rw [o30 (n0 + 16) (by omega)]; exact e29_16), (by rw [o30 (n0 + 17) (by omega)]; exact e29_17), trivial⟩
  rw [o30 i_ (by omega), o29 i_ (by omega), o28 i_ (by omega), o27 i_ (by omega), o26 i_ (by omega), o25 i_ (by omega), o24 i_ (by omega), o23 i_ (by omega), o22 i_ (by omega), o21 i_ (by omega), o20 i_ (by omega), o19 i_ (by omega), o18 i_ (by omega), o17 i_ (by omega), o16 i_ (by omega), o15 i_ (by omega), o14 i_ (by omega), o13 i_ (by omega), o12 i_ (by omega), o11 i_ (by omega), o10 i_ (by omega), o9 i_ (by omega), o8 i_ (by omega), o7 i_ (by omega), o6 i_ (by omega), o5 i_ (by omega), o4 i_ (by omega), o3 i_ (by omega), o2 i_ (by omega), o1 i_ (by omega)]
