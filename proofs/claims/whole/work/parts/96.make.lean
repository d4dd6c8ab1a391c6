/-! rows of making: objects, arrays, constructors' calls, a text's members -/
section WPN
variable {M : MX} {pc n k z : Nat} {L : List (Option Value)} {S : List Value} {h : AH} {post : Option Value → Nat → AH → Prop}
theorem wd_app {D : va_G} {N0 : Nat} {xa : Nat → Nat} {ca : Nat → ClassId} {H H1 : Heap} {c : AC} (hP : va_P D vwCl (wd N0 xa ca n h) H) (o1 : ∀ q : Nat, q < H.size → H1[q]? = H[q]?) (hx : va_at D vwCl (N0 + n, cnc (ad N0 xa) ca c) H1) : va_P D vwCl (wd N0 xa ca (n + 1) (hup h n c)) H1 := by
  rw [← wd_push]
  have hk : ∀ (k : Nat) (x : Nat × va_E), (wd N0 xa ca n h)[k]? = some x → H1[x.1]? = H[x.1]? := fun k x hx => o1 x.1 ((hP k x hx).lt)
  refine (hP.kept hk).app (fun k x hx' => ?_)
  have hz1 : k < 1 := (List.getElem?_eq_some_iff.mp hx').1
  rw [show k = 0 by omega] at hx'
  cases hx'
  exact hx
theorem vaS_app {N0 : Nat} {H0 H H1 : Heap} {locs : List Loc} (hS : va_S (fun q => N0 ≤ q) H0 H locs) (z1 : H.size ≤ H1.size) (o1 : ∀ q : Nat, q < H.size → H1[q]? = H[q]?) : va_S (fun q => N0 ≤ q) H0 H1 locs := ⟨Nat.le_trans hS.1 z1, fun x h1 h2 => (o1 x (Nat.lt_of_lt_of_le h1 hS.1)).trans (hS.2.1 x h1 h2), hS.2.2⟩
theorem x_new {ci i0 N : Nat} {Cn : String} {T : u_T} {ty0 : Nat → FieldType} {fs : List Value} (hd : decode M.1 pc = .ok (.new i0, 3)) {q : Nat} (hq : pc + 3 = q) (ok : ClOk ci Cn T ty0 N) (hcl : Cond.classLink M.2.1 i0 Cn ∈ TBg) (hinst : Cond.instantiable Cn N ∈ TBg) (hini : Cond.initialized Cn ∈ TBg) (hfs : ∀ j, j < N → defaultValue (ty0 j) = vp_V fs j) (hcv : ∀ f : Nat → Nat, fs.map (cv f) = fs) {n2 : Nat} (hn2 : n + 1 = n2) (hb : n2 ≤ 1000000) (hk : k + 1 ≤ M.2.2.2.2.1.cells) (hkz : z + N ≤ M.2.2.2.2.1.slots) (kk : ∀ h' : AH, h' n = cO ci fs → (∀ b, b ≠ n → h' b = h b) → Wp M q L (.ref n :: S) n2 h' (k + 1) (z + N) post) : Wp M pc L S n h k z post := by
  subst hn2
  subst hq
  intro p l e s m args below meth c D ca N0 xa C H locs ls hn hz hP hS hl
  have hts := C.2.2.2.2.2.2.1
  have hKn := C.2.2.2.2.2.2.2.1.1 ci _ ok.1
  refine W.newcK C.1 C.2.1 C.2.2.2.2.2.1 (hts _ hcl) (hts _ hinst) (hts _ hini) rfl hd hk hkz hKn.2.1 rfl fun H1 kC hkC e1 z1 o1 => ?_
  have hP1 : va_P D vwCl (wd N0 xa ca (n + 1) (hup h n (cO ci fs))) H1 := by
    refine wd_app hP o1 ?_
    show va_at D vwCl (N0 + n, .inr (ci, fs.map (cv (ad N0 xa)))) H1
    rw [hcv, hz]
    exact ⟨_, ok.1, (u_born ty0 hts ok.2.1 hKn hkC e1 ok.2.2.1).to hfs⟩
  have hg : F0 m (pc + 3) ls ((Value.ref n :: S).map (cv (ad N0 xa))) = F0 m (pc + 3) ls (.ref H.size :: S.map (cv (ad N0 xa))) := by
    rw [List.map_cons, cv_ref (show n < 1000000 by omega), hz]
  have k1 := kk (hup h n (cO ci fs)) hup_self (fun b hb => hup_ne hb) p l e s m args below meth c D ca N0 xa C H1 locs ls hb (by rw [z1]; omega) hP1 (vaS_app hS (by omega) o1) hl
  rw [hg] at k1
  exact k1
theorem x_newai {N : Nat} {v : Int32} (hd : decode M.1 pc = .ok (.newarray .int, 2)) {q : Nat} (hq : pc + 2 = q) (hw : Cond.arrayClass .int ∈ TBg) (hv : ¬ v < 0) (hN : v.toNatClampNeg = N) (hbt : N * componentBytes .int ≤ 536870912) {n2 : Nat} (hn2 : n + 1 = n2) (hb : n2 ≤ 1000000) (hk : k + 1 ≤ M.2.2.2.2.1.cells) (hkz : z + N ≤ M.2.2.2.2.1.slots) (kk : ∀ h' : AH, h' n = cI 0 N (fun _ => 0) → (∀ b, b ≠ n → h' b = h b) → Wp M q L (.ref n :: S) n2 h' (k + 1) (z + N) post) : Wp M pc L (.int v :: S) n h k z post := by
  subst hn2
  subst hq
  intro p l e s m args below meth c D ca N0 xa C H locs ls hn hz hP hS hl
  have hts := C.2.2.2.2.2.2.1
  refine va_newaK (atype := .int) C.1 C.2.1 (hts _ hw) rfl hd rfl hv hN hbt hk hkz rfl fun H1 cA e1 z1 o1 hAr hNm => ?_
  have hRA : s.vm.findClass ("[" ++ (newarray.typeOf .int).toString) = some (ca 0) := (C.2.2.2.2.2.2.2.1.2 0 (ca 0, .int) rfl).2
  have ec : cA = ca 0 := Option.some.inj (hNm.symm.trans hRA)
  have hP1 : va_P D vwCl (wd N0 xa ca (n + 1) (hup h n (cI 0 N (fun _ => 0)))) H1 := by
    refine wd_app hP o1 ?_
    show H1[N0 + n]? = some (vp_cell (ca 0) (N, .inl (fun _ => 0)))
    rw [hz, e1, ec, vp_cell_i]
    rfl
  have hg : F0 m (pc + 2) ls ((Value.ref n :: S).map (cv (ad N0 xa))) = F0 m (pc + 2) ls (.ref H.size :: S.map (cv (ad N0 xa))) := by
    rw [List.map_cons, cv_ref (show n < 1000000 by omega), hz]
  have k1 := kk (hup h n (cI 0 N (fun _ => 0))) hup_self (fun b hb => hup_ne hb) p l e s m args below meth c D ca N0 xa C H1 locs ls hb (by rw [z1]; omega) hP1 (vaS_app hS (by omega) o1) hl
  rw [hg] at k1
  exact k1
theorem x_newab {N : Nat} {v : Int32} (hd : decode M.1 pc = .ok (.newarray .byte, 2)) {q : Nat} (hq : pc + 2 = q) (hw : Cond.arrayClass .byte ∈ TBg) (hv : ¬ v < 0) (hN : v.toNatClampNeg = N) (hbt : N * componentBytes .byte ≤ 536870912) {n2 : Nat} (hn2 : n + 1 = n2) (hb : n2 ≤ 1000000) (hk : k + 1 ≤ M.2.2.2.2.1.cells) (hkz : z + N ≤ M.2.2.2.2.1.slots) (kk : ∀ h' : AH, h' n = cI 1 N (fun _ => 0) → (∀ b, b ≠ n → h' b = h b) → Wp M q L (.ref n :: S) n2 h' (k + 1) (z + N) post) : Wp M pc L (.int v :: S) n h k z post := by
  subst hn2
  subst hq
  intro p l e s m args below meth c D ca N0 xa C H locs ls hn hz hP hS hl
  have hts := C.2.2.2.2.2.2.1
  refine va_newaK (atype := .byte) C.1 C.2.1 (hts _ hw) rfl hd rfl hv hN hbt hk hkz rfl fun H1 cA e1 z1 o1 hAr hNm => ?_
  have hRA : s.vm.findClass ("[" ++ (newarray.typeOf .byte).toString) = some (ca 1) := (C.2.2.2.2.2.2.2.1.2 1 (ca 1, .byte) rfl).2
  have ec : cA = ca 1 := Option.some.inj (hNm.symm.trans hRA)
  have hP1 : va_P D vwCl (wd N0 xa ca (n + 1) (hup h n (cI 1 N (fun _ => 0)))) H1 := by
    refine wd_app hP o1 ?_
    show H1[N0 + n]? = some (vp_cell (ca 1) (N, .inl (fun _ => 0)))
    rw [hz, e1, ec, vp_cell_i]
    rfl
  have hg : F0 m (pc + 2) ls ((Value.ref n :: S).map (cv (ad N0 xa))) = F0 m (pc + 2) ls (.ref H.size :: S.map (cv (ad N0 xa))) := by
    rw [List.map_cons, cv_ref (show n < 1000000 by omega), hz]
  have k1 := kk (hup h n (cI 1 N (fun _ => 0))) hup_self (fun b hb => hup_ne hb) p l e s m args below meth c D ca N0 xa C H1 locs ls hb (by rw [z1]; omega) hP1 (vaS_app hS (by omega) o1) hl
  rw [hg] at k1
  exact k1
theorem x_newaz {N : Nat} {v : Int32} (hd : decode M.1 pc = .ok (.newarray .boolean, 2)) {q : Nat} (hq : pc + 2 = q) (hw : Cond.arrayClass .boolean ∈ TBg) (hv : ¬ v < 0) (hN : v.toNatClampNeg = N) (hbt : N * componentBytes .boolean ≤ 536870912) {n2 : Nat} (hn2 : n + 1 = n2) (hb : n2 ≤ 1000000) (hk : k + 1 ≤ M.2.2.2.2.1.cells) (hkz : z + N ≤ M.2.2.2.2.1.slots) (kk : ∀ h' : AH, h' n = cI 2 N (fun _ => 0) → (∀ b, b ≠ n → h' b = h b) → Wp M q L (.ref n :: S) n2 h' (k + 1) (z + N) post) : Wp M pc L (.int v :: S) n h k z post := by
  subst hn2
  subst hq
  intro p l e s m args below meth c D ca N0 xa C H locs ls hn hz hP hS hl
  have hts := C.2.2.2.2.2.2.1
  refine va_newaK (atype := .boolean) C.1 C.2.1 (hts _ hw) rfl hd rfl hv hN hbt hk hkz rfl fun H1 cA e1 z1 o1 hAr hNm => ?_
  have hRA : s.vm.findClass ("[" ++ (newarray.typeOf .boolean).toString) = some (ca 2) := (C.2.2.2.2.2.2.2.1.2 2 (ca 2, .boolean) rfl).2
  have ec : cA = ca 2 := Option.some.inj (hNm.symm.trans hRA)
  have hP1 : va_P D vwCl (wd N0 xa ca (n + 1) (hup h n (cI 2 N (fun _ => 0)))) H1 := by
    refine wd_app hP o1 ?_
    show H1[N0 + n]? = some (vp_cell (ca 2) (N, .inl (fun _ => 0)))
    rw [hz, e1, ec, vp_cell_i]
    rfl
  have hg : F0 m (pc + 2) ls ((Value.ref n :: S).map (cv (ad N0 xa))) = F0 m (pc + 2) ls (.ref H.size :: S.map (cv (ad N0 xa))) := by
    rw [List.map_cons, cv_ref (show n < 1000000 by omega), hz]
  have k1 := kk (hup h n (cI 2 N (fun _ => 0))) hup_self (fun b hb => hup_ne hb) p l e s m args below meth c D ca N0 xa C H1 locs ls hb (by rw [z1]; omega) hP1 (vaS_app hS (by omega) o1) hl
  rw [hg] at k1
  exact k1
theorem x_newal {N : Nat} {v : Int32} (hd : decode M.1 pc = .ok (.newarray .long, 2)) {q : Nat} (hq : pc + 2 = q) (hw : Cond.arrayClass .long ∈ TBg) (hv : ¬ v < 0) (hN : v.toNatClampNeg = N) (hbt : N * componentBytes .long ≤ 536870912) {n2 : Nat} (hn2 : n + 1 = n2) (hb : n2 ≤ 1000000) (hk : k + 1 ≤ M.2.2.2.2.1.cells) (hkz : z + N ≤ M.2.2.2.2.1.slots) (kk : ∀ h' : AH, h' n = cJ N (fun _ => 0) → (∀ b, b ≠ n → h' b = h b) → Wp M q L (.ref n :: S) n2 h' (k + 1) (z + N) post) : Wp M pc L (.int v :: S) n h k z post := by
  subst hn2
  subst hq
  intro p l e s m args below meth c D ca N0 xa C H locs ls hn hz hP hS hl
  have hts := C.2.2.2.2.2.2.1
  refine va_newaK (atype := .long) C.1 C.2.1 (hts _ hw) rfl hd rfl hv hN hbt hk hkz rfl fun H1 cA e1 z1 o1 hAr hNm => ?_
  have hRA : s.vm.findClass ("[" ++ (newarray.typeOf .long).toString) = some (ca 3) := (C.2.2.2.2.2.2.2.1.2 3 (ca 3, .long) rfl).2
  have ec : cA = ca 3 := Option.some.inj (hNm.symm.trans hRA)
  have hP1 : va_P D vwCl (wd N0 xa ca (n + 1) (hup h n (cJ N (fun _ => 0)))) H1 := by
    refine wd_app hP o1 ?_
    show H1[N0 + n]? = some (vp_cell (ca 3) (N, .inr (.inl (fun _ => 0))))
    rw [hz, e1, ec, vp_cell_l]
    rfl
  have hg : F0 m (pc + 2) ls ((Value.ref n :: S).map (cv (ad N0 xa))) = F0 m (pc + 2) ls (.ref H.size :: S.map (cv (ad N0 xa))) := by
    rw [List.map_cons, cv_ref (show n < 1000000 by omega), hz]
  have k1 := kk (hup h n (cJ N (fun _ => 0))) hup_self (fun b hb => hup_ne hb) p l e s m args below meth c D ca N0 xa C H1 locs ls hb (by rw [z1]; omega) hP1 (vaS_app hS (by omega) o1) hl
  rw [hg] at k1
  exact k1
theorem x_anew4 {i0 N : Nat} {v : Int32} (hd : decode M.1 pc = .ok (.anewarray i0, 3)) {q : Nat} (hq : pc + 3 = q) (hw : Cond.classLink M.2.1 i0 RX10 ∈ TBg) (hv : ¬ v < 0) (hN : v.toNatClampNeg = N) (hbt : N * 4 ≤ 536870912) {n2 : Nat} (hn2 : n + 1 = n2) (hb : n2 ≤ 1000000) (hk : k + 1 ≤ M.2.2.2.2.1.cells) (hkz : z + N ≤ M.2.2.2.2.1.slots) (kk : ∀ h' : AH, h' n = cR 4 N (fun _ => none) → (∀ b, b ≠ n → h' b = h b) → Wp M q L (.ref n :: S) n2 h' (k + 1) (z + N) post) : Wp M pc L (.int v :: S) n h k z post := by
  subst hn2
  subst hN
  subst hq
  intro p l e s m args below meth c D ca N0 xa C H locs ls hn hz hP hS hl
  have hts := C.2.2.2.2.2.2.1
  refine W.anew C.1 C.2.1 C.2.2.2.2.2.1 (hts _ hw) (va_AO.use C.2.2.2.2.2.2.2.2.2.2.1.2.2.2.2.2.2.1) rfl hd rfl hv hbt hk hkz fun cA kA comp f1 f2 f3 f4 => ?_
  generalize hH1 : H.push ({ cls := cA, slots := Array.replicate v.toNatClampNeg .null, vm := .none } : Cell) = H1
  have z1 : H1.size = H.size + 1 := by rw [← hH1, Array.size_push]
  have e1 : H1[H.size]? = some (arrV cA v.toNatClampNeg (fun _ => .null)) := by rw [← hH1, Array.getElem?_push_size, ← arrV_new]
  have o1 : ∀ q : Nat, q < H.size → H1[q]? = H[q]? := fun q hq => by rw [← hH1, Array.getElem?_push, if_neg (Nat.ne_of_lt hq)]
  have hRA := (C.2.2.2.2.2.2.2.1.2 4 (ca 4, .object RX10) rfl).2
  obtain ⟨kA2, comp2, g1, g2, g3, g4⟩ := hRA
  have ec : cA = ca 4 := Option.some.inj (f1.symm.trans g4)
  have hP1 : va_P D vwCl (wd N0 xa ca (n + 1) (hup h n (cR 4 v.toNatClampNeg (fun _ => none)))) H1 := by
    refine wd_app hP o1 ?_
    show H1[N0 + n]? = some (vp_cell (ca 4) (v.toNatClampNeg, .inr (.inr (.inr (.inr (fun _ => none))))))
    rw [hz, e1, ec, vp_cell_q]
    rfl
  have hg : F0 m (pc + 3) ls ((Value.ref n :: S).map (cv (ad N0 xa))) = F0 m (pc + 3) ls (.ref H.size :: S.map (cv (ad N0 xa))) := by
    rw [List.map_cons, cv_ref (show n < 1000000 by omega), hz]
  have k1 := kk (hup h n (cR 4 v.toNatClampNeg (fun _ => none))) hup_self (fun b hb => hup_ne hb) p l e s m args below meth c D ca N0 xa C H1 locs ls hb (by rw [z1]; omega) hP1 (vaS_app hS (by omega) o1) hl
  rw [hg] at k1
  exact k1
theorem x_aast4 {a b N : Nat} {f : Nat → Option Nat} {i : Int32} {fs : List Value} (hd : decode M.1 pc = .ok (.aastore, 1)) {q : Nat} (hq : pc + 1 = q) (ha : h a = cR 4 N f) (han : a < n) (hb : h b = cO 10 fs) (hbn : b < n) (hi : vp_in i N) (kk : ∀ h' : AH, h' a = cR 4 N (va_up f i.toNatClampNeg (some b)) → (∀ d, d ≠ a → h' d = h d) → Wp M q L S n h' k z post) : Wp M pc L (.ref b :: .int i :: .ref a :: S) n h k z post := by
  subst hq
  intro p l e s m args below meth c D ca N0 xa C H locs ls hn hz hP hS hl
  have hlt : i.toNatClampNeg < N := Nat.not_le.mp fun q => hi (Or.inr q)
  have h0 : ¬ i < 0 := fun q => hi (Or.inl q)
  have he : (wd N0 xa ca n h)[a]? = some (N0 + a, .inl (ca 4, N, .inr (.inr (.inr (.inr (fun j => (f j).map (ad N0 xa))))))) := by rw [wd_at han, ha]; rfl
  have hv : (wd N0 xa ca n h)[b]? = some (N0 + b, .inr (10, fs.map (cv (ad N0 xa)))) := by rw [wd_at hbn, hb]; rfl
  have hg : F0 m pc ls ((Value.ref b :: Value.int i :: Value.ref a :: S).map (cv (ad N0 xa))) = F0 m pc ls (.ref (N0 + b) :: .int i :: .ref (N0 + a) :: S.map (cv (ad N0 xa))) := by
    rw [List.map_cons, List.map_cons, List.map_cons, cv_ref (Nat.lt_of_lt_of_le han hn), cv_ref (Nat.lt_of_lt_of_le hbn hn)]; rfl
  rw [hg]
  have hK := C.2.2.2.2.2.2.2.1
  obtain ⟨r', hr', cellV, g1, g2, g3, -⟩ := hP b _ hv
  have hcls := (hK.1 10 _ cl_10.1).2
  obtain ⟨kA, comp, k1, k2, k3, -⟩ := (hK.2 4 (ca 4, .object RX10) rfl).2
  have hcomp : comp = D.1 10 := Option.some.inj (k3.symm.trans hcls.1)
  subst hcomp
  obtain ⟨kC, hkC, -⟩ := hcls.2
  refine W.aast C.1 C.2.1 (hP a _ he) (fun q h => by cases h) (fun h => by cases h) k1 k2 rfl hkC ⟨h0, by show _ < (arrV _ _ _).slots.size; rw [arrV_size]; exact hlt⟩ g1 (fun q h => by rw [g3] at h; cases h) (by rw [g2]; exact hkC) (by rw [g2]; exact va_assign hcls) rfl rfl hd fun H1 e1 e2 e3 => ?_
  refine kk (hup h a (cR 4 N (va_up f i.toNatClampNeg (some b)))) hup_self (fun b hb => hup_ne hb) p l e s m args below meth c D ca N0 xa C H1 _ ls hn (hz.trans e2.symm) (wd_upd hP han _ ?_ e3) (hS.put e2 e3 (Nat.le_add_right _ _)) hl
  show H1[N0 + a]? = some (vp_cell (ca 4) (N, .inr (.inr (.inr (.inr (fun j => (va_up f i.toNatClampNeg (some b) j).map (ad N0 xa)))))))
  have e9 : (fun j => (va_up f i.toNatClampNeg (some b) j).map (ad N0 xa)) = va_up (fun j => (f j).map (ad N0 xa)) i.toNatClampNeg (some (N0 + b)) := by
    funext j
    unfold va_up
    by_cases e : j = i.toNatClampNeg
    · rw [if_pos e, if_pos e, ← ad_lt (xa := xa) (Nat.lt_of_lt_of_le hbn hn)]; rfl
    · rw [if_neg e, if_neg e]
  rw [e1, e9]
  exact congrArg some (cl_upd_q _ _ _ _ _)
theorem x_anew5 {i0 N : Nat} {v : Int32} (hd : decode M.1 pc = .ok (.anewarray i0, 3)) {q : Nat} (hq : pc + 3 = q) (hw : Cond.classLink M.2.1 i0 RX4 ∈ TBg) (hv : ¬ v < 0) (hN : v.toNatClampNeg = N) (hbt : N * 4 ≤ 536870912) {n2 : Nat} (hn2 : n + 1 = n2) (hb : n2 ≤ 1000000) (hk : k + 1 ≤ M.2.2.2.2.1.cells) (hkz : z + N ≤ M.2.2.2.2.1.slots) (kk : ∀ h' : AH, h' n = cR 5 N (fun _ => none) → (∀ b, b ≠ n → h' b = h b) → Wp M q L (.ref n :: S) n2 h' (k + 1) (z + N) post) : Wp M pc L (.int v :: S) n h k z post := by
  subst hn2
  subst hN
  subst hq
  intro p l e s m args below meth c D ca N0 xa C H locs ls hn hz hP hS hl
  have hts := C.2.2.2.2.2.2.1
  refine W.anew C.1 C.2.1 C.2.2.2.2.2.1 (hts _ hw) (va_AO.use C.2.2.2.2.2.2.2.2.2.2.1.2.2.2.2.2.2.2.1) rfl hd rfl hv hbt hk hkz fun cA kA comp f1 f2 f3 f4 => ?_
  generalize hH1 : H.push ({ cls := cA, slots := Array.replicate v.toNatClampNeg .null, vm := .none } : Cell) = H1
  have z1 : H1.size = H.size + 1 := by rw [← hH1, Array.size_push]
  have e1 : H1[H.size]? = some (arrV cA v.toNatClampNeg (fun _ => .null)) := by rw [← hH1, Array.getElem?_push_size, ← arrV_new]
  have o1 : ∀ q : Nat, q < H.size → H1[q]? = H[q]? := fun q hq => by rw [← hH1, Array.getElem?_push, if_neg (Nat.ne_of_lt hq)]
  have hRA := (C.2.2.2.2.2.2.2.1.2 5 (ca 5, .object RX4) rfl).2
  obtain ⟨kA2, comp2, g1, g2, g3, g4⟩ := hRA
  have ec : cA = ca 5 := Option.some.inj (f1.symm.trans g4)
  have hP1 : va_P D vwCl (wd N0 xa ca (n + 1) (hup h n (cR 5 v.toNatClampNeg (fun _ => none)))) H1 := by
    refine wd_app hP o1 ?_
    show H1[N0 + n]? = some (vp_cell (ca 5) (v.toNatClampNeg, .inr (.inr (.inr (.inr (fun _ => none))))))
    rw [hz, e1, ec, vp_cell_q]
    rfl
  have hg : F0 m (pc + 3) ls ((Value.ref n :: S).map (cv (ad N0 xa))) = F0 m (pc + 3) ls (.ref H.size :: S.map (cv (ad N0 xa))) := by
    rw [List.map_cons, cv_ref (show n < 1000000 by omega), hz]
  have k1 := kk (hup h n (cR 5 v.toNatClampNeg (fun _ => none))) hup_self (fun b hb => hup_ne hb) p l e s m args below meth c D ca N0 xa C H1 locs ls hb (by rw [z1]; omega) hP1 (vaS_app hS (by omega) o1) hl
  rw [hg] at k1
  exact k1
theorem x_aast5 {a b N : Nat} {f : Nat → Option Nat} {i : Int32} {fs : List Value} (hd : decode M.1 pc = .ok (.aastore, 1)) {q : Nat} (hq : pc + 1 = q) (ha : h a = cR 5 N f) (han : a < n) (hb : h b = cO 4 fs) (hbn : b < n) (hi : vp_in i N) (kk : ∀ h' : AH, h' a = cR 5 N (va_up f i.toNatClampNeg (some b)) → (∀ d, d ≠ a → h' d = h d) → Wp M q L S n h' k z post) : Wp M pc L (.ref b :: .int i :: .ref a :: S) n h k z post := by
  subst hq
  intro p l e s m args below meth c D ca N0 xa C H locs ls hn hz hP hS hl
  have hlt : i.toNatClampNeg < N := Nat.not_le.mp fun q => hi (Or.inr q)
  have h0 : ¬ i < 0 := fun q => hi (Or.inl q)
  have he : (wd N0 xa ca n h)[a]? = some (N0 + a, .inl (ca 5, N, .inr (.inr (.inr (.inr (fun j => (f j).map (ad N0 xa))))))) := by rw [wd_at han, ha]; rfl
  have hv : (wd N0 xa ca n h)[b]? = some (N0 + b, .inr (4, fs.map (cv (ad N0 xa)))) := by rw [wd_at hbn, hb]; rfl
  have hg : F0 m pc ls ((Value.ref b :: Value.int i :: Value.ref a :: S).map (cv (ad N0 xa))) = F0 m pc ls (.ref (N0 + b) :: .int i :: .ref (N0 + a) :: S.map (cv (ad N0 xa))) := by
    rw [List.map_cons, List.map_cons, List.map_cons, cv_ref (Nat.lt_of_lt_of_le han hn), cv_ref (Nat.lt_of_lt_of_le hbn hn)]; rfl
  rw [hg]
  have hK := C.2.2.2.2.2.2.2.1
  obtain ⟨r', hr', cellV, g1, g2, g3, -⟩ := hP b _ hv
  have hcls := (hK.1 4 _ cl_4.1).2
  obtain ⟨kA, comp, k1, k2, k3, -⟩ := (hK.2 5 (ca 5, .object RX4) rfl).2
  have hcomp : comp = D.1 4 := Option.some.inj (k3.symm.trans hcls.1)
  subst hcomp
  obtain ⟨kC, hkC, -⟩ := hcls.2
  refine W.aast C.1 C.2.1 (hP a _ he) (fun q h => by cases h) (fun h => by cases h) k1 k2 rfl hkC ⟨h0, by show _ < (arrV _ _ _).slots.size; rw [arrV_size]; exact hlt⟩ g1 (fun q h => by rw [g3] at h; cases h) (by rw [g2]; exact hkC) (by rw [g2]; exact va_assign hcls) rfl rfl hd fun H1 e1 e2 e3 => ?_
  refine kk (hup h a (cR 5 N (va_up f i.toNatClampNeg (some b)))) hup_self (fun b hb => hup_ne hb) p l e s m args below meth c D ca N0 xa C H1 _ ls hn (hz.trans e2.symm) (wd_upd hP han _ ?_ e3) (hS.put e2 e3 (Nat.le_add_right _ _)) hl
  show H1[N0 + a]? = some (vp_cell (ca 5) (N, .inr (.inr (.inr (.inr (fun j => (va_up f i.toNatClampNeg (some b) j).map (ad N0 xa)))))))
  have e9 : (fun j => (va_up f i.toNatClampNeg (some b) j).map (ad N0 xa)) = va_up (fun j => (f j).map (ad N0 xa)) i.toNatClampNeg (some (N0 + b)) := by
    funext j
    unfold va_up
    by_cases e : j = i.toNatClampNeg
    · rw [if_pos e, if_pos e, ← ad_lt (xa := xa) (Nat.lt_of_lt_of_le hbn hn)]; rfl
    · rw [if_neg e, if_neg e]
  rw [e1, e9]
  exact congrArg some (cl_upd_q _ _ _ _ _)
theorem x_callI {y : MethodName} {M' : MX} {np i0 a : Nat} {As rest : List Value} {post' : Option Value → Nat → AH → Prop} (hd : decode M.1 pc = .ok (.invokespecial i0, 3)) {q : Nat} (hq : pc + 3 = q) (ok : MOkI y M' np) (hl0 : Cond.methodLink M.2.1 i0 y ∈ TBg) (hct : Ct y M' (.ref a :: As) n h post') (han : a < n) (hn0 : As.length = np) (hst : S = As.reverse ++ .ref a :: rest) (hW : (rest.map fun v => v.category).sum ≤ 8) (hR : M'.2.2.2.2.1.frames + 1 ≤ M.2.2.2.2.1.frames ∧ 8 + (M'.2.2.1 + 11) + M'.2.2.2.2.1.locals ≤ M.2.2.2.2.1.locals) (hC : k + M'.2.2.2.2.1.cells ≤ M.2.2.2.2.1.cells ∧ z + M'.2.2.2.2.1.slots ≤ M.2.2.2.2.1.slots)
    (kk : ∀ (r : Option Value) (n' : Nat) (h' : AH), post' r n' h' → Wp M q L (r.toList ++ rest) n' h' (k + M'.2.2.2.2.1.cells) (z + M'.2.2.2.2.1.slots) post) : Wp M pc L S n h k z post := by
  subst hst
  subst hq
  intro p l e s m args below meth c D ca N0 xa C H locs ls hn hz hP hS hl
  obtain ⟨⟨o1, o2, o3⟩, o4, o5, o6⟩ := ok
  have hts := C.2.2.2.2.2.2.1
  have e0 : cv (ad N0 xa) (.ref a) = .ref (N0 + a) := cv_ref (Nat.lt_of_lt_of_le han hn)
  have hM := hct l D ca N0 xa
  rw [List.map_cons, e0] at hM
  refine bi_call (va_runI (b := N0 + a) (As := As.map (cv (ad N0 xa))) (rest := rest.map (cv (ad N0 xa))) ⟨C.1, C.2.1, C.2.2.1, C.2.2.2.2.2.1, hts⟩ hM ⟨callB_of np hts (good_ws o1) (by rw [o6]) rfl rfl (hts _ o2) (hts _ hl0) o3 hR, o5, hts _ o4⟩ ⟨pre_blind, fun U hU hW => ⟨rfl, pre_warm hU hW hz hn hP C.2.2.2.2.2.2.2.1 C.2.2.2.2.2.2.2.2.1 C.2.2.2.2.2.2.2.2.2.2.1 hS⟩⟩ rfl (by simpa using hn0) hl.1 (by simp [e0]) (by rw [cv_sum]; exact lv_room (m := m) (pc := pc) (ls := ls) (rest := []) hW) hd hC) hS fun r n' h' H1 locs1 hp hn1 hz1 hP1 hS1 => ?_
  have hk := kk r n' h' hp p l e s m args below meth c D ca N0 xa C H1 locs1 ls hn1 hz1 hP1 hS1 hl
  have e9 : (r.map (cv (ad N0 xa))).toList ++ rest.map (cv (ad N0 xa)) = (r.toList ++ rest).map (cv (ad N0 xa)) := by cases r <;> rfl
  rw [e9]
  exact hk
theorem x_callN {y : MethodName} {M' : MX} {np i0 a : Nat} {As rest : List Value} {post' : Option Value → Nat → AH → Prop} (hd : decode M.1 pc = .ok (.invokespecial i0, 3)) {q : Nat} (hq : pc + 3 = q) (ok : MOkI y M' np) {host : String} (hl0 : (M.2.1, i0, y, host) ∈ nws) (hct : Ct y M' (.ref a :: As) n h post') (han : a < n) (hn0 : As.length = np) (hst : S = As.reverse ++ .ref a :: rest) (hW : (rest.map fun v => v.category).sum ≤ 8) (hR : M'.2.2.2.2.1.frames + 1 ≤ M.2.2.2.2.1.frames ∧ 8 + (M'.2.2.1 + 11) + M'.2.2.2.2.1.locals ≤ M.2.2.2.2.1.locals) (hC : k + M'.2.2.2.2.1.cells ≤ M.2.2.2.2.1.cells ∧ z + M'.2.2.2.2.1.slots ≤ M.2.2.2.2.1.slots)
    (kk : ∀ (r : Option Value) (n' : Nat) (h' : AH), post' r n' h' → Wp M q L (r.toList ++ rest) n' h' (k + M'.2.2.2.2.1.cells) (z + M'.2.2.2.2.1.slots) post) : Wp M pc L S n h k z post := by
  subst hst
  subst hq
  intro p l e s m args below meth c D ca N0 xa C H locs ls hn hz hP hS hl
  obtain ⟨⟨o1, o2, o3⟩, o4, o5, o6⟩ := ok
  have hts := C.2.2.2.2.2.2.1
  have e0 : cv (ad N0 xa) (.ref a) = .ref (N0 + a) := cv_ref (Nat.lt_of_lt_of_le han hn)
  have hM := hct l D ca N0 xa
  rw [List.map_cons, e0] at hM
  refine bi_call (va_runIN (b := N0 + a) (As := As.map (cv (ad N0 xa))) (rest := rest.map (cv (ad N0 xa))) ⟨C.1, C.2.1, C.2.2.1, C.2.2.2.2.2.1, hts⟩ hM ⟨va_cnB np hts (good_ws o1) (by rw [o6]) rfl rfl (C.2.2.2.2.2.2.2.2.1 _ hl0) (hts _ o2) o3 hR, o5, hts _ o4⟩ ⟨pre_blind, fun U hU hW => ⟨rfl, pre_warm hU hW hz hn hP C.2.2.2.2.2.2.2.1 C.2.2.2.2.2.2.2.2.1 C.2.2.2.2.2.2.2.2.2.2.1 hS⟩⟩ rfl (by simpa using hn0) hl.1 (by simp [e0]) (by rw [cv_sum]; exact lv_room (m := m) (pc := pc) (ls := ls) (rest := []) hW) hd hC) hS fun r n' h' H1 locs1 hp hn1 hz1 hP1 hS1 => ?_
  have hk := kk r n' h' hp p l e s m args below meth c D ca N0 xa C H1 locs1 ls hn1 hz1 hP1 hS1 hl
  have e9 : (r.map (cv (ad N0 xa))).toList ++ rest.map (cv (ad N0 xa)) = (r.toList ++ rest).map (cv (ad N0 xa)) := by cases r <;> rfl
  rw [e9]
  exact hk
theorem x_obj {i0 a : Nat} (hd : decode M.1 pc = .ok (.invokespecial i0, 3)) {q : Nat} (hq : pc + 3 = q) (hl0 : Cond.methodLink M.2.1 i0 Lib.objectInit ∈ TBg) (hi0 : Cond.instanceMethod Lib.objectInit ∈ TBg) (hc0 : Cond.code Lib.objectInit ⟨#[0xb1]⟩ 1 none ∈ TBg) (hfr : 1 ≤ M.2.2.2.2.1.frames) (hlo : (S.map fun v => v.category).sum + 12 ≤ M.2.2.2.2.1.locals) (kk : Wp M q L S n h k z post) : Wp M pc L (.ref a :: S) n h k z post := by
  subst hq
  intro p l e s m args below meth c D ca N0 xa C H locs ls hn hz hP hS hl
  have hts := C.2.2.2.2.2.2.1
  exact W.objInit C.1 C.2.1 C.2.2.2.2.2.1 (hts _ hl0) (hts _ hi0) (hts _ hc0) rfl (hl.1.trans C.2.2.1.symm) rfl hd hfr (by show 2 * 0 + _ + 12 ≤ _; rw [cv_sum]; omega) (kk p l e s m args below meth c D ca N0 xa C H locs ls hn hz hP hS hl)
theorem x_ldcS {i0 : Nat} (hd : decode M.1 pc = .ok (.ldc i0, 2)) {q : Nat} (hq : pc + 2 = q) (ho : M.2.1 = RX6) (hi : i0 = 42) (kk : Wp M q L (.ref 1000002 :: S) n h k z post) : Wp M pc L S n h k z post := by
  subst hq
  intro p l e s m args below meth c D ca N0 xa C H locs ls hn hz hP hS hl
  subst hi
  have ho2 := C.2.2.2.2.2.1
  rw [ho] at ho2
  exact va_ldcS C.1 C.2.1 ho2 C.2.2.2.2.2.2.2.2.2.2.1.2.2.2.2.1 hd (kk p l e s m args below meth c D ca N0 xa C H locs ls hn hz hP hS hl)
theorem x_getCS {i0 : Nat} (hd : decode M.1 pc = .ok (.getstatic i0, 3)) {q : Nat} (hq : pc + 3 = q) (hw : Cond.fieldLink M.2.1 i0 "java/lang/String" "COMPACT_STRINGS" "Z" ∈ TBg) (kk : Wp M q L (.int 1 :: S) n h k z post) : Wp M pc L S n h k z post := by
  subst hq
  intro p l e s m args below meth c D ca N0 xa C H locs ls hn hz hP hS hl
  exact va_gets C.1 C.2.1 C.2.2.2.2.2.2.2.2.2.2.1.2.2.1 hS C.2.2.2.2.2.1 (C.2.2.2.2.2.2.1 _ hw) (fun _ h9 => h9) hd (kk p l e s m args below meth c D ca N0 xa C H locs ls hn hz hP hS hl)
theorem x_getSF {i0 : Nat} (hd : decode M.1 pc = .ok (.getstatic i0, 3)) {q : Nat} (hq : pc + 3 = q) (hw : Cond.fieldLink M.2.1 i0 "jdk/internal/util/Preconditions" "SIOOBE_FORMATTER" "Ljava/util/function/BiFunction;" ∈ TBg) (kk : ∀ v : Value, v = .null ∨ v = .ref 1000004 → Wp M q L (v :: S) n h k z post) : Wp M pc L S n h k z post := by
  subst hq
  intro p l e s m args below meth c D ca N0 xa C H locs ls hn hz hP hS hl
  rcases C.2.2.2.2.2.2.2.2.2.2.1.2.2.2.2.2.1 with w | w
  · exact va_gets C.1 C.2.1 w hS C.2.2.2.2.2.1 (C.2.2.2.2.2.2.1 _ hw) (fun _ h9 => h9) hd (kk .null (Or.inl rfl) p l e s m args below meth c D ca N0 xa C H locs ls hn hz hP hS hl)
  · exact va_gets C.1 C.2.1 w hS C.2.2.2.2.2.1 (C.2.2.2.2.2.2.1 _ hw) (fun _ h9 => h9) hd (kk (.ref 1000004) (Or.inr rfl) p l e s m args below meth c D ca N0 xa C H locs ls hn hz hP hS hl)
theorem x_gfC {i0 : Nat} (hd : decode M.1 pc = .ok (.getfield i0, 3)) {q : Nat} (hq : pc + 3 = q) (hw : Cond.fieldLink M.2.1 i0 "java/lang/String" "coder" "B" ∈ TBg) (kk : Wp M q L (.int 0 :: S) n h k z post) : Wp M pc L (.ref 1000002 :: S) n h k z post := by
  subst hq
  intro p l e s m args below meth c D ca N0 xa C H locs ls hn hz hP hS hl
  exact vk_getf C.1 C.2.1 (C.2.2.2.2.2.2.2.2.2.2.1.2.2.2.1.1 0 (by decide)).2.1 hS C.2.2.2.2.2.1 (C.2.2.2.2.2.2.1 _ hw) (fun _ h9 => h9) hd (kk p l e s m args below meth c D ca N0 xa C H locs ls hn hz hP hS hl)
theorem x_gfV {i0 : Nat} (hd : decode M.1 pc = .ok (.getfield i0, 3)) {q : Nat} (hq : pc + 3 = q) (hw : Cond.fieldLink M.2.1 i0 "java/lang/String" "value" "[B" ∈ TBg) (kk : Wp M q L (.ref 1000003 :: S) n h k z post) : Wp M pc L (.ref 1000002 :: S) n h k z post := by
  subst hq
  intro p l e s m args below meth c D ca N0 xa C H locs ls hn hz hP hS hl
  exact vk_getf C.1 C.2.1 (C.2.2.2.2.2.2.2.2.2.2.1.2.2.2.1.1 0 (by decide)).2.2.1 hS C.2.2.2.2.2.1 (C.2.2.2.2.2.2.1 _ hw) (fun _ h9 => h9) hd (kk p l e s m args below meth c D ca N0 xa C H locs ls hn hz hP hS hl)
theorem x_alenT (hd : decode M.1 pc = .ok (.arraylength, 1)) {q : Nat} (hq : pc + 1 = q) (kk : Wp M q L (.int 110 :: S) n h k z post) : Wp M pc L (.ref 1000003 :: S) n h k z post := by
  subst hq
  intro p l e s m args below meth c D ca N0 xa C H locs ls hn hz hP hS hl
  exact va_tlen (N := 110) C.1 C.2.1 (C.2.2.2.2.2.2.2.2.2.2.1.2.2.2.1.1 0 (by decide)).2.2.2 hS rfl hd (kk p l e s m args below meth c D ca N0 xa C H locs ls hn hz hP hS hl)
theorem x_baldT {i : Int32} (hd : decode M.1 pc = .ok (.baload, 1)) {q : Nat} (hq : pc + 1 = q) (hi : vp_in i 110) (kk : Wp M q L (.int (KWb.getD i.toNatClampNeg 0) :: S) n h k z post) : Wp M pc L (.int i :: .ref 1000003 :: S) n h k z post := by
  subst hq
  intro p l e s m args below meth c D ca N0 xa C H locs ls hn hz hP hS hl
  exact va_tb (N := 110) C.1 C.2.1 (C.2.2.2.2.2.2.2.2.2.2.1.2.2.2.1.1 0 (by decide)).2.2.2 hS hi rfl hd (kk p l e s m args below meth c D ca N0 xa C H locs ls hn hz hP hS hl)
theorem x_pop1 {v : Value} (hd : decode M.1 pc = .ok (.pop, 1)) {q : Nat} (hq : pc + 1 = q) (hv : v.category = 1) (kk : Wp M q L S n h k z post) : Wp M pc L (v :: S) n h k z post := by
  subst hq
  intro p l e s m args below meth c D ca N0 xa C H locs ls hn hz hP hS hl
  exact lv_pop C.1 C.2.1 hd (by rw [cv_cat]; exact hv) (kk p l e s m args below meth c D ca N0 xa C H locs ls hn hz hP hS hl)
theorem x_callT {y : MethodName} {M' : MX} {np i0 : Nat} {As rest : List Value} {post' : Option Value → Nat → AH → Prop} (hd : decode M.1 pc = .ok (.invokevirtual i0, 3)) {q : Nat} (hq : pc + 3 = q) (ok : MOkV y M' np) (hl0 : Cond.methodLink M.2.1 i0 y ∈ TBg) (hyc : y.cls = "java/lang/String") (hct : Ct y M' (.ref 1000002 :: As) n h post') (hn0 : As.length = np) (hst : S = As.reverse ++ .ref 1000002 :: rest) (hW : (rest.map fun v => v.category).sum ≤ 8) (hR : M'.2.2.2.2.1.frames + 1 ≤ M.2.2.2.2.1.frames ∧ 8 + (M'.2.2.1 + 11) + M'.2.2.2.2.1.locals ≤ M.2.2.2.2.1.locals) (hC : k + M'.2.2.2.2.1.cells ≤ M.2.2.2.2.1.cells ∧ z + M'.2.2.2.2.1.slots ≤ M.2.2.2.2.1.slots)
    (kk : ∀ (r : Option Value) (n' : Nat) (h' : AH), post' r n' h' → Wp M q L (r.toList ++ rest) n' h' (k + M'.2.2.2.2.1.cells) (z + M'.2.2.2.2.1.slots) post) : Wp M pc L S n h k z post := by
  subst hst
  subst hq
  intro p l e s m args below meth c D ca N0 xa C H locs ls hn hz hP hS hl
  obtain ⟨⟨o1, o2, o3⟩, o4, o5⟩ := ok
  have hts := C.2.2.2.2.2.2.1
  have e0 : cv (ad N0 xa) (.ref 1000002) = .ref (xa 2) := rfl
  have hM := hct l D ca N0 xa
  rw [List.map_cons, e0] at hM
  refine bi_call (va_runV (C := y.cls) (b := xa 2) (As := As.map (cv (ad N0 xa))) (rest := rest.map (cv (ad N0 xa))) ⟨C.1, C.2.1, C.2.2.1, C.2.2.2.2.2.1, hts⟩ hM ⟨callB_of np hts (good_ws o1) rfl rfl rfl (hts _ o2) (hts _ hl0) o3 hR, hts _ o4, hts _ o5⟩ ⟨pre_blind, by rw [hyc]; exact vk_recv (i := 0) C.2.2.2.2.2.2.2.2.2.2.1.2.2.2.1 (by decide) hS, fun U hU hW => ⟨rfl, pre_warm hU hW hz hn hP C.2.2.2.2.2.2.2.1 C.2.2.2.2.2.2.2.2.1 C.2.2.2.2.2.2.2.2.2.2.1 hS⟩⟩ rfl (by simpa using hn0) hl.1 (by simp [e0]) (by rw [cv_sum]; exact lv_room (m := m) (pc := pc) (ls := ls) (rest := []) hW) hd hC) hS fun r n' h' H1 locs1 hp hn1 hz1 hP1 hS1 => ?_
  have hk := kk r n' h' hp p l e s m args below meth c D ca N0 xa C H1 locs1 ls hn1 hz1 hP1 hS1 hl
  have e9 : (r.map (cv (ad N0 xa))).toList ++ rest.map (cv (ad N0 xa)) = (r.toList ++ rest).map (cv (ad N0 xa)) := by cases r <;> rfl
  rw [e9]
  exact hk
end WPN
