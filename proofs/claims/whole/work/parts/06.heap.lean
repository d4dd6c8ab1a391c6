section WPH
variable {M : MX} {pc n k z : Nat} {L : List (Option Value)} {S : List Value} {h : AH} {post : Option Value → Nat → AH → Prop}
theorem cv_ref {N0 : Nat} {xa : Nat → Nat} {a : Nat} (ha : a < 1000000) : cv (ad N0 xa) (.ref a) = .ref (N0 + a) := by
  show Value.ref (ad N0 xa a) = _
  rw [ad_lt ha]
theorem wd_upd {D : va_G} {N0 : Nat} {xa : Nat → Nat} {ca : Nat → ClassId} {H H1 : Heap} {a : Nat} (hP : va_P D vwCl (wd N0 xa ca n h) H) (han : a < n) (x : AC) (hx : va_at D vwCl (N0 + a, cnc (ad N0 xa) ca x) H1) (oq : ∀ q : Nat, q ≠ N0 + a → H1[q]? = H[q]?) : va_P D vwCl (wd N0 xa ca n (hup h a x)) H1 := by
  rw [← wd_set]
  exact hP.set wd_D (wd_at han) hx oq
theorem cl_upd_i (cA : ClassId) (N j : Nat) (f : Nat → Int32) (x : Int32) : (vp_cell cA (N, .inl f)).setSlot j (.int x) = vp_cell cA (N, .inl (upd f j x)) := by
  rw [vp_cell_i, vp_cell_i, arrV_store]
  refine congrArg (arrV cA N) (funext fun q => ?_)
  by_cases e : q = j <;> simp [updV, upd, e]
theorem cl_upd_l (cA : ClassId) (N j : Nat) (f : Nat → Int64) (x : Int64) : (vp_cell cA (N, .inr (.inl f))).setSlot j (.long x) = vp_cell cA (N, .inr (.inl (vp_updL f j x))) := by
  rw [vp_cell_l, vp_cell_l, arrV_store]
  refine congrArg (arrV cA N) (funext fun q => ?_)
  by_cases e : q = j <;> simp [updV, vp_updL, e]
theorem cl_upd_q (cA : ClassId) (N j : Nat) (f : Nat → Option Nat) (x : Nat) : (vp_cell cA (N, .inr (.inr (.inr (.inr f))))).setSlot j (.ref x) = vp_cell cA (N, .inr (.inr (.inr (.inr (va_up f j (some x)))))) := by
  rw [vp_cell_q, vp_cell_q, arrV_store]
  refine congrArg (arrV cA N) (funext fun q => ?_)
  by_cases e : q = j <;> simp [updV, va_up, e, va_rf]
/-- getfield -/
theorem x_get {ci K i0 a : Nat} {Cn : String} {T : u_T} {N : Nat} {fs : List Value} {v : Value} (hd : decode M.1 pc = .ok (.getfield i0, 3)) {q : Nat} (hq : pc + 3 = q) (hc : vwCl[ci]? = some (Cn, T, N)) (hin : ∀ w ∈ u_ws Cn T N, w ∈ TBg) (hK : K < N) (hw : Cond.fieldLink M.2.1 i0 (T K).1 (T K).2.1 (T K).2.2.1 ∈ TBg) (ha : h a = cO ci fs) (han : a < n) (hv : fs[K]? = some v) (kk : Wp M q L (v :: S) n h k z post) : Wp M pc L (.ref a :: S) n h k z post := by
  subst hq
  intro p l e s m args below meth c D ca N0 xa C H locs ls hn hz hP hS hl
  have he : (wd N0 xa ca n h)[a]? = some (N0 + a, .inr (ci, fs.map (cv (ad N0 xa)))) := by rw [wd_at han, ha]; rfl
  have hg : F0 m pc ls ((Value.ref a :: S).map (cv (ad N0 xa))) = F0 m pc ls (.ref (N0 + a) :: S.map (cv (ad N0 xa))) := by
    rw [List.map_cons, cv_ref (Nat.lt_of_lt_of_le han hn)]
  rw [hg]
  exact va_get C.1 C.2.1 C.2.2.2.2.2.2.1 hin C.2.2.2.2.2.1 C.2.2.2.2.2.2.2.1 hP a he hc K hK (C.2.2.2.2.2.2.1 _ hw) (fun _ h9 => h9) (v := cv (ad N0 xa) v) (by simp [hv]) hd (kk p l e s m args below meth c D ca N0 xa C H locs ls hn hz hP hS hl)
theorem cv_fit {a : Nat → Nat} {ty : FieldType} {v : Value} (hn : narrow ty v = v) (hf : fits ty v = true) : narrow ty (cv a v) = cv a v ∧ fits ty (cv a v) = true := by
  cases v with
  | ref x =>
    constructor
    · cases ty <;> rfl
    · cases ty <;> first | rfl | (exact absurd hf (by simp [fits]))
  | _ => exact ⟨hn, hf⟩
/-- putfield -/
theorem x_put {ci K i0 a : Nat} {Cn : String} {T : u_T} {N : Nat} {ty0 : Nat → FieldType} {fs : List Value} {v : Value} (hd : decode M.1 pc = .ok (.putfield i0, 3)) {q : Nat} (hq : pc + 3 = q) (hc : vwCl[ci]? = some (Cn, T, N)) (hin : ∀ w ∈ u_ws Cn T N, w ∈ TBg) (hty : ∀ j, j < N → parseFieldDescriptor (T j).2.2.1 = some (ty0 j)) (hnm : ∀ a, a < N → ∀ b, b < N → a ≠ b → (T a).2.1 ≠ (T b).2.1) (hK : K < N) (hw : Cond.fieldLink M.2.1 i0 (T K).1 (T K).2.1 (T K).2.2.1 ∈ TBg) (hfin : (T K).2.2.2 = false) (hnr : narrow (ty0 K) v = v) (hft : fits (ty0 K) v = true) (ha : h a = cO ci fs) (han : a < n) (hlen : K < fs.length) (kk : ∀ h' : AH, h' a = cO ci (fs.set K v) → (∀ b, b ≠ a → h' b = h b) → Wp M q L S n h' k z post) : Wp M pc L (v :: .ref a :: S) n h k z post := by
  subst hq
  intro p l e s m args below meth c D ca N0 xa C H locs ls hn hz hP hS hl
  have he : (wd N0 xa ca n h)[a]? = some (N0 + a, .inr (ci, fs.map (cv (ad N0 xa)))) := by rw [wd_at han, ha]; rfl
  have hg : F0 m pc ls ((v :: Value.ref a :: S).map (cv (ad N0 xa))) = F0 m pc ls (cv (ad N0 xa) v :: .ref (N0 + a) :: S.map (cv (ad N0 xa))) := by
    rw [List.map_cons, List.map_cons, cv_ref (Nat.lt_of_lt_of_le han hn)]
  rw [hg]
  have hts := C.2.2.2.2.2.2.1
  have hKn := C.2.2.2.2.2.2.2.1
  have hap := va_apart (own := M.2.1) hts hin ty0 hty hnm hKn hc
  obtain ⟨r, h1, cell, q1, q2, q3, q4⟩ := hP a _ he
  have hr : r = (Cn, T, N) := Option.some.inj (h1.symm.trans hc)
  subst hr
  obtain ⟨hS2, hfc, kC, hkC, hkind⟩ := hKn.1 ci _ hc
  obtain ⟨cf, kf, fi, f, hi, hsl⟩ := hS2 K hK
  have hlay := hts _ (hin _ (u_in_lay hK))
  unfold u_lay at hlay
  rw [if_neg (by rw [hfin]; decide)] at hlay
  have hst := (u_facts hfc hkC (u_lays hts hin hK) hi).1
  have h6 := u_store hfc hkC hkind hlay hi (hty K hK) (cv_fit (a := ad N0 xa) hnr hft).1 (cv_fit (a := ad N0 xa) hnr hft).2
  refine W.putK C.1 C.2.1 (f := f) ⟨C.2.2.2.2.2.1, hts _ hw, ⟨_, _, _, hi⟩, hst⟩ (by rw [q2]; exact h6) q1 q3 (by rw [hsl]; exact k2_hasslot (q4 K hK)) rfl rfl hd fun H1 e1 e2 e3 => ?_
  rw [hsl] at e1 ⊢
  refine kk (hup h a (cO ci (fs.set K v))) hup_self (fun b hb => hup_ne hb) p l e s m args below meth c D ca N0 xa C H1 _ ls hn (hz.trans e2.symm) (wd_upd hP han _ ?_ e3) (hS.put e2 e3 (Nat.le_add_right _ _)) hl
  refine ⟨_, hc, t_OB.to (V := updV (vp_V (fs.map (cv (ad N0 xa)))) K (cv (ad N0 xa) v)) ⟨_, e1, q2, q3, t_set q4 hap hK _⟩ (fun j _ => ?_)⟩
  rw [vp_updV_set (by simpa using hlen), ← List.map_set]
/-- a final field, in a constructor -/
theorem x_putF {ci K i0 a : Nat} {Cn : String} {T : u_T} {N : Nat} {ty0 : Nat → FieldType} {fs : List Value} {v : Value} (hd : decode M.1 pc = .ok (.putfield i0, 3)) {q : Nat} (hq : pc + 3 = q) (hc : vwCl[ci]? = some (Cn, T, N)) (hin : ∀ w ∈ u_ws Cn T N, w ∈ TBg) (hty : ∀ j, j < N → parseFieldDescriptor (T j).2.2.1 = some (ty0 j)) (hnm : ∀ a, a < N → ∀ b, b < N → a ≠ b → (T a).2.1 ≠ (T b).2.1) (hK : K < N) (hw : Cond.fieldLink M.2.1 i0 (T K).1 (T K).2.1 (T K).2.2.1 ∈ TBg) (hfin : (T K).2.2.2 = true) (hi0 : M.2.2.2.2.2 = true) (hdc : (T K).1 = M.2.1) (hnr : narrow (ty0 K) v = v) (hft : fits (ty0 K) v = true) (ha : h a = cO ci fs) (han : a < n) (hlen : K < fs.length) (kk : ∀ h' : AH, h' a = cO ci (fs.set K v) → (∀ b, b ≠ a → h' b = h b) → Wp M q L S n h' k z post) : Wp M pc L (v :: .ref a :: S) n h k z post := by
  subst hq
  intro p l e s m args below meth c D ca N0 xa C H locs ls hn hz hP hS hl
  have he : (wd N0 xa ca n h)[a]? = some (N0 + a, .inr (ci, fs.map (cv (ad N0 xa)))) := by rw [wd_at han, ha]; rfl
  have hg : F0 m pc ls ((v :: Value.ref a :: S).map (cv (ad N0 xa))) = F0 m pc ls (cv (ad N0 xa) v :: .ref (N0 + a) :: S.map (cv (ad N0 xa))) := by
    rw [List.map_cons, List.map_cons, cv_ref (Nat.lt_of_lt_of_le han hn)]
  rw [hg]
  have hts := C.2.2.2.2.2.2.1
  have hKn := C.2.2.2.2.2.2.2.1
  have hap := va_apart (own := M.2.1) hts hin ty0 hty hnm hKn hc
  obtain ⟨r, h1, cell, q1, q2, q3, q4⟩ := hP a _ he
  have hr : r = (Cn, T, N) := Option.some.inj (h1.symm.trans hc)
  subst hr
  obtain ⟨hS2, hfc, kC, hkC, hkind⟩ := hKn.1 ci _ hc
  obtain ⟨cf, kf, fi, f, hi, hsl⟩ := hS2 K hK
  have hlay := hts _ (hin _ (u_in_lay hK))
  unfold u_lay at hlay
  rw [if_pos hfin] at hlay
  have hst := (u_facts hfc hkC (u_lays hts hin hK) hi).1
  have hcf : m.cls = cf := by
    obtain ⟨_, _, c', _, _, _, -, -, hf', -, -, -, hown2, -⟩ := Cond.laysFinal_spec hlay
    have e1 : c' = cf := by have := hi.symm.trans hf'; simp at this; exact this.1.symm
    rw [hdc] at hown2
    rw [← e1]; exact Option.some.inj (C.2.2.2.2.2.1.symm.trans hown2)
  have h6 := u_fits hfc hkC hkind (Or.inr hlay) hi (hty K hK) (cv_fit (a := ad N0 xa) hnr hft).1 (cv_fit (a := ad N0 xa) hnr hft).2
  refine W.putFinK C.1 C.2.1 C.2.2.2.2.2.1 (hts _ hw) hi hst hcf (C.2.2.2.2.2.2.2.2.2.2.2 hi0) (by rw [q2]; exact h6) q1 q3 (by rw [hsl]; exact k2_hasslot (q4 K hK)) rfl rfl hd fun H1 e1 e2 e3 => ?_
  rw [hsl] at e1 ⊢
  refine kk (hup h a (cO ci (fs.set K v))) hup_self (fun b hb => hup_ne hb) p l e s m args below meth c D ca N0 xa C H1 _ ls hn (hz.trans e2.symm) (wd_upd hP han _ ?_ e3) (hS.put e2 e3 (Nat.le_add_right _ _)) hl
  refine ⟨_, hc, t_OB.to (V := updV (vp_V (fs.map (cv (ad N0 xa)))) K (cv (ad N0 xa) v)) ⟨_, e1, q2, q3, t_set q4 hap hK _⟩ (fun j _ => ?_)⟩
  rw [vp_updV_set (by simpa using hlen), ← List.map_set]
theorem x_iald {a N : Nat} {f : Nat → Int32} {i : Int32} (hd : decode M.1 pc = .ok (.iaload, 1)) {q : Nat} (hq : pc + 1 = q) (ha : h a = cI 0 N f) (han : a < n) (hi : vp_in i N) (kk : Wp M q L (.int (f i.toNatClampNeg) :: S) n h k z post) : Wp M pc L (.int i :: .ref a :: S) n h k z post := by
  subst hq
  intro p l e s m args below meth c D ca N0 xa C H locs ls hn hz hP hS hl
  have he : (wd N0 xa ca n h)[a]? = some (N0 + a, .inl (ca 0, N, .inl f)) := by rw [wd_at han, ha]; rfl
  have hg : F0 m pc ls ((Value.int i :: Value.ref a :: S).map (cv (ad N0 xa))) = F0 m pc ls (.int i :: .ref (N0 + a) :: S.map (cv (ad N0 xa))) := by
    rw [List.map_cons, List.map_cons, cv_ref (Nat.lt_of_lt_of_le han hn)]; rfl
  rw [hg]
  exact va_iald C.1 C.2.1 C.2.2.2.2.2.2.2.1 hP a 0 he rfl hi hd (kk p l e s m args below meth c D ca N0 xa C H locs ls hn hz hP hS hl)
theorem x_bald {a N : Nat} {f : Nat → Int32} {i : Int32} (hd : decode M.1 pc = .ok (.baload, 1)) {q : Nat} (hq : pc + 1 = q) (ha : h a = cI 1 N f) (han : a < n) (hi : vp_in i N) (kk : Wp M q L (.int (f i.toNatClampNeg) :: S) n h k z post) : Wp M pc L (.int i :: .ref a :: S) n h k z post := by
  subst hq
  intro p l e s m args below meth c D ca N0 xa C H locs ls hn hz hP hS hl
  have he : (wd N0 xa ca n h)[a]? = some (N0 + a, .inl (ca 1, N, .inl f)) := by rw [wd_at han, ha]; rfl
  have hg : F0 m pc ls ((Value.int i :: Value.ref a :: S).map (cv (ad N0 xa))) = F0 m pc ls (.int i :: .ref (N0 + a) :: S.map (cv (ad N0 xa))) := by
    rw [List.map_cons, List.map_cons, cv_ref (Nat.lt_of_lt_of_le han hn)]; rfl
  rw [hg]
  exact va_bald C.1 C.2.1 C.2.2.2.2.2.2.2.1 hP a 1 he rfl hi hd (kk p l e s m args below meth c D ca N0 xa C H locs ls hn hz hP hS hl)
theorem x_zald {a N : Nat} {f : Nat → Int32} {i : Int32} (hd : decode M.1 pc = .ok (.baload, 1)) {q : Nat} (hq : pc + 1 = q) (ha : h a = cI 2 N f) (han : a < n) (hi : vp_in i N) (kk : Wp M q L (.int (f i.toNatClampNeg) :: S) n h k z post) : Wp M pc L (.int i :: .ref a :: S) n h k z post := by
  subst hq
  intro p l e s m args below meth c D ca N0 xa C H locs ls hn hz hP hS hl
  have he : (wd N0 xa ca n h)[a]? = some (N0 + a, .inl (ca 2, N, .inl f)) := by rw [wd_at han, ha]; rfl
  have hg : F0 m pc ls ((Value.int i :: Value.ref a :: S).map (cv (ad N0 xa))) = F0 m pc ls (.int i :: .ref (N0 + a) :: S.map (cv (ad N0 xa))) := by
    rw [List.map_cons, List.map_cons, cv_ref (Nat.lt_of_lt_of_le han hn)]; rfl
  rw [hg]
  exact va_zald C.1 C.2.1 C.2.2.2.2.2.2.2.1 hP a 2 he rfl hi hd (kk p l e s m args below meth c D ca N0 xa C H locs ls hn hz hP hS hl)
theorem x_lald {a N : Nat} {f : Nat → Int64} {i : Int32} (hd : decode M.1 pc = .ok (.laload, 1)) {q : Nat} (hq : pc + 1 = q) (ha : h a = cJ N f) (han : a < n) (hi : vp_in i N) (kk : Wp M q L (.long (f i.toNatClampNeg) :: S) n h k z post) : Wp M pc L (.int i :: .ref a :: S) n h k z post := by
  subst hq
  intro p l e s m args below meth c D ca N0 xa C H locs ls hn hz hP hS hl
  have he : (wd N0 xa ca n h)[a]? = some (N0 + a, .inl (ca 3, N, .inr (.inl f))) := by rw [wd_at han, ha]; rfl
  have hg : F0 m pc ls ((Value.int i :: Value.ref a :: S).map (cv (ad N0 xa))) = F0 m pc ls (.int i :: .ref (N0 + a) :: S.map (cv (ad N0 xa))) := by
    rw [List.map_cons, List.map_cons, cv_ref (Nat.lt_of_lt_of_le han hn)]; rfl
  rw [hg]
  exact va_lald C.1 C.2.1 C.2.2.2.2.2.2.2.1 hP a 3 he rfl hi hd (kk p l e s m args below meth c D ca N0 xa C H locs ls hn hz hP hS hl)
theorem x_aald4 {a N b : Nat} {f : Nat → Option Nat} {i : Int32} (hd : decode M.1 pc = .ok (.aaload, 1)) {q : Nat} (hq : pc + 1 = q) (ha : h a = cR 4 N f) (han : a < n) (hi : vp_in i N) (hb : f i.toNatClampNeg = some b) (kk : Wp M q L (.ref b :: S) n h k z post) : Wp M pc L (.int i :: .ref a :: S) n h k z post := by
  subst hq
  intro p l e s m args below meth c D ca N0 xa C H locs ls hn hz hP hS hl
  have he : (wd N0 xa ca n h)[a]? = some (N0 + a, .inl (ca 4, N, .inr (.inr (.inr (.inr (fun j => (f j).map (ad N0 xa))))))) := by rw [wd_at han, ha]; rfl
  have hg : F0 m pc ls ((Value.int i :: Value.ref a :: S).map (cv (ad N0 xa))) = F0 m pc ls (.int i :: .ref (N0 + a) :: S.map (cv (ad N0 xa))) := by
    rw [List.map_cons, List.map_cons, cv_ref (Nat.lt_of_lt_of_le han hn)]; rfl
  rw [hg]
  have hlt : i.toNatClampNeg < N := Nat.not_le.mp fun q => hi (Or.inr q)
  have e9 : va_rf ((f i.toNatClampNeg).map (ad N0 xa)) = cv (ad N0 xa) (.ref b) := by rw [hb]; rfl
  refine W.aald (v := va_rf ((f i.toNatClampNeg).map (ad N0 xa))) (ty := .object RX10) C.1 C.2.1 (hP a _ he) ((C.2.2.2.2.2.2.2.1.2 4 _ rfl).1 N (fun j => va_rf ((f j).map (ad N0 xa)))) rfl (fun q => by cases q) (by show ¬ (i < 0 ∨ (arrV _ _ _).slots.size ≤ _); rw [arrV_size]; exact hi) (by show (arrV _ _ _).slots[_]? = _; rw [arrV_read _ _ hlt]) rfl rfl hd ?_
  rw [e9]
  exact kk p l e s m args below meth c D ca N0 xa C H locs ls hn hz hP hS hl
theorem x_aald5 {a N b : Nat} {f : Nat → Option Nat} {i : Int32} (hd : decode M.1 pc = .ok (.aaload, 1)) {q : Nat} (hq : pc + 1 = q) (ha : h a = cR 5 N f) (han : a < n) (hi : vp_in i N) (hb : f i.toNatClampNeg = some b) (kk : Wp M q L (.ref b :: S) n h k z post) : Wp M pc L (.int i :: .ref a :: S) n h k z post := by
  subst hq
  intro p l e s m args below meth c D ca N0 xa C H locs ls hn hz hP hS hl
  have he : (wd N0 xa ca n h)[a]? = some (N0 + a, .inl (ca 5, N, .inr (.inr (.inr (.inr (fun j => (f j).map (ad N0 xa))))))) := by rw [wd_at han, ha]; rfl
  have hg : F0 m pc ls ((Value.int i :: Value.ref a :: S).map (cv (ad N0 xa))) = F0 m pc ls (.int i :: .ref (N0 + a) :: S.map (cv (ad N0 xa))) := by
    rw [List.map_cons, List.map_cons, cv_ref (Nat.lt_of_lt_of_le han hn)]; rfl
  rw [hg]
  have hlt : i.toNatClampNeg < N := Nat.not_le.mp fun q => hi (Or.inr q)
  have e9 : va_rf ((f i.toNatClampNeg).map (ad N0 xa)) = cv (ad N0 xa) (.ref b) := by rw [hb]; rfl
  refine W.aald (v := va_rf ((f i.toNatClampNeg).map (ad N0 xa))) (ty := .object RX4) C.1 C.2.1 (hP a _ he) ((C.2.2.2.2.2.2.2.1.2 5 _ rfl).1 N (fun j => va_rf ((f j).map (ad N0 xa)))) rfl (fun q => by cases q) (by show ¬ (i < 0 ∨ (arrV _ _ _).slots.size ≤ _); rw [arrV_size]; exact hi) (by show (arrV _ _ _).slots[_]? = _; rw [arrV_read _ _ hlt]) rfl rfl hd ?_
  rw [e9]
  exact kk p l e s m args below meth c D ca N0 xa C H locs ls hn hz hP hS hl
theorem x_aald6 {a N b : Nat} {f : Nat → Option Nat} {i : Int32} (hd : decode M.1 pc = .ok (.aaload, 1)) {q : Nat} (hq : pc + 1 = q) (ha : h a = cR 6 N f) (han : a < n) (hi : vp_in i N) (hb : f i.toNatClampNeg = some b) (kk : Wp M q L (.ref b :: S) n h k z post) : Wp M pc L (.int i :: .ref a :: S) n h k z post := by
  subst hq
  intro p l e s m args below meth c D ca N0 xa C H locs ls hn hz hP hS hl
  have he : (wd N0 xa ca n h)[a]? = some (N0 + a, .inl (ca 6, N, .inr (.inr (.inr (.inr (fun j => (f j).map (ad N0 xa))))))) := by rw [wd_at han, ha]; rfl
  have hg : F0 m pc ls ((Value.int i :: Value.ref a :: S).map (cv (ad N0 xa))) = F0 m pc ls (.int i :: .ref (N0 + a) :: S.map (cv (ad N0 xa))) := by
    rw [List.map_cons, List.map_cons, cv_ref (Nat.lt_of_lt_of_le han hn)]; rfl
  rw [hg]
  have hlt : i.toNatClampNeg < N := Nat.not_le.mp fun q => hi (Or.inr q)
  have e9 : va_rf ((f i.toNatClampNeg).map (ad N0 xa)) = cv (ad N0 xa) (.ref b) := by rw [hb]; rfl
  refine W.aald (v := va_rf ((f i.toNatClampNeg).map (ad N0 xa))) (ty := .array .int) C.1 C.2.1 (hP a _ he) ((C.2.2.2.2.2.2.2.1.2 6 _ rfl).1 N (fun j => va_rf ((f j).map (ad N0 xa)))) rfl (fun q => by cases q) (by show ¬ (i < 0 ∨ (arrV _ _ _).slots.size ≤ _); rw [arrV_size]; exact hi) (by show (arrV _ _ _).slots[_]? = _; rw [arrV_read _ _ hlt]) rfl rfl hd ?_
  rw [e9]
  exact kk p l e s m args below meth c D ca N0 xa C H locs ls hn hz hP hS hl
theorem x_iast {a N : Nat} {f : Nat → Int32} {i x : Int32} (hd : decode M.1 pc = .ok (.iastore, 1)) {q : Nat} (hq : pc + 1 = q) (ha : h a = cI 0 N f) (han : a < n) (hi : vp_in i N) (kk : ∀ h' : AH, h' a = cI 0 N (upd f i.toNatClampNeg (x)) → (∀ b, b ≠ a → h' b = h b) → Wp M q L S n h' k z post) : Wp M pc L (.int x :: .int i :: .ref a :: S) n h k z post := by
  subst hq
  intro p l e s m args below meth c D ca N0 xa C H locs ls hn hz hP hS hl
  have he : (wd N0 xa ca n h)[a]? = some (N0 + a, .inl (ca 0, N, .inl f)) := by rw [wd_at han, ha]; rfl
  have hg : F0 m pc ls ((Value.int x :: Value.int i :: Value.ref a :: S).map (cv (ad N0 xa))) = F0 m pc ls (.int x :: .int i :: .ref (N0 + a) :: S.map (cv (ad N0 xa))) := by
    rw [List.map_cons, List.map_cons, List.map_cons, cv_ref (Nat.lt_of_lt_of_le han hn)]; rfl
  rw [hg]
  refine W.iast C.1 C.2.1 (hP a _ he) ((C.2.2.2.2.2.2.2.1.2 0 _ rfl).1 N (fun j => .int (f j))) (fun q => by cases q) (by show ¬ (i < 0 ∨ (arrV _ _ _).slots.size ≤ _); rw [arrV_size]; exact hi) rfl rfl hd fun H1 e1 e2 e3 => ?_
  refine kk (hup h a (cI 0 N (upd f i.toNatClampNeg (x)))) hup_self (fun b hb => hup_ne hb) p l e s m args below meth c D ca N0 xa C H1 _ ls hn (hz.trans e2.symm) (wd_upd hP han _ ?_ e3) (hS.put e2 e3 (Nat.le_add_right _ _)) hl
  show H1[N0 + a]? = some (vp_cell _ _)
  rw [e1]
  exact congrArg some (cl_upd_i _ _ _ _ _)
theorem x_bast {a N : Nat} {f : Nat → Int32} {i x : Int32} (hd : decode M.1 pc = .ok (.bastore, 1)) {q : Nat} (hq : pc + 1 = q) (ha : h a = cI 1 N f) (han : a < n) (hi : vp_in i N) (kk : ∀ h' : AH, h' a = cI 1 N (upd f i.toNatClampNeg (x.toInt8.toInt32)) → (∀ b, b ≠ a → h' b = h b) → Wp M q L S n h' k z post) : Wp M pc L (.int x :: .int i :: .ref a :: S) n h k z post := by
  subst hq
  intro p l e s m args below meth c D ca N0 xa C H locs ls hn hz hP hS hl
  have he : (wd N0 xa ca n h)[a]? = some (N0 + a, .inl (ca 1, N, .inl f)) := by rw [wd_at han, ha]; rfl
  have hg : F0 m pc ls ((Value.int x :: Value.int i :: Value.ref a :: S).map (cv (ad N0 xa))) = F0 m pc ls (.int x :: .int i :: .ref (N0 + a) :: S.map (cv (ad N0 xa))) := by
    rw [List.map_cons, List.map_cons, List.map_cons, cv_ref (Nat.lt_of_lt_of_le han hn)]; rfl
  rw [hg]
  refine W.bast C.1 C.2.1 (hP a _ he) ((C.2.2.2.2.2.2.2.1.2 1 _ rfl).1 N (fun j => .int (f j))) (fun q => by cases q) (by show ¬ (i < 0 ∨ (arrV _ _ _).slots.size ≤ _); rw [arrV_size]; exact hi) rfl rfl hd fun H1 e1 e2 e3 => ?_
  refine kk (hup h a (cI 1 N (upd f i.toNatClampNeg (x.toInt8.toInt32)))) hup_self (fun b hb => hup_ne hb) p l e s m args below meth c D ca N0 xa C H1 _ ls hn (hz.trans e2.symm) (wd_upd hP han _ ?_ e3) (hS.put e2 e3 (Nat.le_add_right _ _)) hl
  show H1[N0 + a]? = some (vp_cell _ _)
  rw [e1]
  exact congrArg some (cl_upd_i _ _ _ _ _)
theorem x_zast {a N : Nat} {f : Nat → Int32} {i x : Int32} (hd : decode M.1 pc = .ok (.bastore, 1)) {q : Nat} (hq : pc + 1 = q) (hx : narrow .boolean (.int x) = .int x) (ha : h a = cI 2 N f) (han : a < n) (hi : vp_in i N) (kk : ∀ h' : AH, h' a = cI 2 N (upd f i.toNatClampNeg x) → (∀ b, b ≠ a → h' b = h b) → Wp M q L S n h' k z post) : Wp M pc L (.int x :: .int i :: .ref a :: S) n h k z post := by
  subst hq
  intro p l e s m args below meth c D ca N0 xa C H locs ls hn hz hP hS hl
  have he : (wd N0 xa ca n h)[a]? = some (N0 + a, .inl (ca 2, N, .inl f)) := by rw [wd_at han, ha]; rfl
  have hg : F0 m pc ls ((Value.int x :: Value.int i :: Value.ref a :: S).map (cv (ad N0 xa))) = F0 m pc ls (.int x :: .int i :: .ref (N0 + a) :: S.map (cv (ad N0 xa))) := by
    rw [List.map_cons, List.map_cons, List.map_cons, cv_ref (Nat.lt_of_lt_of_le han hn)]; rfl
  rw [hg]
  refine W.zast C.1 C.2.1 (hP a _ he) ((C.2.2.2.2.2.2.2.1.2 2 _ rfl).1 N (fun j => .int (f j))) (fun q => by cases q) (by show ¬ (i < 0 ∨ (arrV _ _ _).slots.size ≤ _); rw [arrV_size]; exact hi) rfl rfl hd fun H1 e1 e2 e3 => ?_
  refine kk (hup h a (cI 2 N (upd f i.toNatClampNeg x))) hup_self (fun b hb => hup_ne hb) p l e s m args below meth c D ca N0 xa C H1 _ ls hn (hz.trans e2.symm) (wd_upd hP han _ ?_ e3) (hS.put e2 e3 (Nat.le_add_right _ _)) hl
  show H1[N0 + a]? = some (vp_cell _ _)
  rw [e1, hx]
  exact congrArg some (cl_upd_i _ _ _ _ _)
theorem x_last {a N : Nat} {f : Nat → Int64} {i : Int32} {x : Int64} (hd : decode M.1 pc = .ok (.lastore, 1)) {q : Nat} (hq : pc + 1 = q) (ha : h a = cJ N f) (han : a < n) (hi : vp_in i N) (kk : ∀ h' : AH, h' a = cJ N (vp_updL f i.toNatClampNeg x) → (∀ b, b ≠ a → h' b = h b) → Wp M q L S n h' k z post) : Wp M pc L (.long x :: .int i :: .ref a :: S) n h k z post := by
  subst hq
  intro p l e s m args below meth c D ca N0 xa C H locs ls hn hz hP hS hl
  have he : (wd N0 xa ca n h)[a]? = some (N0 + a, .inl (ca 3, N, .inr (.inl f))) := by rw [wd_at han, ha]; rfl
  have hg : F0 m pc ls ((Value.long x :: Value.int i :: Value.ref a :: S).map (cv (ad N0 xa))) = F0 m pc ls (.long x :: .int i :: .ref (N0 + a) :: S.map (cv (ad N0 xa))) := by
    rw [List.map_cons, List.map_cons, List.map_cons, cv_ref (Nat.lt_of_lt_of_le han hn)]; rfl
  rw [hg]
  refine W.last C.1 C.2.1 (hP a _ he) ((C.2.2.2.2.2.2.2.1.2 3 _ rfl).1 N (fun j => .long (f j))) (fun q => by cases q) (by show ¬ (i < 0 ∨ (arrV _ _ _).slots.size ≤ _); rw [arrV_size]; exact hi) rfl rfl hd fun H1 e1 e2 e3 => ?_
  refine kk (hup h a (cJ N (vp_updL f i.toNatClampNeg x))) hup_self (fun b hb => hup_ne hb) p l e s m args below meth c D ca N0 xa C H1 _ ls hn (hz.trans e2.symm) (wd_upd hP han _ ?_ e3) (hS.put e2 e3 (Nat.le_add_right _ _)) hl
  show H1[N0 + a]? = some (vp_cell _ _)
  rw [e1]
  exact congrArg some (cl_upd_l _ _ _ _ _)
theorem x_aleni {a N : Nat} {f : Nat → Int32} {v : Int32} (hd : decode M.1 pc = .ok (.arraylength, 1)) {q : Nat} (hq : pc + 1 = q) (ha : h a = cI 0 N f) (han : a < n) (hv : Int32.ofNat N = v) (kk : Wp M q L (.int v :: S) n h k z post) : Wp M pc L (.ref a :: S) n h k z post := by
  subst hq
  intro p l e s m args below meth c D ca N0 xa C H locs ls hn hz hP hS hl
  have he : (wd N0 xa ca n h)[a]? = some (N0 + a, .inl (ca 0, N, .inl f)) := by rw [wd_at han, ha]; rfl
  have hg : F0 m pc ls ((Value.ref a :: S).map (cv (ad N0 xa))) = F0 m pc ls (.ref (N0 + a) :: S.map (cv (ad N0 xa))) := by
    rw [List.map_cons, cv_ref (Nat.lt_of_lt_of_le han hn)]
  rw [hg]
  exact va_alen C.1 C.2.1 C.2.2.2.2.2.2.2.1 hP a 0 he rfl hv hd (kk p l e s m args below meth c D ca N0 xa C H locs ls hn hz hP hS hl)
theorem x_alenb {a N : Nat} {f : Nat → Int32} {v : Int32} (hd : decode M.1 pc = .ok (.arraylength, 1)) {q : Nat} (hq : pc + 1 = q) (ha : h a = cI 1 N f) (han : a < n) (hv : Int32.ofNat N = v) (kk : Wp M q L (.int v :: S) n h k z post) : Wp M pc L (.ref a :: S) n h k z post := by
  subst hq
  intro p l e s m args below meth c D ca N0 xa C H locs ls hn hz hP hS hl
  have he : (wd N0 xa ca n h)[a]? = some (N0 + a, .inl (ca 1, N, .inl f)) := by rw [wd_at han, ha]; rfl
  have hg : F0 m pc ls ((Value.ref a :: S).map (cv (ad N0 xa))) = F0 m pc ls (.ref (N0 + a) :: S.map (cv (ad N0 xa))) := by
    rw [List.map_cons, cv_ref (Nat.lt_of_lt_of_le han hn)]
  rw [hg]
  exact va_alen C.1 C.2.1 C.2.2.2.2.2.2.2.1 hP a 1 he rfl hv hd (kk p l e s m args below meth c D ca N0 xa C H locs ls hn hz hP hS hl)
theorem x_gets0 {i0 : Nat} (hd : decode M.1 pc = .ok (.getstatic i0, 3)) {q : Nat} (hq : pc + 3 = q) (hw : Cond.fieldLink M.2.1 i0 RX4 "TOP_PARTS" "[I" ∈ TBg) (kk : Wp M q L (.ref 1000000 :: S) n h k z post) : Wp M pc L S n h k z post := by
  subst hq
  intro p l e s m args below meth c D ca N0 xa C H locs ls hn hz hP hS hl
  exact va_gets C.1 C.2.1 C.2.2.2.2.2.2.2.2.2.2.1.1.1 hS C.2.2.2.2.2.1 (C.2.2.2.2.2.2.1 _ hw) (fun _ h9 => h9) hd (kk p l e s m args below meth c D ca N0 xa C H locs ls hn hz hP hS hl)
theorem x_tald0 {i : Int32} (hd : decode M.1 pc = .ok (.iaload, 1)) {q : Nat} (hq : pc + 1 = q) (hi : vp_in i 4) (kk : Wp M q L (.int (TPf i.toNatClampNeg) :: S) n h k z post) : Wp M pc L (.int i :: .ref 1000000 :: S) n h k z post := by
  subst hq
  intro p l e s m args below meth c D ca N0 xa C H locs ls hn hz hP hS hl
  exact va_ti C.1 C.2.1 C.2.2.2.2.2.2.2.2.2.2.1.1.2 hS hi rfl hd (kk p l e s m args below meth c D ca N0 xa C H locs ls hn hz hP hS hl)
theorem x_gets1 {i0 : Nat} (hd : decode M.1 pc = .ok (.getstatic i0, 3)) {q : Nat} (hq : pc + 3 = q) (hw : Cond.fieldLink M.2.1 i0 RX4 "WATER_HELD" "[I" ∈ TBg) (kk : Wp M q L (.ref 1000001 :: S) n h k z post) : Wp M pc L S n h k z post := by
  subst hq
  intro p l e s m args below meth c D ca N0 xa C H locs ls hn hz hP hS hl
  exact va_gets C.1 C.2.1 C.2.2.2.2.2.2.2.2.2.2.1.2.1.1 hS C.2.2.2.2.2.1 (C.2.2.2.2.2.2.1 _ hw) (fun _ h9 => h9) hd (kk p l e s m args below meth c D ca N0 xa C H locs ls hn hz hP hS hl)
theorem x_tald1 {i : Int32} (hd : decode M.1 pc = .ok (.iaload, 1)) {q : Nat} (hq : pc + 1 = q) (hi : vp_in i 4) (kk : Wp M q L (.int (WHf i.toNatClampNeg) :: S) n h k z post) : Wp M pc L (.int i :: .ref 1000001 :: S) n h k z post := by
  subst hq
  intro p l e s m args below meth c D ca N0 xa C H locs ls hn hz hP hS hl
  exact va_ti C.1 C.2.1 C.2.2.2.2.2.2.2.2.2.2.1.2.1.2 hS hi rfl hd (kk p l e s m args below meth c D ca N0 xa C H locs ls hn hz hP hS hl)
theorem x_iret {x : Int32} (hd : decode M.1 pc = .ok (.ireturn, 1)) (hr : M.2.2.2.1 = some .int) (hk : k ≤ M.2.2.2.2.1.cells) (hkz : z ≤ M.2.2.2.2.1.slots) (hp : post (some (.int x)) n h) : Wp M pc L [.int x] n h k z post := by
  intro p l e s m args below meth c D ca N0 xa C H locs ls hn hz hP hS hl
  refine W.widen hk hkz ?_
  exact W.iret C.1 C.2.1 (C.2.2.2.1.trans hr) (fun t ht hW => ⟨⟨some (.int x), n, h, rfl, hp, by rw [ht]; exact hz, hn, by rw [ht]; exact hP⟩, hS.F ht⟩) hS.2.2 hd (hlocks := C.2.2.2.2.1)
theorem x_zret {x : Int32} {ty : FieldType} (hd : decode M.1 pc = .ok (.ireturn, 1)) (hr : M.2.2.2.1 = some ty) (hnr : narrow ty (.int x) = .int x) (hk : k ≤ M.2.2.2.2.1.cells) (hkz : z ≤ M.2.2.2.2.1.slots) (hp : post (some (.int x)) n h) : Wp M pc L [.int x] n h k z post := by
  intro p l e s m args below meth c D ca N0 xa C H locs ls hn hz hP hS hl
  refine W.widen hk hkz ?_
  exact W.zret C.1 C.2.1 (C.2.2.2.1.trans hr) hnr (fun t ht hW => ⟨⟨some (.int x), n, h, rfl, hp, by rw [ht]; exact hz, hn, by rw [ht]; exact hP⟩, hS.F ht⟩) hS.2.2 hd (hlocks := C.2.2.2.2.1)
theorem x_lret {x : Int64} (hd : decode M.1 pc = .ok (.lreturn, 1)) (hr : M.2.2.2.1 = some .long) (hk : k ≤ M.2.2.2.2.1.cells) (hkz : z ≤ M.2.2.2.2.1.slots) (hp : post (some (.long x)) n h) : Wp M pc L [.long x] n h k z post := by
  intro p l e s m args below meth c D ca N0 xa C H locs ls hn hz hP hS hl
  refine W.widen hk hkz ?_
  exact W.lret C.1 C.2.1 (C.2.2.2.1.trans hr) (fun t ht hW => ⟨⟨some (.long x), n, h, rfl, hp, by rw [ht]; exact hz, hn, by rw [ht]; exact hP⟩, hS.F ht⟩) hS.2.2 hd (hlocks := C.2.2.2.2.1)
theorem x_vret (hd : decode M.1 pc = .ok (.return_, 1)) (hr : M.2.2.2.1 = none) (hk : k ≤ M.2.2.2.2.1.cells) (hkz : z ≤ M.2.2.2.2.1.slots) (hp : post none n h) : Wp M pc L [] n h k z post := by
  intro p l e s m args below meth c D ca N0 xa C H locs ls hn hz hP hS hl
  refine W.widen hk hkz ?_
  exact W.vret C.1 C.2.1 (C.2.2.2.1.trans hr) (fun t ht hW => ⟨⟨none, n, h, rfl, hp, by rw [ht]; exact hz, hn, by rw [ht]; exact hP⟩, hS.F ht⟩) hS.2.2 hd (hlocks := C.2.2.2.2.1)
end WPH
