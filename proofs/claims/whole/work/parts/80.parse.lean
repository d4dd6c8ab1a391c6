theorem CD_f {T : Nat → Nat} {n : Nat} {A : MI} {b yn wn hn sn : Nat} {X Y : MI} {J K : MJ} (h : CD T n A b yn wn hn sn X J) (hf : FW X J Y K) (hrg : 2 ≤ b ∧ b + 26 ≤ 54) : CD T n A b yn wn hn sn Y K := by
  obtain ⟨h1, h2, h3⟩ := h
  have y8 := h3.2.2.2.2.1
  exact ⟨CA_f h1 hf hrg, CN_f h2 hf hrg, h3⟩
set_option maxRecDepth 100000 in
theorem l_pl0 {T : Nat → Nat} {n : Nat} {r : MR} (h4 : r 4 = 1) {b : Nat} (h2 : r 2 = b) (hb : SH b = (15, 18)) (hrg : 2 ≤ b ∧ b + 26 ≤ 54) {X : MI} {J : MJ} {s : Nat × Nat × Nat} (h : PS T n s X J) {A : MI} {yn wn hn sn : Nat} (hD : CD T n A b yn wn hn sn X J) (hk : kw T n s.2.2 = 0) (post : Option Value → MI → MR → MJ → Prop) (i : Nat) (kx : ∀ (Y : MI) (K : MJ), PS T n (lb T n s A).1 Y K → FD b X J Y K → ((lb T n s A).1.1 = 0 → ∃ y w h c, CD T n (lb T n s A).2 b y w h c Y K) → Wq MX8_parse 158 [some (.ref 54), some (.ref 1), some (.int (nI n)), some (.ref b), some (.int (nI i))] [] Y r K post) : Wq MX8_parse 57 [some (.ref 54), some (.ref 1), some (.int (nI n)), some (.ref b), some (.int (nI i))] [] X r J post := by
  refine x_aload_n (q := 58) dX8_parse_57 rfl rfl ?_
  refine q_gr (K := 0) (b := 55) (q := 61) dX8_parse_58 rfl cl_8 (by decide) tw_365 rfl rfl rfl ?_
  refine q_gi (K := 8) (q := 64) dX8_parse_61 rfl cl_6 (by decide) tw_344 rfl rfl ?_
  rw [show X 55 8 = 0 from by rw [h.2.2.2.2.2.2.2.2.2.2.2.2, show kwQ T n (sk T n s.2.2) = 0 from hk]; rfl]
  · refine x_swIn (off := 48) (t := 112) dX8_parse_64 (by decide) (by decide) rfl (by decide) ?_
    refine x_aload_n (q := 113) dX8_parse_112 rfl rfl ?_
    refine q_callV (ci := 8) (N := 5) (T := TX8) (As := []) (rest := []) (q := 116) dX8_parse_113 rfl okX8_parseYard tw_661 rfl rfl (c_l0 h4 h2 hb hrg h hD hk) rfl rfl (Nat.le_of_ble_eq_true rfl) ⟨by decide, by decide⟩ ⟨rfl, rfl⟩ (fun rv_ Y r_ K hv_ => ?_)
    obtain ⟨a1_, hY, a3_⟩ := hv_
    rw [a1_, a3_]
    show Wq MX8_parse 116 [some (.ref 54), some (.ref 1), some (.int (nI n)), some (.ref b), some (.int (nI i))] [] Y r K _
    refine x_goto (t := 158) dX8_parse_116 (by decide) ?_
    exact kx Y K hY.1 hY.2.1 hY.2.2
set_option maxRecDepth 100000 in
theorem l_pl1 {T : Nat → Nat} {n : Nat} {r : MR} (h4 : r 4 = 1) {b : Nat} (h2 : r 2 = b) (hb : SH b = (15, 18)) (hrg : 2 ≤ b ∧ b + 26 ≤ 54) {X : MI} {J : MJ} {s : Nat × Nat × Nat} (h : PS T n s X J) {A : MI} {yn wn hn sn : Nat} (hD : CD T n A b yn wn hn sn X J) (hk : kw T n s.2.2 = 1) (post : Option Value → MI → MR → MJ → Prop) (i : Nat) (kx : ∀ (Y : MI) (K : MJ), PS T n (lb T n s A).1 Y K → FD b X J Y K → ((lb T n s A).1.1 = 0 → ∃ y w h c, CD T n (lb T n s A).2 b y w h c Y K) → Wq MX8_parse 158 [some (.ref 54), some (.ref 1), some (.int (nI n)), some (.ref b), some (.int (nI i))] [] Y r K post) : Wq MX8_parse 57 [some (.ref 54), some (.ref 1), some (.int (nI n)), some (.ref b), some (.int (nI i))] [] X r J post := by
  refine x_aload_n (q := 58) dX8_parse_57 rfl rfl ?_
  refine q_gr (K := 0) (b := 55) (q := 61) dX8_parse_58 rfl cl_8 (by decide) tw_365 rfl rfl rfl ?_
  refine q_gi (K := 8) (q := 64) dX8_parse_61 rfl cl_6 (by decide) tw_344 rfl rfl ?_
  rw [show X 55 8 = 1 from by rw [h.2.2.2.2.2.2.2.2.2.2.2.2, show kwQ T n (sk T n s.2.2) = 1 from hk]; rfl]
  · refine x_swIn (off := 55) (t := 119) dX8_parse_64 (by decide) (by decide) rfl (by decide) ?_
    refine x_aload_n (q := 120) dX8_parse_119 rfl rfl ?_
    refine q_callV (ci := 8) (N := 5) (T := TX8) (As := []) (rest := []) (q := 123) dX8_parse_120 rfl okX8_parseWay tw_706 rfl rfl (c_l1 h4 h2 hb hrg h hD hk) rfl rfl (Nat.le_of_ble_eq_true rfl) ⟨by decide, by decide⟩ ⟨rfl, rfl⟩ (fun rv_ Y r_ K hv_ => ?_)
    obtain ⟨a1_, hY, a3_⟩ := hv_
    rw [a1_, a3_]
    show Wq MX8_parse 123 [some (.ref 54), some (.ref 1), some (.int (nI n)), some (.ref b), some (.int (nI i))] [] Y r K _
    refine x_goto (t := 158) dX8_parse_123 (by decide) ?_
    exact kx Y K hY.1 hY.2.1 hY.2.2
set_option maxRecDepth 100000 in
theorem l_pl2 {T : Nat → Nat} {n : Nat} {r : MR} (h4 : r 4 = 1) {b : Nat} (h2 : r 2 = b) (hb : SH b = (15, 18)) (hrg : 2 ≤ b ∧ b + 26 ≤ 54) {X : MI} {J : MJ} {s : Nat × Nat × Nat} (h : PS T n s X J) {A : MI} {yn wn hn sn : Nat} (hD : CD T n A b yn wn hn sn X J) (hk : kw T n s.2.2 = 2) (post : Option Value → MI → MR → MJ → Prop) (i : Nat) (kx : ∀ (Y : MI) (K : MJ), PS T n (lb T n s A).1 Y K → FD b X J Y K → ((lb T n s A).1.1 = 0 → ∃ y w h c, CD T n (lb T n s A).2 b y w h c Y K) → Wq MX8_parse 158 [some (.ref 54), some (.ref 1), some (.int (nI n)), some (.ref b), some (.int (nI i))] [] Y r K post) : Wq MX8_parse 57 [some (.ref 54), some (.ref 1), some (.int (nI n)), some (.ref b), some (.int (nI i))] [] X r J post := by
  refine x_aload_n (q := 58) dX8_parse_57 rfl rfl ?_
  refine q_gr (K := 0) (b := 55) (q := 61) dX8_parse_58 rfl cl_8 (by decide) tw_365 rfl rfl rfl ?_
  refine q_gi (K := 8) (q := 64) dX8_parse_61 rfl cl_6 (by decide) tw_344 rfl rfl ?_
  rw [show X 55 8 = 2 from by rw [h.2.2.2.2.2.2.2.2.2.2.2.2, show kwQ T n (sk T n s.2.2) = 2 from hk]; rfl]
  · refine x_swIn (off := 62) (t := 126) dX8_parse_64 (by decide) (by decide) rfl (by decide) ?_
    refine x_aload_n (q := 127) dX8_parse_126 rfl rfl ?_
    refine q_callV (ci := 8) (N := 5) (T := TX8) (As := []) (rest := []) (q := 130) dX8_parse_127 rfl okX8_parseHour tw_718 rfl rfl (c_l2 h4 h2 hb hrg h hD hk) rfl rfl (Nat.le_of_ble_eq_true rfl) ⟨by decide, by decide⟩ ⟨rfl, rfl⟩ (fun rv_ Y r_ K hv_ => ?_)
    obtain ⟨a1_, hY, a3_⟩ := hv_
    rw [a1_, a3_]
    show Wq MX8_parse 130 [some (.ref 54), some (.ref 1), some (.int (nI n)), some (.ref b), some (.int (nI i))] [] Y r K _
    refine x_goto (t := 158) dX8_parse_130 (by decide) ?_
    exact kx Y K hY.1 hY.2.1 hY.2.2
set_option maxRecDepth 100000 in
theorem l_pl3 {T : Nat → Nat} {n : Nat} {r : MR} (h4 : r 4 = 1) {b : Nat} (h2 : r 2 = b) (hb : SH b = (15, 18)) (hrg : 2 ≤ b ∧ b + 26 ≤ 54) {X : MI} {J : MJ} {s : Nat × Nat × Nat} (h : PS T n s X J) {A : MI} {yn wn hn sn : Nat} (hD : CD T n A b yn wn hn sn X J) (hk : kw T n s.2.2 = 3) (post : Option Value → MI → MR → MJ → Prop) (i : Nat) (kx : ∀ (Y : MI) (K : MJ), PS T n (lb T n s A).1 Y K → FD b X J Y K → ((lb T n s A).1.1 = 0 → ∃ y w h c, CD T n (lb T n s A).2 b y w h c Y K) → Wq MX8_parse 158 [some (.ref 54), some (.ref 1), some (.int (nI n)), some (.ref b), some (.int (nI i))] [] Y r K post) : Wq MX8_parse 57 [some (.ref 54), some (.ref 1), some (.int (nI n)), some (.ref b), some (.int (nI i))] [] X r J post := by
  refine x_aload_n (q := 58) dX8_parse_57 rfl rfl ?_
  refine q_gr (K := 0) (b := 55) (q := 61) dX8_parse_58 rfl cl_8 (by decide) tw_365 rfl rfl rfl ?_
  refine q_gi (K := 8) (q := 64) dX8_parse_61 rfl cl_6 (by decide) tw_344 rfl rfl ?_
  rw [show X 55 8 = 3 from by rw [h.2.2.2.2.2.2.2.2.2.2.2.2, show kwQ T n (sk T n s.2.2) = 3 from hk]; rfl]
  · refine x_swIn (off := 69) (t := 133) dX8_parse_64 (by decide) (by decide) rfl (by decide) ?_
    refine x_aload_n (q := 134) dX8_parse_133 rfl rfl ?_
    refine q_callV (ci := 8) (N := 5) (T := TX8) (As := []) (rest := []) (q := 137) dX8_parse_134 rfl okX8_parseSlip tw_722 rfl rfl (c_l3 h4 h2 hb hrg h hD hk) rfl rfl (Nat.le_of_ble_eq_true rfl) ⟨by decide, by decide⟩ ⟨rfl, rfl⟩ (fun rv_ Y r_ K hv_ => ?_)
    obtain ⟨a1_, hY, a3_⟩ := hv_
    rw [a1_, a3_]
    show Wq MX8_parse 137 [some (.ref 54), some (.ref 1), some (.int (nI n)), some (.ref b), some (.int (nI i))] [] Y r K _
    refine x_goto (t := 158) dX8_parse_137 (by decide) ?_
    exact kx Y K hY.1 hY.2.1 hY.2.2
set_option maxRecDepth 100000 in
theorem l_pl4 {T : Nat → Nat} {n : Nat} {r : MR} (h4 : r 4 = 1) {b : Nat} (h2 : r 2 = b) (hb : SH b = (15, 18)) (hrg : 2 ≤ b ∧ b + 26 ≤ 54) {X : MI} {J : MJ} {s : Nat × Nat × Nat} (h : PS T n s X J) {A : MI} {yn wn hn sn : Nat} (hD : CD T n A b yn wn hn sn X J) (hk : kw T n s.2.2 = 4) (post : Option Value → MI → MR → MJ → Prop) (i : Nat) (kx : ∀ (Y : MI) (K : MJ), PS T n (lb T n s A).1 Y K → FD b X J Y K → ((lb T n s A).1.1 = 0 → ∃ y w h c, CD T n (lb T n s A).2 b y w h c Y K) → Wq MX8_parse 158 [some (.ref 54), some (.ref 1), some (.int (nI n)), some (.ref b), some (.int (nI i))] [] Y r K post) : Wq MX8_parse 57 [some (.ref 54), some (.ref 1), some (.int (nI n)), some (.ref b), some (.int (nI i))] [] X r J post := by
  refine x_aload_n (q := 58) dX8_parse_57 rfl rfl ?_
  refine q_gr (K := 0) (b := 55) (q := 61) dX8_parse_58 rfl cl_8 (by decide) tw_365 rfl rfl rfl ?_
  refine q_gi (K := 8) (q := 64) dX8_parse_61 rfl cl_6 (by decide) tw_344 rfl rfl ?_
  rw [show X 55 8 = 4 from by rw [h.2.2.2.2.2.2.2.2.2.2.2.2, show kwQ T n (sk T n s.2.2) = 4 from hk]; rfl]
  · refine x_swIn (off := 76) (t := 140) dX8_parse_64 (by decide) (by decide) rfl (by decide) ?_
    refine x_aload_n (q := 141) dX8_parse_140 rfl rfl ?_
    refine x_aload_n (q := 142) dX8_parse_141 rfl rfl ?_
    refine q_gr (K := 0) (b := 55) (q := 145) dX8_parse_142 rfl cl_8 (by decide) tw_365 rfl rfl rfl ?_
    refine q_gi (K := 8) (q := 148) dX8_parse_145 rfl cl_6 (by decide) tw_344 rfl rfl ?_
    refine q_callV (ci := 8) (N := 5) (T := TX8) (As := [.int (X 55 8)]) (rest := []) (q := 151) dX8_parse_148 rfl okX8_parseOnce tw_730 rfl rfl (by rw [show X 55 8 = 4 from by rw [h.2.2.2.2.2.2.2.2.2.2.2.2, show kwQ T n (sk T n s.2.2) = 4 from hk]; rfl]; exact c_l4 h4 h2 hb hrg h hD hk) rfl rfl (Nat.le_of_ble_eq_true rfl) ⟨by decide, by decide⟩ ⟨rfl, rfl⟩ (fun rv_ Y r_ K hv_ => ?_)
    obtain ⟨a1_, hY, a3_⟩ := hv_
    rw [a1_, a3_]
    show Wq MX8_parse 151 [some (.ref 54), some (.ref 1), some (.int (nI n)), some (.ref b), some (.int (nI i))] [] Y r K _
    refine x_goto (t := 158) dX8_parse_151 (by decide) ?_
    exact kx Y K hY.1 hY.2.1 hY.2.2
set_option maxRecDepth 100000 in
theorem l_pl5 {T : Nat → Nat} {n : Nat} {r : MR} (h4 : r 4 = 1) {b : Nat} (h2 : r 2 = b) (hb : SH b = (15, 18)) (hrg : 2 ≤ b ∧ b + 26 ≤ 54) {X : MI} {J : MJ} {s : Nat × Nat × Nat} (h : PS T n s X J) {A : MI} {yn wn hn sn : Nat} (hD : CD T n A b yn wn hn sn X J) (hk : kw T n s.2.2 = 5) (post : Option Value → MI → MR → MJ → Prop) (i : Nat) (kx : ∀ (Y : MI) (K : MJ), PS T n (lb T n s A).1 Y K → FD b X J Y K → ((lb T n s A).1.1 = 0 → ∃ y w h c, CD T n (lb T n s A).2 b y w h c Y K) → Wq MX8_parse 158 [some (.ref 54), some (.ref 1), some (.int (nI n)), some (.ref b), some (.int (nI i))] [] Y r K post) : Wq MX8_parse 57 [some (.ref 54), some (.ref 1), some (.int (nI n)), some (.ref b), some (.int (nI i))] [] X r J post := by
  refine x_aload_n (q := 58) dX8_parse_57 rfl rfl ?_
  refine q_gr (K := 0) (b := 55) (q := 61) dX8_parse_58 rfl cl_8 (by decide) tw_365 rfl rfl rfl ?_
  refine q_gi (K := 8) (q := 64) dX8_parse_61 rfl cl_6 (by decide) tw_344 rfl rfl ?_
  rw [show X 55 8 = 5 from by rw [h.2.2.2.2.2.2.2.2.2.2.2.2, show kwQ T n (sk T n s.2.2) = 5 from hk]; rfl]
  · refine x_swIn (off := 76) (t := 140) dX8_parse_64 (by decide) (by decide) rfl (by decide) ?_
    refine x_aload_n (q := 141) dX8_parse_140 rfl rfl ?_
    refine x_aload_n (q := 142) dX8_parse_141 rfl rfl ?_
    refine q_gr (K := 0) (b := 55) (q := 145) dX8_parse_142 rfl cl_8 (by decide) tw_365 rfl rfl rfl ?_
    refine q_gi (K := 8) (q := 148) dX8_parse_145 rfl cl_6 (by decide) tw_344 rfl rfl ?_
    refine q_callV (ci := 8) (N := 5) (T := TX8) (As := [.int (X 55 8)]) (rest := []) (q := 151) dX8_parse_148 rfl okX8_parseOnce tw_730 rfl rfl (by rw [show X 55 8 = 5 from by rw [h.2.2.2.2.2.2.2.2.2.2.2.2, show kwQ T n (sk T n s.2.2) = 5 from hk]; rfl]; exact c_l5 h4 h2 hb hrg h hD hk) rfl rfl (Nat.le_of_ble_eq_true rfl) ⟨by decide, by decide⟩ ⟨rfl, rfl⟩ (fun rv_ Y r_ K hv_ => ?_)
    obtain ⟨a1_, hY, a3_⟩ := hv_
    rw [a1_, a3_]
    show Wq MX8_parse 151 [some (.ref 54), some (.ref 1), some (.int (nI n)), some (.ref b), some (.int (nI i))] [] Y r K _
    refine x_goto (t := 158) dX8_parse_151 (by decide) ?_
    exact kx Y K hY.1 hY.2.1 hY.2.2
set_option maxRecDepth 100000 in
theorem l_pl6 {T : Nat → Nat} {n : Nat} {r : MR} (h4 : r 4 = 1) {b : Nat} (h2 : r 2 = b) (hb : SH b = (15, 18)) (hrg : 2 ≤ b ∧ b + 26 ≤ 54) {X : MI} {J : MJ} {s : Nat × Nat × Nat} (h : PS T n s X J) {A : MI} {yn wn hn sn : Nat} (hD : CD T n A b yn wn hn sn X J) (hk : kw T n s.2.2 = 6) (post : Option Value → MI → MR → MJ → Prop) (i : Nat) (kx : ∀ (Y : MI) (K : MJ), PS T n (lb T n s A).1 Y K → FD b X J Y K → ((lb T n s A).1.1 = 0 → ∃ y w h c, CD T n (lb T n s A).2 b y w h c Y K) → Wq MX8_parse 158 [some (.ref 54), some (.ref 1), some (.int (nI n)), some (.ref b), some (.int (nI i))] [] Y r K post) : Wq MX8_parse 57 [some (.ref 54), some (.ref 1), some (.int (nI n)), some (.ref b), some (.int (nI i))] [] X r J post := by
  refine x_aload_n (q := 58) dX8_parse_57 rfl rfl ?_
  refine q_gr (K := 0) (b := 55) (q := 61) dX8_parse_58 rfl cl_8 (by decide) tw_365 rfl rfl rfl ?_
  refine q_gi (K := 8) (q := 64) dX8_parse_61 rfl cl_6 (by decide) tw_344 rfl rfl ?_
  rw [show X 55 8 = 6 from by rw [h.2.2.2.2.2.2.2.2.2.2.2.2, show kwQ T n (sk T n s.2.2) = 6 from hk]; rfl]
  · refine x_swIn (off := 76) (t := 140) dX8_parse_64 (by decide) (by decide) rfl (by decide) ?_
    refine x_aload_n (q := 141) dX8_parse_140 rfl rfl ?_
    refine x_aload_n (q := 142) dX8_parse_141 rfl rfl ?_
    refine q_gr (K := 0) (b := 55) (q := 145) dX8_parse_142 rfl cl_8 (by decide) tw_365 rfl rfl rfl ?_
    refine q_gi (K := 8) (q := 148) dX8_parse_145 rfl cl_6 (by decide) tw_344 rfl rfl ?_
    refine q_callV (ci := 8) (N := 5) (T := TX8) (As := [.int (X 55 8)]) (rest := []) (q := 151) dX8_parse_148 rfl okX8_parseOnce tw_730 rfl rfl (by rw [show X 55 8 = 6 from by rw [h.2.2.2.2.2.2.2.2.2.2.2.2, show kwQ T n (sk T n s.2.2) = 6 from hk]; rfl]; exact c_l6 h4 h2 hb hrg h hD hk) rfl rfl (Nat.le_of_ble_eq_true rfl) ⟨by decide, by decide⟩ ⟨rfl, rfl⟩ (fun rv_ Y r_ K hv_ => ?_)
    obtain ⟨a1_, hY, a3_⟩ := hv_
    rw [a1_, a3_]
    show Wq MX8_parse 151 [some (.ref 54), some (.ref 1), some (.int (nI n)), some (.ref b), some (.int (nI i))] [] Y r K _
    refine x_goto (t := 158) dX8_parse_151 (by decide) ?_
    exact kx Y K hY.1 hY.2.1 hY.2.2
set_option maxRecDepth 100000 in
theorem l_pl7 {T : Nat → Nat} {n : Nat} {r : MR} (h4 : r 4 = 1) {b : Nat} (h2 : r 2 = b) (hb : SH b = (15, 18)) (hrg : 2 ≤ b ∧ b + 26 ≤ 54) {X : MI} {J : MJ} {s : Nat × Nat × Nat} (h : PS T n s X J) {A : MI} {yn wn hn sn : Nat} (hD : CD T n A b yn wn hn sn X J) (hk : kw T n s.2.2 = 7) (post : Option Value → MI → MR → MJ → Prop) (i : Nat) (kx : ∀ (Y : MI) (K : MJ), PS T n (lb T n s A).1 Y K → FD b X J Y K → ((lb T n s A).1.1 = 0 → ∃ y w h c, CD T n (lb T n s A).2 b y w h c Y K) → Wq MX8_parse 158 [some (.ref 54), some (.ref 1), some (.int (nI n)), some (.ref b), some (.int (nI i))] [] Y r K post) : Wq MX8_parse 57 [some (.ref 54), some (.ref 1), some (.int (nI n)), some (.ref b), some (.int (nI i))] [] X r J post := by
  refine x_aload_n (q := 58) dX8_parse_57 rfl rfl ?_
  refine q_gr (K := 0) (b := 55) (q := 61) dX8_parse_58 rfl cl_8 (by decide) tw_365 rfl rfl rfl ?_
  refine q_gi (K := 8) (q := 64) dX8_parse_61 rfl cl_6 (by decide) tw_344 rfl rfl ?_
  rw [show X 55 8 = 7 from by rw [h.2.2.2.2.2.2.2.2.2.2.2.2, show kwQ T n (sk T n s.2.2) = 7 from hk]; rfl]
  · refine x_swIn (off := 76) (t := 140) dX8_parse_64 (by decide) (by decide) rfl (by decide) ?_
    refine x_aload_n (q := 141) dX8_parse_140 rfl rfl ?_
    refine x_aload_n (q := 142) dX8_parse_141 rfl rfl ?_
    refine q_gr (K := 0) (b := 55) (q := 145) dX8_parse_142 rfl cl_8 (by decide) tw_365 rfl rfl rfl ?_
    refine q_gi (K := 8) (q := 148) dX8_parse_145 rfl cl_6 (by decide) tw_344 rfl rfl ?_
    refine q_callV (ci := 8) (N := 5) (T := TX8) (As := [.int (X 55 8)]) (rest := []) (q := 151) dX8_parse_148 rfl okX8_parseOnce tw_730 rfl rfl (by rw [show X 55 8 = 7 from by rw [h.2.2.2.2.2.2.2.2.2.2.2.2, show kwQ T n (sk T n s.2.2) = 7 from hk]; rfl]; exact c_l7 h4 h2 hb hrg h hD hk) rfl rfl (Nat.le_of_ble_eq_true rfl) ⟨by decide, by decide⟩ ⟨rfl, rfl⟩ (fun rv_ Y r_ K hv_ => ?_)
    obtain ⟨a1_, hY, a3_⟩ := hv_
    rw [a1_, a3_]
    show Wq MX8_parse 151 [some (.ref 54), some (.ref 1), some (.int (nI n)), some (.ref b), some (.int (nI i))] [] Y r K _
    refine x_goto (t := 158) dX8_parse_151 (by decide) ?_
    exact kx Y K hY.1 hY.2.1 hY.2.2
theorem kw_out {k : Nat} {x : Int32} (h : 8 ≤ k) (h2 : k ≤ 20) (e : x = kwI k) : x.toInt < 0 ∨ 7 < x.toInt := by
  rw [e]
  unfold kwI
  by_cases q : k = 20
  · rw [if_pos q]; left; decide
  · rw [if_neg q, nI_toInt (by omega)]; right; omega
set_option maxRecDepth 100000 in
theorem l_pl8 {T : Nat → Nat} {n : Nat} {r : MR} (h4 : r 4 = 1) {b : Nat} (h2 : r 2 = b) (hb : SH b = (15, 18)) (hrg : 2 ≤ b ∧ b + 26 ≤ 54) {X : MI} {J : MJ} {s : Nat × Nat × Nat} (h : PS T n s X J) {A : MI} {yn wn hn sn : Nat} (hD : CD T n A b yn wn hn sn X J) (hk : 8 ≤ kw T n s.2.2) (post : Option Value → MI → MR → MJ → Prop) (i : Nat) (kx : ∀ (Y : MI) (K : MJ), PS T n (lb T n s A).1 Y K → FD b X J Y K → ((lb T n s A).1.1 = 0 → ∃ y w h c, CD T n (lb T n s A).2 b y w h c Y K) → Wq MX8_parse 158 [some (.ref 54), some (.ref 1), some (.int (nI n)), some (.ref b), some (.int (nI i))] [] Y r K post) : Wq MX8_parse 57 [some (.ref 54), some (.ref 1), some (.int (nI n)), some (.ref b), some (.int (nI i))] [] X r J post := by
  refine x_aload_n (q := 58) dX8_parse_57 rfl rfl ?_
  refine q_gr (K := 0) (b := 55) (q := 61) dX8_parse_58 rfl cl_8 (by decide) tw_365 rfl rfl rfl ?_
  refine q_gi (K := 8) (q := 64) dX8_parse_61 rfl cl_6 (by decide) tw_344 rfl rfl ?_
  · refine x_swOut (t := 154) dX8_parse_64 (kw_out hk (kw_le T n s.2.2) h.2.2.2.2.2.2.2.2.2.2.2.2) (by decide) ?_
    refine x_aload_n (q := 155) dX8_parse_154 rfl rfl ?_
    refine q_callV (ci := 8) (N := 5) (T := TX8) (As := []) (rest := []) (q := 158) dX8_parse_155 rfl okX8_refuseToken tw_665 rfl rfl (c_l8 h4 h2 hb hrg h hD hk) rfl rfl (Nat.le_of_ble_eq_true rfl) ⟨by decide, by decide⟩ ⟨rfl, rfl⟩ (fun rv_ Y r_ K hv_ => ?_)
    obtain ⟨a1_, hY, a3_⟩ := hv_
    rw [a1_, a3_]
    show Wq MX8_parse 158 [some (.ref 54), some (.ref 1), some (.int (nI n)), some (.ref b), some (.int (nI i))] [] Y r K _
    exact kx Y K hY.1 hY.2.1 hY.2.2
theorem l_pl {T : Nat → Nat} {n : Nat} {r : MR} (h4 : r 4 = 1) {b : Nat} (h2 : r 2 = b) (hb : SH b = (15, 18)) (hrg : 2 ≤ b ∧ b + 26 ≤ 54) {X : MI} {J : MJ} {s : Nat × Nat × Nat} (h : PS T n s X J) {A : MI} {yn wn hn sn : Nat} (hD : CD T n A b yn wn hn sn X J) (post : Option Value → MI → MR → MJ → Prop) (i : Nat) (kx : ∀ (Y : MI) (K : MJ), PS T n (lb T n s A).1 Y K → FD b X J Y K → ((lb T n s A).1.1 = 0 → ∃ y w h c, CD T n (lb T n s A).2 b y w h c Y K) → Wq MX8_parse 158 [some (.ref 54), some (.ref 1), some (.int (nI n)), some (.ref b), some (.int (nI i))] [] Y r K post) : Wq MX8_parse 57 [some (.ref 54), some (.ref 1), some (.int (nI n)), some (.ref b), some (.int (nI i))] [] X r J post := by
  by_cases h8 : 8 ≤ kw T n s.2.2
  · exact l_pl8 h4 h2 hb hrg h hD h8 post i kx
  have q : kw T n s.2.2 = 0 ∨ kw T n s.2.2 = 1 ∨ kw T n s.2.2 = 2 ∨ kw T n s.2.2 = 3 ∨ kw T n s.2.2 = 4 ∨ kw T n s.2.2 = 5 ∨ kw T n s.2.2 = 6 ∨ kw T n s.2.2 = 7 := by omega
  rcases q with q | q | q | q | q | q | q | q
  · exact l_pl0 h4 h2 hb hrg h hD q post i kx
  · exact l_pl1 h4 h2 hb hrg h hD q post i kx
  · exact l_pl2 h4 h2 hb hrg h hD q post i kx
  · exact l_pl3 h4 h2 hb hrg h hD q post i kx
  · exact l_pl4 h4 h2 hb hrg h hD q post i kx
  · exact l_pl5 h4 h2 hb hrg h hD q post i kx
  · exact l_pl6 h4 h2 hb hrg h hD q post i kx
  · exact l_pl7 h4 h2 hb hrg h hD q post i kx
def prF (T : Nat → Nat) (n b : Nat) (R : (Nat × Nat × Nat) × MI) (X0 : MI) (J0 : MJ) (Y : MI) (K : MJ) : Prop := PS T n R.1 Y K ∧ FD b X0 J0 Y K ∧ (R.1.1 = 0 → kd T n R.1.2.2 = 0 ∧ ∃ y w h c, CD T n R.2 b y w h c Y K)
def prV (R : (Nat × Nat × Nat) × MI) : Int32 := if R.1.1 = 0 then 1 else 0
set_option maxRecDepth 100000 in
theorem l_par {T : Nat → Nat} {n : Nat} {r : MR} (h4 : r 4 = 1) {b : Nat} (h2 : r 2 = b) (hb : SH b = (15, 18)) (hrg : 2 ≤ b ∧ b + 26 ≤ 54) {X0 : MI} {J0 : MJ} : ∀ (f : Nat) (i : Nat) (s : Nat × Nat × Nat) (A X : MI) (J : MJ) (_ : i + f = n + 1) (_ : PS T n s X J) (_ : FD b X0 J0 X J) (_ : s.1 = 0 → ∃ y w h c, CD T n A b y w h c X J) (_ : s.1 = 0 → i ≤ s.2.2), Wq MX8_parse 34 [some (.ref 54), some (.ref 1), some (.int (nI n)), some (.ref b), some (.int (nI i))] [] X r J (Rq (some (.int (prV (pF T n f s A)))) (prF T n b (pF T n f s A) X0 J0) r) := by
  intro f
  induction f with
  | zero =>
    intro i s A X J hif hP hF hC hp
    have hn := hP.1.1
    have hpn := hP.2.2.2.2.1
    have n0 : ¬ s.1 = 0 := fun z => by have := hp z; omega
    refine x_iload (q := 36) dX8_parse_34 rfl rfl ?_
    refine x_iload_n (q := 37) dX8_parse_36 rfl rfl ?_
    refine x_icmp_gt (t := 168) (q := 40) dX8_parse_37 (by decide) rfl (fun c37 => ?_) (fun c37 => absurd c37 (fun z => z ((nI_ltI (a := n) (b := i) (by omega) (by omega)).mpr (by omega))))
    refine x_aload_n (q := 169) dX8_parse_168 rfl rfl ?_
    refine q_gi (K := 2) (q := 172) dX8_parse_169 rfl cl_8 (by decide) tw_367 rfl rfl ?_
    refine x_if_ne (t := 179) (q := 175) dX8_parse_172 (by decide) rfl (fun c172 => ?_) (fun c172 => absurd c172 (by rw [hP.2.2.1]; exact nI_ne0 (by omega) (by have := hP.2.2.2.2.2.1; omega)))
    refine x_iconst (0) (q := 180) dX8_parse_179 rfl (by decide) ?_
    refine q_zret dX8_parse_180 rfl (Or.inl rfl) ?_
    have er : pF T n 0 s A = (s, A) := rfl
    rw [er, show prV (s, A) = 0 from if_neg n0]
    exact ⟨rfl, ⟨hP, hF, fun z => absurd z n0⟩, rfl⟩
  | succ f ih =>
    intro i s A X J hif hP hF hC hp
    have hn := hP.1.1
    have hpn := hP.2.2.2.2.1
    have h5 := hP.2.2.2.2.2.1
    have hL := hP.2.2.2.2.2.2
    by_cases n0 : s.1 = 0
    · refine x_iload (q := 36) dX8_parse_34 rfl rfl ?_
      refine x_iload_n (q := 37) dX8_parse_36 rfl rfl ?_
      refine x_icmp_gt (t := 168) (q := 40) dX8_parse_37 (by decide) rfl (fun c37 => absurd c37 (fun z => absurd ((nI_ltI (a := n) (b := i) (by omega) (by omega)).mp z) (by omega))) (fun c37 => ?_)
      refine x_aload_n (q := 41) dX8_parse_40 rfl rfl ?_
      refine q_gi (K := 2) (q := 44) dX8_parse_41 rfl cl_8 (by decide) tw_367 rfl rfl ?_
      refine x_if_ne (t := 168) (q := 47) dX8_parse_44 (by decide) rfl (fun c44 => absurd c44 (fun z => z (by rw [hP.2.2.1, n0]; rfl))) (fun c44 => ?_)
      refine x_aload_n (q := 48) dX8_parse_47 rfl rfl ?_
      refine q_gr (K := 0) (b := 55) (q := 51) dX8_parse_48 rfl cl_8 (by decide) tw_365 rfl rfl rfl ?_
      refine q_gi (K := 4) (q := 54) dX8_parse_51 rfl cl_6 (by decide) tw_336 rfl rfl ?_
      refine x_if_eq (t := 168) (q := 57) dX8_parse_54 (by decide) rfl (fun c54 => ?_) (fun c54 => ?_)
      · refine x_aload_n (q := 169) dX8_parse_168 rfl rfl ?_
        refine q_gi (K := 2) (q := 172) dX8_parse_169 rfl cl_8 (by decide) tw_367 rfl rfl ?_
        refine x_if_ne (t := 179) (q := 175) dX8_parse_172 (by decide) rfl (fun c172 => absurd c172 (fun z => z (by rw [hP.2.2.1, n0]; rfl))) (fun c172 => ?_)
        refine x_iconst (1) (q := 176) dX8_parse_175 rfl (by decide) ?_
        refine x_goto (t := 180) dX8_parse_176 (by decide) ?_
        refine q_zret dX8_parse_180 rfl (Or.inr rfl) ?_
        have hk0 : kd T n s.2.2 = 0 := (kd_c 0 hL.2.2.1 (by decide) rfl).mp c54
        have er : pF T n (f + 1) s A = (s, A) := if_neg (fun z => z.2 hk0)
        rw [er, show prV (s, A) = 1 from if_pos n0]
        exact ⟨rfl, ⟨hP, hF, fun z => ⟨hk0, hC n0⟩⟩, rfl⟩
      · have hk0 : ¬ kd T n s.2.2 = 0 := fun z => c54 ((kd_c 0 hL.2.2.1 (by decide) rfl).mpr z)
        obtain ⟨y, w, h, c, hD⟩ := hC n0
        refine l_pl h4 h2 hb hrg hP hD _ i (fun Y K hP2 hF2 hC2 => ?_)
        refine x_aload_n (q := 159) dX8_parse_158 rfl rfl ?_
        refine q_callV (ci := 8) (N := 5) (T := TX8) (As := []) (rest := []) (q := 162) dX8_parse_159 rfl okX8_takeSemicolon tw_734 rfl rfl (c_tsc h4 hP2) rfl rfl (Nat.le_of_ble_eq_true rfl) ⟨by decide, by decide⟩ ⟨rfl, rfl⟩ (fun rv_ Z r_ KZ hv_ => ?_)
        obtain ⟨a1_, hz, a3_⟩ := hv_
        rw [a1_, a3_]
        show Wq MX8_parse 162 [some (.ref 54), some (.ref 1), some (.int (nI n)), some (.ref b), some (.int (nI i))] [] Z r KZ _
        obtain ⟨v31, ev31⟩ : ∃ y_ : Int32, y_ = (nI i) + 1 := ⟨_, rfl⟩
        refine x_iinc (v := v31) (L2 := [some (.ref 54), some (.ref 1), some (.int (nI n)), some (.ref b), some (.int v31)]) (q := 165) dX8_parse_162 rfl (by decide) rfl rfl (by rw [ev31]; rfl) rfl ?_
        refine x_goto (t := 34) dX8_parse_165 (by decide) ?_
        rw [show v31 = nI (i + 1) by rw [ev31, nI_p1]]
        have er : pF T n (f + 1) s A = pF T n f (tsc T n (lb T n s A).1) (lb T n s A).2 := if_pos ⟨n0, hk0⟩
        rw [er]
        exact ih (i + 1) _ _ _ _ (by omega) hz.1 ((hF.tr hF2).tr (FW.d hz.2.w)) (fun z => by
          obtain ⟨y, w, h, c, q⟩ := hC2 (tsc_0 z).1
          exact ⟨y, w, h, c, CD_f q hz.2.w hrg⟩) (fun z => by
          have q := pm_line z
          have := hp n0
          omega)
    · refine x_iload (q := 36) dX8_parse_34 rfl rfl ?_
      refine x_iload_n (q := 37) dX8_parse_36 rfl rfl ?_
      refine x_icmp_gt (t := 168) (q := 40) dX8_parse_37 (by decide) rfl (fun c37 => absurd c37 (fun z => absurd ((nI_ltI (a := n) (b := i) (by omega) (by omega)).mp z) (by omega))) (fun c37 => ?_)
      refine x_aload_n (q := 41) dX8_parse_40 rfl rfl ?_
      refine q_gi (K := 2) (q := 44) dX8_parse_41 rfl cl_8 (by decide) tw_367 rfl rfl ?_
      refine x_if_ne (t := 168) (q := 47) dX8_parse_44 (by decide) rfl (fun c44 => ?_) (fun c44 => absurd c44 (by rw [hP.2.2.1]; exact nI_ne0 (by omega) (by omega)))
      refine x_aload_n (q := 169) dX8_parse_168 rfl rfl ?_
      refine q_gi (K := 2) (q := 172) dX8_parse_169 rfl cl_8 (by decide) tw_367 rfl rfl ?_
      refine x_if_ne (t := 179) (q := 175) dX8_parse_172 (by decide) rfl (fun c172 => ?_) (fun c172 => absurd c172 (by rw [hP.2.2.1]; exact nI_ne0 (by omega) (by omega)))
      refine x_iconst (0) (q := 180) dX8_parse_179 rfl (by decide) ?_
      refine q_zret dX8_parse_180 rfl (Or.inl rfl) ?_
      have er : pF T n (f + 1) s A = (s, A) := if_neg (fun z => n0 z.1)
      rw [er, show prV (s, A) = 0 from if_neg n0]
      exact ⟨rfl, ⟨hP, hF, fun z => absurd z n0⟩, rfl⟩
def clr (X : MI) (b : Nat) : MI := upI (upI (upI (upI (upI (upI (upI (upI (upI (upI (upI (upI X b 1 0) b 5 0) b 9 0) b 12 0) b 13 0) b 14 0) b 15 (-1)) b 16 999) b 17 0) (b + 5) 0 0) (b + 6) 0 0) (b + 7) 0 0
set_option maxRecDepth 100000 in
theorem c_clr {b : Nat} (hb : SH b = (15, 18)) (X : MI) (r : MR) (J : MJ) : Cq yX5_clear MX5_clear [.ref b] X r J (Rt none (clr X b) r J) := by
  refine cq_of [some (.ref b)] 0 (by decide +kernel) rfl rfl (Nat.le_of_ble_eq_true rfl) rfl ?_
  refine x_aload_n (q := 1) dX5_clear_0 rfl rfl ?_
  refine x_iconst (0) (q := 2) dX5_clear_1 rfl (by decide) ?_
  refine q_pi (K := 1) (q := 5) dX5_clear_2 rfl cl_5 (by decide) tw_164 rfl rfl hb rfl (fun I1 eI1 => ?_)
  refine x_aload_n (q := 6) dX5_clear_5 rfl rfl ?_
  refine x_iconst (0) (q := 7) dX5_clear_6 rfl (by decide) ?_
  refine q_pi (K := 5) (q := 10) dX5_clear_7 rfl cl_5 (by decide) tw_184 rfl rfl hb rfl (fun I2 eI2 => ?_)
  refine x_aload_n (q := 11) dX5_clear_10 rfl rfl ?_
  refine x_iconst (0) (q := 12) dX5_clear_11 rfl (by decide) ?_
  refine q_pi (K := 9) (q := 15) dX5_clear_12 rfl cl_5 (by decide) tw_198 rfl rfl hb rfl (fun I3 eI3 => ?_)
  refine x_aload_n (q := 16) dX5_clear_15 rfl rfl ?_
  refine x_iconst (0) (q := 17) dX5_clear_16 rfl (by decide) ?_
  refine q_pi (K := 12) (q := 20) dX5_clear_17 rfl cl_5 (by decide) tw_210 rfl rfl hb rfl (fun I4 eI4 => ?_)
  refine x_aload_n (q := 21) dX5_clear_20 rfl rfl ?_
  refine x_iconst (0) (q := 22) dX5_clear_21 rfl (by decide) ?_
  refine q_pi (K := 13) (q := 25) dX5_clear_22 rfl cl_5 (by decide) tw_216 rfl rfl hb rfl (fun I5 eI5 => ?_)
  refine x_aload_n (q := 26) dX5_clear_25 rfl rfl ?_
  refine x_iconst (0) (q := 27) dX5_clear_26 rfl (by decide) ?_
  refine q_pi (K := 14) (q := 30) dX5_clear_27 rfl cl_5 (by decide) tw_218 rfl rfl hb rfl (fun I6 eI6 => ?_)
  refine x_aload_n (q := 31) dX5_clear_30 rfl rfl ?_
  refine x_iconst (-1) (q := 32) dX5_clear_31 rfl (by decide) ?_
  refine q_pi (K := 15) (q := 35) dX5_clear_32 rfl cl_5 (by decide) tw_221 rfl rfl hb rfl (fun I7 eI7 => ?_)
  refine x_aload_n (q := 36) dX5_clear_35 rfl rfl ?_
  refine x_sipush (999) (q := 39) dX5_clear_36 rfl (by decide) ?_
  refine q_pi (K := 16) (q := 42) dX5_clear_39 rfl cl_5 (by decide) tw_226 rfl rfl hb rfl (fun I8 eI8 => ?_)
  refine x_aload_n (q := 43) dX5_clear_42 rfl rfl ?_
  refine x_iconst (0) (q := 44) dX5_clear_43 rfl (by decide) ?_
  refine q_pi (K := 17) (q := 47) dX5_clear_44 rfl cl_5 (by decide) tw_228 rfl rfl hb rfl (fun I9 eI9 => ?_)
  refine x_aload_n (q := 48) dX5_clear_47 rfl rfl ?_
  refine q_gr (K := 6) (b := (b + 5)) (q := 51) dX5_clear_48 rfl cl_5 (by decide) tw_189 hb rfl (lr_w hb _).2.2.2.2.1 ?_
  refine x_iconst (0) (q := 52) dX5_clear_51 rfl (by decide) ?_
  refine x_iconst (0) (q := 53) dX5_clear_52 rfl (by decide) ?_
  refine q_iast (q := 54) dX5_clear_53 rfl (ls_w hb).2.2.2.2.1 (vin (by decide)) (fun I10 eI10 => ?_)
  refine x_aload_n (q := 55) dX5_clear_54 rfl rfl ?_
  refine q_gr (K := 7) (b := (b + 6)) (q := 58) dX5_clear_55 rfl cl_5 (by decide) tw_192 hb rfl (lr_w hb _).2.2.2.2.2.1 ?_
  refine x_iconst (0) (q := 59) dX5_clear_58 rfl (by decide) ?_
  refine x_iconst (0) (q := 60) dX5_clear_59 rfl (by decide) ?_
  refine q_iast (q := 61) dX5_clear_60 rfl (ls_w hb).2.2.2.2.2.1 (vin (by decide)) (fun I11 eI11 => ?_)
  refine x_aload_n (q := 62) dX5_clear_61 rfl rfl ?_
  refine q_gr (K := 8) (b := (b + 7)) (q := 65) dX5_clear_62 rfl cl_5 (by decide) tw_195 hb rfl (lr_w hb _).2.2.2.2.2.2.1 ?_
  refine x_iconst (0) (q := 66) dX5_clear_65 rfl (by decide) ?_
  refine x_iconst (0) (q := 67) dX5_clear_66 rfl (by decide) ?_
  refine q_iast (q := 68) dX5_clear_67 rfl (ls_w hb).2.2.2.2.2.2.1 (vin (by decide)) (fun I12 eI12 => ?_)
  refine q_vret dX5_clear_68 rfl ?_
  rw [show (0 : Int32).toNatClampNeg = 0 from rfl] at eI10 eI11 eI12
  rw [eI12, eI11, eI10, eI9, eI8, eI7, eI6, eI5, eI4, eI3, eI2, eI1]
  exact ⟨rfl, rfl, rfl, rfl⟩
theorem mn17 {n : Nat} (h : n ≤ 1700) : (if (1700 : Int32) < nI n then 1700 else nI n) = nI n := if_neg (fun z => absurd ((nI_ltI (a := 1700) (by decide) (by omega)).mp z) (by omega))
set_option maxRecDepth 100000 in
theorem c_beg {T : Nat → Nat} {n : Nat} {X : MI} (hT : TX T n X) (r : MR) {J : MJ} (hJ : RelJ J) : Cq yX6_begin MX6_begin [.ref 55, .ref 1, .int (nI n)] X r J (fun v Y r' K => v = none ∧ r' = upR r 4 1 ∧ (∀ c, c ≠ 55 → Y c = X c) ∧ JL J K ∧ LxQ T n (sk T n 0) Y K) := by
  refine cq_of [some (.ref 55), some (.ref 1), some (.int (nI n))] 0 (by decide +kernel) rfl rfl (Nat.le_of_ble_eq_true rfl) rfl ?_
  refine x_aload_n (q := 1) dX6_begin_0 rfl rfl ?_
  refine x_aload_n (q := 2) dX6_begin_1 rfl rfl ?_
  refine q_pr (K := 1) 4 (q := 5) dX6_begin_2 rfl cl_6 (by decide) tw_332 rfl ⟨rfl, rfl⟩ rfl rfl (RR_up4 _ _) (fun r1 er1 => ?_)
  refine x_aload_n (q := 6) dX6_begin_5 rfl rfl ?_
  refine x_iload_n (q := 7) dX6_begin_6 rfl rfl ?_
  refine x_aload_n (q := 8) dX6_begin_7 rfl rfl ?_
  refine q_alenb (v := 1700) (q := 9) dX6_begin_8 rfl rfl (by decide) ?_
  refine x_min (q := 12) dX6_begin_9 rfl tw_636 mm_min_s mm_i mm_min_c (by decide) (Nat.le_of_ble_eq_true rfl) (by decide) (by decide) ?_
  refine q_pi (K := 2) (q := 15) dX6_begin_12 rfl cl_6 (by decide) tw_333 rfl rfl rfl rfl (fun I2 eI2 => ?_)
  refine x_aload_n (q := 16) dX6_begin_15 rfl rfl ?_
  refine x_iconst (0) (q := 17) dX6_begin_16 rfl (by decide) ?_
  refine q_pi (K := 3) (q := 20) dX6_begin_17 rfl cl_6 (by decide) tw_334 rfl rfl rfl rfl (fun I3 eI3 => ?_)
  rw [mn17 hT.1] at eI2
  have hr4 : r1 4 = 1 := by rw [er1]; rfl
  have hT3 : TX T n I3 := ⟨hT.1, fun j hj => by rw [eI3, upc (by decide), eI2, upc (by decide)]; exact hT.2 j hj⟩
  have hL3 : Lq n 0 I3 I3 := ⟨fun _ _ => rfl, by rw [eI3, ups (by decide), eI2, upq], by rw [eI3, upq]; rfl⟩
  refine x_aload_n (q := 21) dX6_begin_20 rfl rfl ?_
  refine q_callV (ci := 6) (N := 9) (T := TX6) (As := []) (rest := []) (q := 24) dX6_begin_21 rfl okX6_advance tw_639 rfl rfl (c_adv hT3 hr4 hJ (p := 0) (Nat.zero_le _) hL3) rfl rfl (Nat.le_of_ble_eq_true rfl) ⟨by decide, by decide⟩ ⟨rfl, rfl⟩ (fun rv_ Y r_ K hv_ => ?_)
  obtain ⟨a1_, hY, a3_⟩ := hv_
  rw [a1_, a3_]
  show Wq MX6_begin 24 [some (.ref 55), some (.ref 1), some (.int (nI n))] [] Y r1 K _
  refine q_vret dX6_begin_24 rfl ?_
  exact ⟨rfl, er1, fun c e => by rw [hY.1 c e, eI3, upc e, eI2, upc e], hY.2.1, hY.2.2⟩
