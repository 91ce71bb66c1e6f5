def okL (w : Nat → Int32) (x y : Int32) : Prop := ∃ i, i < nn w ∧ x = nI i ∧ okI y (mn w i)
theorem okL_1 {w : Nat → Int32} {x y : Int32} (h : okL w x y) : okI x (nn w) := by
  obtain ⟨i, hi, hx, -⟩ := h
  exact ⟨i, hi, hx⟩
theorem okL_2 {w : Nat → Int32} {i : Nat} {y : Int32} (hi : i < nn w) (hn : nn w ≤ 4) (h : okL w (nI i) y) : okI y (mn w i) := by
  obtain ⟨j, hj, hx, hy⟩ := h
  rw [(nI_eq (by omega) (by omega)).mp hx]
  exact hy
theorem RC_hu {c : Nat} {w : Nat → Int32} {S : Nat → Nat → Int32} (hR : RC c S w) (hc : c < 1000) {k : Nat} (hk : k < 96) : ∃ v, S 16 k = nI v ∧ v < 2 ^ 31 ∧ (un w k = 0 ↔ v ≤ tm w) := by
  obtain ⟨h1, h2⟩ := hR.u k hk
  obtain ⟨u1, u2, u3⟩ := hR.wf.u k hk
  have ht := hR.wf.t.2
  by_cases h0 : un w k = 0
  · obtain ⟨v, hv, e⟩ := h1 h0
    exact ⟨v, e, by omega, by omega⟩
  · exact ⟨un w k, (h2 h0).trans u1, by omega, by omega⟩
def lvl (n : Nat) : Nat := if n < 4 then 0 else if n < 6 then 1 else if n < 8 then 2 else 3
theorem bmL_step {lim i b m : Nat} {f : Nat → Nat} (he : bmL lim f i = (b, m)) : bmL lim f (i + 1) = if f i < b then (f i, 2 ^ i) else if f i = b ∧ b < lim then (b, m + 2 ^ i) else (b, m) := by simp only [bmL, he]
theorem pfd_1 {w : Nat → Int32} {d i : Nat} {st : Int32} (h : ¬ w (197 + 4 * d + i) = st) : pfd w d st i = 3 := if_neg (fun q => h q.1)
theorem pfd_2 {w : Nat → Int32} {d i : Nat} {st : Int32} (h : am w i = 0) : pfd w d st i = 3 := if_neg (fun q => q.2 h)
theorem pfd_3 {w : Nat → Int32} {d i : Nat} {st : Int32} (h : w (197 + 4 * d + i) = st) (h2 : ¬ am w i = 0) : pfd w d st i = pq w d i := if_pos ⟨h, h2⟩
theorem pfm_lt {c : Nat} {w : Nat → Int32} {d : Nat} {st : Int32} (h : WF c w) : (bmL 3 (pfd w d st) (nn w)).2 < 16 := by
  have h1 := bmL_lt (lim := 3) (f := pfd w d st) (nn w)
  have h2 : 2 ^ nn w ≤ 16 := by
    have := Nat.pow_le_pow_right (n := 2) (by decide) h.n.2
    simpa using this
  omega
def bcA (x : Int32) : Int32 := x - ((Int32.toUInt32 x >>> (Int32.toUInt32 (nI 1) &&& Int32.toUInt32 31)).toInt32 &&& 1431655765)
def bcB (x : Int32) : Int32 := (x &&& 858993459) + ((Int32.toUInt32 x >>> (Int32.toUInt32 (nI 2) &&& Int32.toUInt32 31)).toInt32 &&& 858993459)
def bcC (x : Int32) : Int32 := (x + (Int32.toUInt32 x >>> (Int32.toUInt32 (nI 4) &&& Int32.toUInt32 31)).toInt32) &&& 252645135
def bcD (x : Int32) : Int32 := x + (Int32.toUInt32 x >>> (Int32.toUInt32 (nI 8) &&& Int32.toUInt32 31)).toInt32
def bcE (x : Int32) : Int32 := x + (Int32.toUInt32 x >>> (Int32.toUInt32 (nI 16) &&& Int32.toUInt32 31)).toInt32
theorem bc16 : ∀ m, m < 16 → bcE (bcD (bcC (bcB (bcA (nI m))))) &&& nI 63 = nI (pc4 m) := by decide +kernel
set_option maxHeartbeats 4000000 in
set_option maxRecDepth 100000 in
theorem c_X0_hasLinkset (l : Launch) (D : va_G) (cI cO : ClassId) (h : Nat) (a : Nat → Nat) (S : Nat → Nat → Int32) (w : Nat → Int32) (c0 : Nat) (hR : RC c0 S w) (x : Int32)  : Met l yX0_hasLinkset (Cond.code yX0_hasLinkset cX0_hasLinkset 2 (some .boolean) :: WL) ({ frames := 0, cells := 0, slots := 0, locals := 0 } : Room) (va_Pc [.ref (h), .int (x)] (PR D cI cO (stW cI h a S))) (vp_Si (fun r => (r = nI 1 ∧ okI x (nn w)) ∨ (r = nI 0 ∧ ¬ okI x (nn w)))) 0 0 (fun _ => False) := by
  refine rd_bool (by decide) (Nat.le_of_ble_eq_true rfl) ?_
  intro p e s m args below meth c Q ls F hP hC hret hl
  have hx := F.1
  have hb := F.2.1
  have hml := F.2.2.1
  have hown := F.2.2.2.1
  have hts := F.2.2.2.2
  replace hl : lv_has ls 2 [(0, .ref (h)), (1, .int (x))] := hl
  have hn4 := hR.wf.n.2
  refine lv_iload_n hx hb dX0_hasLinkset_0 rfl (lv_at hl 1 rfl) ?_
  refine lv_if_lt (tgt := 16) hx hb dX0_hasLinkset_1 (by decide)  (fun c_1 => ?_) (fun c_1 => ?_)
  · refine lv_iconst (v := (nI (0))) hx hb dX0_hasLinkset_16 (by decide) ?_
    exact hret _ _ ls (by first | exact Or.inl ⟨rfl, okI_of (by omega) c_1 c_9⟩ | exact Or.inr ⟨rfl, fun h => okI_ge h c_1 (by omega)⟩ | exact Or.inr ⟨rfl, fun h => okI_lt (by omega) h c_9⟩) (Or.inl (by decide)) dX0_hasLinkset_17
  · refine lv_iload_n hx hb dX0_hasLinkset_4 rfl (lv_at hl 1 rfl) ?_
    refine lv_aload_n hx hb dX0_hasLinkset_5 rfl (lv_at hl 0 rfl) ?_
    refine gt0 hx hb hts hown hC.1 hP 0 rfl 8 (by decide) qw42 rfl dX0_hasLinkset_6 ?_
    refine w_cv (y := (nI (nn w))) hR.n ?_
    refine lv_icmp_ge (tgt := 16) hx hb dX0_hasLinkset_9 (by decide)  (fun c_9 => ?_) (fun c_9 => ?_)
    · refine lv_iconst (v := (nI (0))) hx hb dX0_hasLinkset_16 (by decide) ?_
      exact hret _ _ ls (by first | exact Or.inl ⟨rfl, okI_of (by omega) c_1 c_9⟩ | exact Or.inr ⟨rfl, fun h => okI_ge h c_1 (by omega)⟩ | exact Or.inr ⟨rfl, fun h => okI_lt (by omega) h c_9⟩) (Or.inl (by decide)) dX0_hasLinkset_17
    · refine lv_iconst (v := (nI (1))) hx hb dX0_hasLinkset_12 (by decide) ?_
      refine lv_goto (tgt := 17) hx hb dX0_hasLinkset_13 (by decide) ?_
      exact hret _ _ ls (by first | exact Or.inl ⟨rfl, okI_of (by omega) c_1 c_9⟩ | exact Or.inr ⟨rfl, fun h => okI_ge h c_1 (by omega)⟩ | exact Or.inr ⟨rfl, fun h => okI_lt (by omega) h c_9⟩) (Or.inr (by decide)) dX0_hasLinkset_17

set_option maxHeartbeats 4000000 in
set_option maxRecDepth 100000 in
theorem c_X0_hasLink (l : Launch) (D : va_G) (cI cO : ClassId) (h : Nat) (a : Nat → Nat) (S : Nat → Nat → Int32) (w : Nat → Int32) (c0 : Nat) (hR : RC c0 S w) (x y : Int32)  : Met l yX0_hasLink (Cond.code yX0_hasLink cX0_hasLink 3 (some .boolean) :: WL) ({ frames := 1, cells := 0, slots := 0, locals := 21 } : Room) (va_Pc [.ref (h), .int (x), .int (y)] (PR D cI cO (stW cI h a S))) (vp_Si (fun r => (r = nI 1 ∧ okL w x y) ∨ (r = nI 0 ∧ ¬ okL w x y))) 0 0 (fun _ => False) := by
  refine rd_bool (by decide) (Nat.le_of_ble_eq_true rfl) ?_
  intro p e s m args below meth c Q ls F hP hC hret hl
  have hx := F.1
  have hb := F.2.1
  have hml := F.2.2.1
  have hown := F.2.2.2.1
  have hts := F.2.2.2.2
  replace hl : lv_has ls 3 [(0, .ref (h)), (1, .int (x)), (2, .int (y))] := hl
  have hn4 := hR.wf.n.2
  refine lv_aload_n hx hb dX0_hasLink_0 rfl (lv_at hl 0 rfl) ?_
  refine lv_iload_n hx hb dX0_hasLink_1 rfl (lv_at hl 1 rfl) ?_
  refine goR (kV (As := [.int (x)]) (rest := []) F (c_X0_hasLinkset l D cI cO h a S w c0 hR (x)) ywX0_hasLinkset qw179 qw181 qs6 ⟨rfl, rfl⟩ ⟨Nat.le_of_ble_eq_true rfl, Nat.le_of_ble_eq_true rfl⟩ (preV (preR hP hC) hC hP (ci := 0) (q0 := 0) rfl rfl rfl) rfl hl.1 rfl (Nat.le_of_ble_eq_true rfl) dX0_hasLink_2 ⟨Nat.zero_le _, Nat.zero_le _⟩) (fun r_2 h_2 => ?_)
  rcases h_2 with ⟨rfl, h_2⟩ | ⟨rfl, h_2⟩
  · obtain ⟨i, hi, rfl⟩ := h_2
    have hm4 := (hR.wf.m i (by omega)).2
    refine n_if_eq (tgt := 26) hx hb dX0_hasLink_5 (by decide) (by omega) (fun h => absurd h (by decide)) (fun _ => ?_)
    refine lv_iload_n hx hb dX0_hasLink_8 rfl (lv_at hl 2 rfl) ?_
    refine lv_if_lt (tgt := 26) hx hb dX0_hasLink_9 (by decide)  (fun c_9 => ?_) (fun c_9 => ?_)
    · refine lv_iconst (v := (nI (0))) hx hb dX0_hasLink_26 (by decide) ?_
      exact hret _ _ ls (by first | exact Or.inl ⟨rfl, i, hi, rfl, okI_of (by omega) c_9 c_19⟩ | exact Or.inr ⟨rfl, fun h => h_2 (okL_1 h)⟩ | exact Or.inr ⟨rfl, fun h => okI_ge (okL_2 hi hn4 h) c_9 (by omega)⟩ | exact Or.inr ⟨rfl, fun h => okI_lt (by omega) (okL_2 hi hn4 h) c_19⟩) (Or.inl (by decide)) dX0_hasLink_27
    · refine lv_iload_n hx hb dX0_hasLink_12 rfl (lv_at hl 2 rfl) ?_
      refine lv_aload_n hx hb dX0_hasLink_13 rfl (lv_at hl 0 rfl) ?_
      refine gt0 hx hb hts hown hC.1 hP 0 rfl 10 (by decide) qw45 rfl dX0_hasLink_14 ?_
      refine lv_iload_n hx hb dX0_hasLink_17 rfl (lv_at hl 1 rfl) ?_
      refine n_iald hx hb hC.1 hP 1 0 rfl rfl (by omega) (by decide) dX0_hasLink_18 ?_
      refine w_cv (y := (nI (mn w i))) (hR.m i (by omega)) ?_
      refine lv_icmp_ge (tgt := 26) hx hb dX0_hasLink_19 (by decide)  (fun c_19 => ?_) (fun c_19 => ?_)
      · refine lv_iconst (v := (nI (0))) hx hb dX0_hasLink_26 (by decide) ?_
        exact hret _ _ ls (by first | exact Or.inl ⟨rfl, i, hi, rfl, okI_of (by omega) c_9 c_19⟩ | exact Or.inr ⟨rfl, fun h => h_2 (okL_1 h)⟩ | exact Or.inr ⟨rfl, fun h => okI_ge (okL_2 hi hn4 h) c_9 (by omega)⟩ | exact Or.inr ⟨rfl, fun h => okI_lt (by omega) (okL_2 hi hn4 h) c_19⟩) (Or.inl (by decide)) dX0_hasLink_27
      · refine lv_iconst (v := (nI (1))) hx hb dX0_hasLink_22 (by decide) ?_
        refine lv_goto (tgt := 27) hx hb dX0_hasLink_23 (by decide) ?_
        exact hret _ _ ls (by first | exact Or.inl ⟨rfl, i, hi, rfl, okI_of (by omega) c_9 c_19⟩ | exact Or.inr ⟨rfl, fun h => h_2 (okL_1 h)⟩ | exact Or.inr ⟨rfl, fun h => okI_ge (okL_2 hi hn4 h) c_9 (by omega)⟩ | exact Or.inr ⟨rfl, fun h => okI_lt (by omega) (okL_2 hi hn4 h) c_19⟩) (Or.inr (by decide)) dX0_hasLink_27
  · refine n_if_eq (tgt := 26) hx hb dX0_hasLink_5 (by decide) (by omega) (fun _ => ?_) (fun h => absurd h (by decide))
    refine lv_iconst (v := (nI (0))) hx hb dX0_hasLink_26 (by decide) ?_
    exact hret _ _ ls (by first | exact Or.inl ⟨rfl, i, hi, rfl, okI_of (by omega) c_9 c_19⟩ | exact Or.inr ⟨rfl, fun h => h_2 (okL_1 h)⟩ | exact Or.inr ⟨rfl, fun h => okI_ge (okL_2 hi hn4 h) c_9 (by omega)⟩ | exact Or.inr ⟨rfl, fun h => okI_lt (by omega) (okL_2 hi hn4 h) c_19⟩) (Or.inl (by decide)) dX0_hasLink_27

set_option maxHeartbeats 4000000 in
set_option maxRecDepth 100000 in
theorem c_X0_canHaveRoute (l : Launch) (D : va_G) (cI cO : ClassId) (h : Nat) (a : Nat → Nat) (S : Nat → Nat → Int32) (w : Nat → Int32) (c0 : Nat) (hR : RC c0 S w) (x y : Int32)  : Met l yX0_canHaveRoute (Cond.code yX0_canHaveRoute cX0_canHaveRoute 3 (some .boolean) :: WL) ({ frames := 1, cells := 0, slots := 0, locals := 21 } : Room) (va_Pc [.ref (h), .int (x), .int (y)] (PR D cI cO (stW cI h a S))) (vp_Si (fun r => (r = nI 1 ∧ okI x 6 ∧ okI y (nn w)) ∨ (r = nI 0 ∧ ¬ (okI x 6 ∧ okI y (nn w))))) 0 0 (fun _ => False) := by
  refine rd_bool (by decide) (Nat.le_of_ble_eq_true rfl) ?_
  intro p e s m args below meth c Q ls F hP hC hret hl
  have hx := F.1
  have hb := F.2.1
  have hml := F.2.2.1
  have hown := F.2.2.2.1
  have hts := F.2.2.2.2
  replace hl : lv_has ls 3 [(0, .ref (h)), (1, .int (x)), (2, .int (y))] := hl
  have hn4 := hR.wf.n.2
  refine lv_iload_n hx hb dX0_canHaveRoute_0 rfl (lv_at hl 1 rfl) ?_
  refine goR (kSN (As := [.int (x)]) (rest := []) F (c_X2_isDestination l D cI cO (x)) ywX2_isDestination (nk20 hC) qw301  ⟨rfl, rfl⟩ ⟨Nat.le_of_ble_eq_true rfl, Nat.le_of_ble_eq_true rfl⟩ (preR (fun k q h => by simp at h) hC) rfl hl.1 rfl (Nat.le_of_ble_eq_true rfl) dX0_canHaveRoute_1 ⟨Nat.zero_le _, Nat.zero_le _⟩) (fun r_1 h_1 => ?_)
  rcases h_1 with ⟨rfl, h_1⟩ | ⟨rfl, h_1⟩
  · refine n_if_eq (tgt := 19) hx hb dX0_canHaveRoute_4 (by decide) (by omega) (fun h => absurd h (by decide)) (fun _ => ?_)
    refine lv_aload_n hx hb dX0_canHaveRoute_7 rfl (lv_at hl 0 rfl) ?_
    refine lv_iload_n hx hb dX0_canHaveRoute_8 rfl (lv_at hl 2 rfl) ?_
    refine goR (kV (As := [.int (y)]) (rest := []) F (c_X0_hasLinkset l D cI cO h a S w c0 hR (y)) ywX0_hasLinkset qw179 qw181 qs6 ⟨rfl, rfl⟩ ⟨Nat.le_of_ble_eq_true rfl, Nat.le_of_ble_eq_true rfl⟩ (preV (preR hP hC) hC hP (ci := 0) (q0 := 0) rfl rfl rfl) rfl hl.1 rfl (Nat.le_of_ble_eq_true rfl) dX0_canHaveRoute_9 ⟨Nat.zero_le _, Nat.zero_le _⟩) (fun r_9 h_9 => ?_)
    rcases h_9 with ⟨rfl, h_9⟩ | ⟨rfl, h_9⟩
    · refine n_if_eq (tgt := 19) hx hb dX0_canHaveRoute_12 (by decide) (by omega) (fun h => absurd h (by decide)) (fun _ => ?_)
      refine lv_iconst (v := (nI (1))) hx hb dX0_canHaveRoute_15 (by decide) ?_
      refine lv_goto (tgt := 20) hx hb dX0_canHaveRoute_16 (by decide) ?_
      exact hret _ _ ls (by first | exact Or.inl ⟨rfl, h_1, h_9⟩ | exact Or.inr ⟨rfl, fun h => h_1 h.1⟩ | exact Or.inr ⟨rfl, fun h => h_9 h.2⟩) (Or.inr (by decide)) dX0_canHaveRoute_20
    · refine n_if_eq (tgt := 19) hx hb dX0_canHaveRoute_12 (by decide) (by omega) (fun _ => ?_) (fun h => absurd h (by decide))
      refine lv_iconst (v := (nI (0))) hx hb dX0_canHaveRoute_19 (by decide) ?_
      exact hret _ _ ls (by first | exact Or.inl ⟨rfl, h_1, h_9⟩ | exact Or.inr ⟨rfl, fun h => h_1 h.1⟩ | exact Or.inr ⟨rfl, fun h => h_9 h.2⟩) (Or.inl (by decide)) dX0_canHaveRoute_20
  · refine n_if_eq (tgt := 19) hx hb dX0_canHaveRoute_4 (by decide) (by omega) (fun _ => ?_) (fun h => absurd h (by decide))
    refine lv_iconst (v := (nI (0))) hx hb dX0_canHaveRoute_19 (by decide) ?_
    exact hret _ _ ls (by first | exact Or.inl ⟨rfl, h_1, h_9⟩ | exact Or.inr ⟨rfl, fun h => h_1 h.1⟩ | exact Or.inr ⟨rfl, fun h => h_9 h.2⟩) (Or.inl (by decide)) dX0_canHaveRoute_20

set_option maxHeartbeats 4000000 in
set_option maxRecDepth 100000 in
theorem c_X0_linkWorks (l : Launch) (D : va_G) (cI cO : ClassId) (h : Nat) (a : Nat → Nat) (S : Nat → Nat → Int32) (w : Nat → Int32) (c0 : Nat) (hR : RC c0 S w) (i j : Nat) (hi : i < 4) (hj : j < 4) : Met l yX0_linkWorks (Cond.code yX0_linkWorks cX0_linkWorks 3 (some .boolean) :: WL) ({ frames := 0, cells := 0, slots := 0, locals := 0 } : Room) (va_Pc [.ref (h), .int (nI (i)), .int (nI (j))] (PR D cI cO (stW cI h a S))) (vp_Si (fun r => (r = nI 1 ∧ ac w (4 * i + j) = 1) ∨ (r = nI 0 ∧ ac w (4 * i + j) = 0))) 0 0 (fun _ => False) := by
  refine rd_bool (by decide) (Nat.le_of_ble_eq_true rfl) ?_
  intro p e s m args below meth c Q ls F hP hC hret hl
  have hx := F.1
  have hb := F.2.1
  have hml := F.2.2.1
  have hown := F.2.2.2.1
  have hts := F.2.2.2.2
  replace hl : lv_has ls 3 [(0, .ref (h)), (1, .int (nI (i))), (2, .int (nI (j)))] := hl
  have hn4 := hR.wf.n.2
  have ha1 := (hR.wf.a (4 * i + j) (by omega)).2
  refine lv_aload_n hx hb dX0_linkWorks_0 rfl (lv_at hl 0 rfl) ?_
  refine gt0 hx hb hts hown hC.1 hP 0 rfl 11 (by decide) qw46 rfl dX0_linkWorks_1 ?_
  refine lv_iload_n hx hb dX0_linkWorks_4 rfl (lv_at hl 1 rfl) ?_
  refine n_iald hx hb hC.1 hP 2 0 rfl rfl (by omega) (by decide) dX0_linkWorks_5 ?_
  refine w_cv (y := (nI (am w i))) (hR.a i hi) ?_
  refine lv_iload_n hx hb dX0_linkWorks_6 rfl (lv_at hl 2 rfl) ?_
  refine lv_ishr hx hb dX0_linkWorks_7 ?_
  refine lv_iconst (v := (nI (1))) hx hb dX0_linkWorks_8 (by decide) ?_
  refine lv_iand hx hb dX0_linkWorks_9 ?_
  refine w_cv (y := (nI (ac w (4 * i + j)))) ((shr1 _ (am_lt hR.wf hi) j hj).trans (congrArg nI (am_tb hR.wf hi hj))) ?_
  refine lv_iconst (v := (nI (1))) hx hb dX0_linkWorks_10 (by decide) ?_
  refine n_icmp_ne (tgt := 18) hx hb dX0_linkWorks_11 (by decide) (by omega) (by omega) (fun c_11 => ?_) (fun c_11 => ?_)
  · refine lv_iconst (v := (nI (0))) hx hb dX0_linkWorks_18 (by decide) ?_
    exact hret _ _ ls (by first | exact Or.inl ⟨rfl, c_11⟩ | exact Or.inr ⟨rfl, by omega⟩) (Or.inl (by decide)) dX0_linkWorks_19
  · refine lv_iconst (v := (nI (1))) hx hb dX0_linkWorks_14 (by decide) ?_
    refine lv_goto (tgt := 19) hx hb dX0_linkWorks_15 (by decide) ?_
    exact hret _ _ ls (by first | exact Or.inl ⟨rfl, c_11⟩ | exact Or.inr ⟨rfl, by omega⟩) (Or.inr (by decide)) dX0_linkWorks_19

set_option maxHeartbeats 4000000 in
set_option maxRecDepth 100000 in
theorem c_X0_holds (l : Launch) (D : va_G) (cI cO : ClassId) (h : Nat) (a : Nat → Nat) (S : Nat → Nat → Int32) (w : Nat → Int32) (c0 : Nat) (hR : RC c0 S w) (k : Nat) (hc : c0 < 1000) (hk : k < 96) : Met l yX0_holds (Cond.code yX0_holds cX0_holds 2 (some .boolean) :: WL) ({ frames := 0, cells := 0, slots := 0, locals := 0 } : Room) (va_Pc [.ref (h), .int (nI (k))] (PR D cI cO (stW cI h a S))) (vp_Si (fun r => (r = nI 1 ∧ ¬ un w k = 0) ∨ (r = nI 0 ∧ un w k = 0))) 0 0 (fun _ => False) := by
  refine rd_bool (by decide) (Nat.le_of_ble_eq_true rfl) ?_
  intro p e s m args below meth c Q ls F hP hC hret hl
  have hx := F.1
  have hb := F.2.1
  have hml := F.2.2.1
  have hown := F.2.2.2.1
  have hts := F.2.2.2.2
  replace hl : lv_has ls 2 [(0, .ref (h)), (1, .int (nI (k)))] := hl
  have hn4 := hR.wf.n.2
  obtain ⟨v, hv, hv2, hv3⟩ := RC_hu hR hc hk
  have ht := hR.wf.t.2
  refine lv_aload_n hx hb dX0_holds_0 rfl (lv_at hl 0 rfl) ?_
  refine gt0 hx hb hts hown hC.1 hP 0 rfl 16 (by decide) qw55 rfl dX0_holds_1 ?_
  refine lv_iload_n hx hb dX0_holds_4 rfl (lv_at hl 1 rfl) ?_
  refine n_iald hx hb hC.1 hP 7 0 rfl rfl (by omega) (by decide) dX0_holds_5 ?_
  refine w_cv (y := (nI (v))) hv ?_
  refine lv_aload_n hx hb dX0_holds_6 rfl (lv_at hl 0 rfl) ?_
  refine gt0 hx hb hts hown hC.1 hP 0 rfl 0 (by decide) qw26 rfl dX0_holds_7 ?_
  refine w_cv (y := (nI (tm w))) hR.t ?_
  refine n_icmp_le (tgt := 17) hx hb dX0_holds_10 (by decide) (by omega) (by omega) (fun c_10 => ?_) (fun c_10 => ?_)
  · refine lv_iconst (v := (nI (0))) hx hb dX0_holds_17 (by decide) ?_
    exact hret _ _ ls (by first | exact Or.inl ⟨rfl, by omega⟩ | exact Or.inr ⟨rfl, by omega⟩) (Or.inl (by decide)) dX0_holds_18
  · refine lv_iconst (v := (nI (1))) hx hb dX0_holds_13 (by decide) ?_
    refine lv_goto (tgt := 18) hx hb dX0_holds_14 (by decide) ?_
    exact hret _ _ ls (by first | exact Or.inl ⟨rfl, by omega⟩ | exact Or.inr ⟨rfl, by omega⟩) (Or.inr (by decide)) dX0_holds_18

set_option maxHeartbeats 4000000 in
set_option maxRecDepth 100000 in
theorem c_X0_congestionLevel (l : Launch) (D : va_G) (cI cO : ClassId) (h : Nat) (a : Nat → Nat) (S : Nat → Nat → Int32) (w : Nat → Int32) (c0 : Nat) (hR : RC c0 S w) (k : Nat) (hk : k < 16) : Met l yX0_congestionLevel (Cond.code yX0_congestionLevel cX0_congestionLevel 3 (some .int) :: WL) ({ frames := 0, cells := 0, slots := 0, locals := 0 } : Room) (va_Pc [.ref (h), .int (nI (k))] (PR D cI cO (stW cI h a S))) (vp_Si (fun r => r = nI (lvl (le w k)))) 0 0 (fun _ => False) := by
  refine rd_int (by decide) (Nat.le_of_ble_eq_true rfl) ?_
  intro p e s m args below meth c Q ls F hP hC hret hl
  have hx := F.1
  have hb := F.2.1
  have hml := F.2.2.1
  have hown := F.2.2.2.1
  have hts := F.2.2.2.2
  replace hl : lv_has ls 3 [(0, .ref (h)), (1, .int (nI (k)))] := hl
  have hn4 := hR.wf.n.2
  have hl10 := (hR.wf.l k hk).2
  refine lv_aload_n hx hb dX0_congestionLevel_0 rfl (lv_at hl 0 rfl) ?_
  refine gt0 hx hb hts hown hC.1 hP 0 rfl 12 (by decide) qw47 rfl dX0_congestionLevel_1 ?_
  refine lv_iload_n hx hb dX0_congestionLevel_4 rfl (lv_at hl 1 rfl) ?_
  refine n_iald hx hb hC.1 hP 3 0 rfl rfl (by omega) (by decide) dX0_congestionLevel_5 ?_
  refine w_cv (y := (nI (le w k))) (hR.l k hk) ?_
  refine lv_istore_n (lv' := [(2, .int (nI (le w k))), (0, .ref (h)), (1, .int (nI (k)))]) hx hb dX0_congestionLevel_6 rfl hl (by decide) rfl (fun ls hl => ?_)
  refine lv_iload_n hx hb dX0_congestionLevel_7 rfl (lv_at hl 0 rfl) ?_
  refine lv_iconst (v := (nI (4))) hx hb dX0_congestionLevel_8 (by decide) ?_
  refine n_icmp_ge (tgt := 14) hx hb dX0_congestionLevel_9 (by decide) (by omega) (by omega) (fun c_9 => ?_) (fun c_9 => ?_)
  · refine lv_iload_n hx hb dX0_congestionLevel_14 rfl (lv_at hl 0 rfl) ?_
    refine lv_bipush (v := (nI (6))) hx hb dX0_congestionLevel_15 (by decide) ?_
    refine n_icmp_ge (tgt := 22) hx hb dX0_congestionLevel_17 (by decide) (by omega) (by omega) (fun c_17 => ?_) (fun c_17 => ?_)
    · refine lv_iload_n hx hb dX0_congestionLevel_22 rfl (lv_at hl 0 rfl) ?_
      refine lv_bipush (v := (nI (8))) hx hb dX0_congestionLevel_23 (by decide) ?_
      refine n_icmp_ge (tgt := 32) hx hb dX0_congestionLevel_25 (by decide) (by omega) (by omega) (fun c_25 => ?_) (fun c_25 => ?_)
      · refine lv_iconst (v := (nI (3))) hx hb dX0_congestionLevel_32 (by decide) ?_
        exact hret _ _ ls (by unfold lvl; first | (rw [if_pos (by omega)]; done) | (rw [if_neg (by omega), if_pos (by omega)]; done) | (rw [if_neg (by omega), if_neg (by omega), if_pos (by omega)]; done) | (rw [if_neg (by omega), if_neg (by omega), if_neg (by omega)]; done)) dX0_congestionLevel_33
      · refine lv_iconst (v := (nI (2))) hx hb dX0_congestionLevel_28 (by decide) ?_
        refine lv_goto (tgt := 33) hx hb dX0_congestionLevel_29 (by decide) ?_
        exact hret _ _ ls (by unfold lvl; first | (rw [if_pos (by omega)]; done) | (rw [if_neg (by omega), if_pos (by omega)]; done) | (rw [if_neg (by omega), if_neg (by omega), if_pos (by omega)]; done) | (rw [if_neg (by omega), if_neg (by omega), if_neg (by omega)]; done)) dX0_congestionLevel_33
    · refine lv_iconst (v := (nI (1))) hx hb dX0_congestionLevel_20 (by decide) ?_
      exact hret _ _ ls (by unfold lvl; first | (rw [if_pos (by omega)]; done) | (rw [if_neg (by omega), if_pos (by omega)]; done) | (rw [if_neg (by omega), if_neg (by omega), if_pos (by omega)]; done) | (rw [if_neg (by omega), if_neg (by omega), if_neg (by omega)]; done)) dX0_congestionLevel_21
  · refine lv_iconst (v := (nI (0))) hx hb dX0_congestionLevel_12 (by decide) ?_
    exact hret _ _ ls (by unfold lvl; first | (rw [if_pos (by omega)]; done) | (rw [if_neg (by omega), if_pos (by omega)]; done) | (rw [if_neg (by omega), if_neg (by omega), if_pos (by omega)]; done) | (rw [if_neg (by omega), if_neg (by omega), if_neg (by omega)]; done)) dX0_congestionLevel_13

set_option maxHeartbeats 4000000 in
set_option maxRecDepth 100000 in
theorem c_X0_preferredRoutes (l : Launch) (D : va_G) (cI cO : ClassId) (h : Nat) (a : Nat → Nat) (S : Nat → Nat → Int32) (w : Nat → Int32) (c0 : Nat) (hR : RC c0 S w) (d : Nat) (st : Int32) (hd6 : d < 6) (hst : st = nI 0 ∨ st = nI 1) : Met l yX0_preferredRoutes (Cond.code yX0_preferredRoutes cX0_preferredRoutes 7 (some .int) :: WL) ({ frames := 1, cells := 0, slots := 0, locals := 21 } : Room) (va_Pc [.ref (h), .int (nI (d)), .int (st)] (PR D cI cO (stW cI h a S))) (vp_Si (fun r => r = nI (bmL 3 (pfd w d st) (nn w)).2)) 0 0 (fun _ => False) := by
  refine rd_int (by decide) (Nat.le_of_ble_eq_true rfl) ?_
  intro p e s m args below meth c Q ls F hP hC hret hl
  have hx := F.1
  have hb := F.2.1
  have hml := F.2.2.1
  have hown := F.2.2.2.1
  have hts := F.2.2.2.2
  replace hl : lv_has ls 7 [(0, .ref (h)), (1, .int (nI (d))), (2, .int (st))] := hl
  have hn4 := hR.wf.n.2
  refine lv_iconst (v := (nI (3))) hx hb dX0_preferredRoutes_0 (by decide) ?_
  refine lv_istore_n (lv' := [(3, .int (nI (3))), (0, .ref (h)), (1, .int (nI (d))), (2, .int (st))]) hx hb dX0_preferredRoutes_1 rfl hl (by decide) rfl (fun ls hl => ?_)
  refine lv_iconst (v := (nI (0))) hx hb dX0_preferredRoutes_2 (by decide) ?_
  refine lv_istore (lv' := [(4, .int (nI (0))), (3, .int (nI (3))), (0, .ref (h)), (1, .int (nI (d))), (2, .int (st))]) hx hb dX0_preferredRoutes_3 hl (by decide) rfl (fun ls hl => ?_)
  refine lv_iconst (v := (nI (0))) hx hb dX0_preferredRoutes_5 (by decide) ?_
  refine lv_istore (lv' := [(5, .int (nI (0))), (4, .int (nI (0))), (3, .int (nI (3))), (0, .ref (h)), (1, .int (nI (d))), (2, .int (st))]) hx hb dX0_preferredRoutes_6 hl (by decide) rfl (fun ls hl => ?_)
  have lp_8 : ∀ (fu_8 : Nat) (i : Nat) (b : Nat) (m_ : Nat) (ls : Array Slot), nn w - i < fu_8 → (i ≤ nn w) → (bmL 3 (pfd w d st) i = (b, m_)) → lv_has ls 7 [(5, .int (nI (i))), (4, .int (nI (m_))), (3, .int (nI (b))), (0, .ref (h)), (1, .int (nI (d))), (2, .int (st))] → W p l e ({ frames := 1, cells := 0, slots := 0, locals := 21 } : Room) s m args below meth c s.heap [] 0 0 Q (F0 m 8 ls []) := by
    intro fu_8
    induction fu_8 with
    | zero => intro i b m_ ls hmu_8; exact absurd hmu_8 (Nat.not_lt_zero _)
    | succ fu_8 ih_8 =>
      intro i b m_ ls hmu_8 hi he hl
      have hl3 := bmL_lim (lim := 3) (f := pfd w d st) i
      have hlt := bmL_lt (lim := 3) (f := pfd w d st) i
      rw [he] at hl3 hlt
      simp only at hl3 hlt
      refine lv_iload hx hb dX0_preferredRoutes_8 (lv_at hl 0 rfl) ?_
      refine lv_aload_n hx hb dX0_preferredRoutes_10 rfl (lv_at hl 3 rfl) ?_
      refine gt0 hx hb hts hown hC.1 hP 0 rfl 8 (by decide) qw42 rfl dX0_preferredRoutes_11 ?_
      refine w_cv (y := (nI (nn w))) hR.n ?_
      refine n_icmp_ge (tgt := 94) hx hb dX0_preferredRoutes_14 (by decide) (by omega) (by omega) (fun c_14 => ?_) (fun c_14 => ?_)
      · refine lv_iload hx hb dX0_preferredRoutes_94 (lv_at hl 1 rfl) ?_
        exact hret _ _ ls (by rw [show nn w = i by omega, he]) dX0_preferredRoutes_96
      · have ham := am_lt hR.wf (i := i) (by omega)
        have h2i : 2 ^ i ≤ 8 := by have := Nat.pow_le_pow_right (n := 2) (by decide) (show i ≤ 3 by omega); simpa using this
        have h2p : 0 < 2 ^ i := Nat.pow_pos (by decide)
        refine lv_iload_n hx hb dX0_preferredRoutes_17 rfl (lv_at hl 4 rfl) ?_
        refine lv_iload hx hb dX0_preferredRoutes_18 (lv_at hl 0 rfl) ?_
        refine goR (kSN (As := [.int (nI (d)), .int (nI (i))]) (rest := []) F (c_X2_routePlace l D cI cO (d) (i)) ywX2_routePlace (nk11 hC) qw221  ⟨rfl, rfl⟩ ⟨Nat.le_of_ble_eq_true rfl, Nat.le_of_ble_eq_true rfl⟩ (preR (fun k q h => by simp at h) hC) rfl hl.1 rfl (Nat.le_of_ble_eq_true rfl) dX0_preferredRoutes_20 ⟨Nat.zero_le _, Nat.zero_le _⟩) (fun r_20 h_20 => ?_)
        subst h_20
        refine lv_istore (lv' := [(6, .int (nI (d * 4 + i))), (5, .int (nI (i))), (4, .int (nI (m_))), (3, .int (nI (b))), (0, .ref (h)), (1, .int (nI (d))), (2, .int (st))]) hx hb dX0_preferredRoutes_23 hl (by decide) rfl (fun ls hl => ?_)
        refine lv_aload_n hx hb dX0_preferredRoutes_25 rfl (lv_at hl 4 rfl) ?_
        refine gt0 hx hb hts hown hC.1 hP 0 rfl 14 (by decide) qw51 rfl dX0_preferredRoutes_26 ?_
        refine lv_iload hx hb dX0_preferredRoutes_29 (lv_at hl 0 rfl) ?_
        refine n_iald hx hb hC.1 hP 5 0 rfl rfl (by omega) (by decide) dX0_preferredRoutes_31 ?_
        refine w_cv (y := (w (197 + 4 * d + i))) (hR.s d hd6 i (by omega)) ?_
        refine lv_iload_n hx hb dX0_preferredRoutes_32 rfl (lv_at hl 6 rfl) ?_
        refine lv_icmp_ne (tgt := 88) hx hb dX0_preferredRoutes_33 (by decide)  (fun c_33 => ?_) (fun c_33 => ?_)
        · refine n_iinc (a := i) (b := 1) (lv' := [(5, .int (nI (i + 1))), (6, .int (nI (d * 4 + i))), (4, .int (nI (m_))), (3, .int (nI (b))), (0, .ref (h)), (1, .int (nI (d))), (2, .int (st))]) hx hb dX0_preferredRoutes_88 hl (k := 1) rfl rfl (by decide) rfl (fun ls hl => ?_)
          refine lv_goto (tgt := 8) hx hb dX0_preferredRoutes_91 (by decide) ?_
          exact ih_8 (i + 1) (b) (m_) ls (by omega) (by omega) (by rw [bmL_step he]; first | (rw [pfd_1 c_33, if_neg (by omega), if_neg (by omega)]; done) | (rw [pfd_2 c_43, if_neg (by omega), if_neg (by omega)]; done) | (rw [pfd_3 c_33 c_43, if_neg (by omega), if_neg (by omega)]; done) | (rw [pfd_3 c_33 c_43, if_pos (by omega), Nat.zero_add]; done) | (rw [pfd_3 c_33 c_43, if_neg (by omega), if_pos ⟨by omega, by omega⟩, show b = pq w d i by omega]; done)) (lv_sub hl [0, 2, 3, 4, 5, 6] rfl)
        · have hpq := hR.wf.p d hd6 i (by omega) (by rw [c_33]; rcases hst with rfl | rfl <;> decide)
          have hp2 := hpq.2
          refine lv_aload_n hx hb dX0_preferredRoutes_36 rfl (lv_at hl 4 rfl) ?_
          refine gt0 hx hb hts hown hC.1 hP 0 rfl 11 (by decide) qw46 rfl dX0_preferredRoutes_37 ?_
          refine lv_iload hx hb dX0_preferredRoutes_40 (lv_at hl 1 rfl) ?_
          refine n_iald hx hb hC.1 hP 2 0 rfl rfl (by omega) (by decide) dX0_preferredRoutes_42 ?_
          refine w_cv (y := (nI (am w i))) (hR.a i (by omega)) ?_
          refine n_if_eq (tgt := 88) hx hb dX0_preferredRoutes_43 (by decide) (by omega) (fun c_43 => ?_) (fun c_43 => ?_)
          · refine n_iinc (a := i) (b := 1) (lv' := [(5, .int (nI (i + 1))), (6, .int (nI (d * 4 + i))), (4, .int (nI (m_))), (3, .int (nI (b))), (0, .ref (h)), (1, .int (nI (d))), (2, .int (st))]) hx hb dX0_preferredRoutes_88 hl (k := 1) rfl rfl (by decide) rfl (fun ls hl => ?_)
            refine lv_goto (tgt := 8) hx hb dX0_preferredRoutes_91 (by decide) ?_
            exact ih_8 (i + 1) (b) (m_) ls (by omega) (by omega) (by rw [bmL_step he]; first | (rw [pfd_1 c_33, if_neg (by omega), if_neg (by omega)]; done) | (rw [pfd_2 c_43, if_neg (by omega), if_neg (by omega)]; done) | (rw [pfd_3 c_33 c_43, if_neg (by omega), if_neg (by omega)]; done) | (rw [pfd_3 c_33 c_43, if_pos (by omega), Nat.zero_add]; done) | (rw [pfd_3 c_33 c_43, if_neg (by omega), if_pos ⟨by omega, by omega⟩, show b = pq w d i by omega]; done)) (lv_sub hl [0, 2, 3, 4, 5, 6] rfl)
          · refine lv_aload_n hx hb dX0_preferredRoutes_46 rfl (lv_at hl 4 rfl) ?_
            refine gt0 hx hb hts hown hC.1 hP 0 rfl 15 (by decide) qw53 rfl dX0_preferredRoutes_47 ?_
            refine lv_iload hx hb dX0_preferredRoutes_50 (lv_at hl 0 rfl) ?_
            refine n_iald hx hb hC.1 hP 6 0 rfl rfl (by omega) (by decide) dX0_preferredRoutes_52 ?_
            refine w_cv (y := (nI (pq w d i))) ((hR.p d hd6 i (by omega)).trans hpq.1) ?_
            refine lv_iload_n hx hb dX0_preferredRoutes_53 rfl (lv_at hl 3 rfl) ?_
            refine n_icmp_gt (tgt := 88) hx hb dX0_preferredRoutes_54 (by decide) (by omega) (by omega) (fun c_54 => ?_) (fun c_54 => ?_)
            · refine n_iinc (a := i) (b := 1) (lv' := [(5, .int (nI (i + 1))), (6, .int (nI (d * 4 + i))), (4, .int (nI (m_))), (3, .int (nI (b))), (0, .ref (h)), (1, .int (nI (d))), (2, .int (st))]) hx hb dX0_preferredRoutes_88 hl (k := 1) rfl rfl (by decide) rfl (fun ls hl => ?_)
              refine lv_goto (tgt := 8) hx hb dX0_preferredRoutes_91 (by decide) ?_
              exact ih_8 (i + 1) (b) (m_) ls (by omega) (by omega) (by rw [bmL_step he]; first | (rw [pfd_1 c_33, if_neg (by omega), if_neg (by omega)]; done) | (rw [pfd_2 c_43, if_neg (by omega), if_neg (by omega)]; done) | (rw [pfd_3 c_33 c_43, if_neg (by omega), if_neg (by omega)]; done) | (rw [pfd_3 c_33 c_43, if_pos (by omega), Nat.zero_add]; done) | (rw [pfd_3 c_33 c_43, if_neg (by omega), if_pos ⟨by omega, by omega⟩, show b = pq w d i by omega]; done)) (lv_sub hl [0, 2, 3, 4, 5, 6] rfl)
            · refine lv_aload_n hx hb dX0_preferredRoutes_57 rfl (lv_at hl 4 rfl) ?_
              refine gt0 hx hb hts hown hC.1 hP 0 rfl 15 (by decide) qw53 rfl dX0_preferredRoutes_58 ?_
              refine lv_iload hx hb dX0_preferredRoutes_61 (lv_at hl 0 rfl) ?_
              refine n_iald hx hb hC.1 hP 6 0 rfl rfl (by omega) (by decide) dX0_preferredRoutes_63 ?_
              refine w_cv (y := (nI (pq w d i))) ((hR.p d hd6 i (by omega)).trans hpq.1) ?_
              refine lv_iload_n hx hb dX0_preferredRoutes_64 rfl (lv_at hl 3 rfl) ?_
              refine n_icmp_ge (tgt := 71) hx hb dX0_preferredRoutes_65 (by decide) (by omega) (by omega) (fun c_65 => ?_) (fun c_65 => ?_)
              · refine lv_aload_n hx hb dX0_preferredRoutes_71 rfl (lv_at hl 4 rfl) ?_
                refine gt0 hx hb hts hown hC.1 hP 0 rfl 15 (by decide) qw53 rfl dX0_preferredRoutes_72 ?_
                refine lv_iload hx hb dX0_preferredRoutes_75 (lv_at hl 0 rfl) ?_
                refine n_iald hx hb hC.1 hP 6 0 rfl rfl (by omega) (by decide) dX0_preferredRoutes_77 ?_
                refine w_cv (y := (nI (pq w d i))) ((hR.p d hd6 i (by omega)).trans hpq.1) ?_
                refine lv_istore_n (lv' := [(3, .int (nI (pq w d i))), (6, .int (nI (d * 4 + i))), (5, .int (nI (i))), (4, .int (nI (m_))), (0, .ref (h)), (1, .int (nI (d))), (2, .int (st))]) hx hb dX0_preferredRoutes_78 rfl hl (by decide) rfl (fun ls hl => ?_)
                refine lv_iload hx hb dX0_preferredRoutes_79 (lv_at hl 3 rfl) ?_
                refine lv_iconst (v := (nI (1))) hx hb dX0_preferredRoutes_81 (by decide) ?_
                refine lv_iload hx hb dX0_preferredRoutes_82 (lv_at hl 2 rfl) ?_
                refine lv_ishl hx hb dX0_preferredRoutes_84 ?_
                refine lv_ior hx hb dX0_preferredRoutes_85 ?_
                refine w_cv (y := (nI (m_ + 2 ^ i))) (or1 _ (by omega) i (by omega) (by omega)) ?_
                refine lv_istore (lv' := [(4, .int (nI (m_ + 2 ^ i))), (3, .int (nI (pq w d i))), (6, .int (nI (d * 4 + i))), (5, .int (nI (i))), (0, .ref (h)), (1, .int (nI (d))), (2, .int (st))]) hx hb dX0_preferredRoutes_86 hl (by decide) rfl (fun ls hl => ?_)
                refine n_iinc (a := i) (b := 1) (lv' := [(5, .int (nI (i + 1))), (4, .int (nI (m_ + 2 ^ i))), (3, .int (nI (pq w d i))), (6, .int (nI (d * 4 + i))), (0, .ref (h)), (1, .int (nI (d))), (2, .int (st))]) hx hb dX0_preferredRoutes_88 hl (k := 3) rfl rfl (by decide) rfl (fun ls hl => ?_)
                refine lv_goto (tgt := 8) hx hb dX0_preferredRoutes_91 (by decide) ?_
                exact ih_8 (i + 1) (pq w d i) (m_ + 2 ^ i) ls (by omega) (by omega) (by rw [bmL_step he]; first | (rw [pfd_1 c_33, if_neg (by omega), if_neg (by omega)]; done) | (rw [pfd_2 c_43, if_neg (by omega), if_neg (by omega)]; done) | (rw [pfd_3 c_33 c_43, if_neg (by omega), if_neg (by omega)]; done) | (rw [pfd_3 c_33 c_43, if_pos (by omega), Nat.zero_add]; done) | (rw [pfd_3 c_33 c_43, if_neg (by omega), if_pos ⟨by omega, by omega⟩, show b = pq w d i by omega]; done)) (lv_sub hl [0, 1, 2, 4, 5, 6] rfl)
              · refine lv_iconst (v := (nI (0))) hx hb dX0_preferredRoutes_68 (by decide) ?_
                refine lv_istore (lv' := [(4, .int (nI (0))), (6, .int (nI (d * 4 + i))), (5, .int (nI (i))), (3, .int (nI (b))), (0, .ref (h)), (1, .int (nI (d))), (2, .int (st))]) hx hb dX0_preferredRoutes_69 hl (by decide) rfl (fun ls hl => ?_)
                refine lv_aload_n hx hb dX0_preferredRoutes_71 rfl (lv_at hl 4 rfl) ?_
                refine gt0 hx hb hts hown hC.1 hP 0 rfl 15 (by decide) qw53 rfl dX0_preferredRoutes_72 ?_
                refine lv_iload hx hb dX0_preferredRoutes_75 (lv_at hl 1 rfl) ?_
                refine n_iald hx hb hC.1 hP 6 0 rfl rfl (by omega) (by decide) dX0_preferredRoutes_77 ?_
                refine w_cv (y := (nI (pq w d i))) ((hR.p d hd6 i (by omega)).trans hpq.1) ?_
                refine lv_istore_n (lv' := [(3, .int (nI (pq w d i))), (4, .int (nI (0))), (6, .int (nI (d * 4 + i))), (5, .int (nI (i))), (0, .ref (h)), (1, .int (nI (d))), (2, .int (st))]) hx hb dX0_preferredRoutes_78 rfl hl (by decide) rfl (fun ls hl => ?_)
                refine lv_iload hx hb dX0_preferredRoutes_79 (lv_at hl 1 rfl) ?_
                refine lv_iconst (v := (nI (1))) hx hb dX0_preferredRoutes_81 (by decide) ?_
                refine lv_iload hx hb dX0_preferredRoutes_82 (lv_at hl 3 rfl) ?_
                refine lv_ishl hx hb dX0_preferredRoutes_84 ?_
                refine lv_ior hx hb dX0_preferredRoutes_85 ?_
                refine w_cv (y := (nI (0 + 2 ^ i))) (or1 _ (by omega) i (by omega) (by omega)) ?_
                refine lv_istore (lv' := [(4, .int (nI (0 + 2 ^ i))), (3, .int (nI (pq w d i))), (6, .int (nI (d * 4 + i))), (5, .int (nI (i))), (0, .ref (h)), (1, .int (nI (d))), (2, .int (st))]) hx hb dX0_preferredRoutes_86 hl (by decide) rfl (fun ls hl => ?_)
                refine n_iinc (a := i) (b := 1) (lv' := [(5, .int (nI (i + 1))), (4, .int (nI (0 + 2 ^ i))), (3, .int (nI (pq w d i))), (6, .int (nI (d * 4 + i))), (0, .ref (h)), (1, .int (nI (d))), (2, .int (st))]) hx hb dX0_preferredRoutes_88 hl (k := 3) rfl rfl (by decide) rfl (fun ls hl => ?_)
                refine lv_goto (tgt := 8) hx hb dX0_preferredRoutes_91 (by decide) ?_
                exact ih_8 (i + 1) (pq w d i) (0 + 2 ^ i) ls (by omega) (by omega) (by rw [bmL_step he]; first | (rw [pfd_1 c_33, if_neg (by omega), if_neg (by omega)]; done) | (rw [pfd_2 c_43, if_neg (by omega), if_neg (by omega)]; done) | (rw [pfd_3 c_33 c_43, if_neg (by omega), if_neg (by omega)]; done) | (rw [pfd_3 c_33 c_43, if_pos (by omega), Nat.zero_add]; done) | (rw [pfd_3 c_33 c_43, if_neg (by omega), if_pos ⟨by omega, by omega⟩, show b = pq w d i by omega]; done)) (lv_sub hl [0, 1, 2, 4, 5, 6] rfl)
  exact lp_8 _ (0) (3) (0) ls (Nat.lt_succ_self _) (Nat.zero_le _) (rfl) (lv_sub hl [0, 1, 2, 3, 4, 5] rfl)

set_option maxHeartbeats 4000000 in
set_option maxRecDepth 100000 in
theorem c_X0_routesTo (l : Launch) (D : va_G) (cI cO : ClassId) (h : Nat) (a : Nat → Nat) (S : Nat → Nat → Int32) (w : Nat → Int32) (c0 : Nat) (hR : RC c0 S w) (d : Nat) (hd6 : d < 6) : Met l yX0_routesTo (Cond.code yX0_routesTo cX0_routesTo 3 (some .int) :: WL) ({ frames := 2, cells := 0, slots := 0, locals := 47 } : Room) (va_Pc [.ref (h), .int (nI (d))] (PR D cI cO (stW cI h a S))) (vp_Si (fun r => r = nI (rts w d))) 0 0 (fun _ => False) := by
  refine rd_int (by decide) (Nat.le_of_ble_eq_true rfl) ?_
  intro p e s m args below meth c Q ls F hP hC hret hl
  have hx := F.1
  have hb := F.2.1
  have hml := F.2.2.1
  have hown := F.2.2.2.1
  have hts := F.2.2.2.2
  replace hl : lv_has ls 3 [(0, .ref (h)), (1, .int (nI (d)))] := hl
  have hn4 := hR.wf.n.2
  have hq0 := pfm_lt (d := d) (st := nI 0) hR.wf
  refine lv_aload_n hx hb dX0_routesTo_0 rfl (lv_at hl 0 rfl) ?_
  refine lv_iload_n hx hb dX0_routesTo_1 rfl (lv_at hl 1 rfl) ?_
  refine lv_iconst (v := (nI (0))) hx hb dX0_routesTo_2 (by decide) ?_
  refine goR (kV (As := [.int (nI (d)), .int (nI (0))]) (rest := []) F (c_X0_preferredRoutes l D cI cO h a S w c0 hR (d) (nI (0)) (by omega) (by first | exact Or.inl rfl | exact Or.inr rfl)) ywX0_preferredRoutes qw216 qw218 qs13 ⟨rfl, rfl⟩ ⟨Nat.le_of_ble_eq_true rfl, Nat.le_of_ble_eq_true rfl⟩ (preV (preR hP hC) hC hP (ci := 0) (q0 := 0) rfl rfl rfl) rfl hl.1 rfl (Nat.le_of_ble_eq_true rfl) dX0_routesTo_3 ⟨Nat.zero_le _, Nat.zero_le _⟩) (fun r_3 h_3 => ?_)
  subst h_3
  refine lv_istore_n (lv' := [(2, .int (nI ((bmL 3 (pfd w d (nI (0))) (nn w)).2))), (0, .ref (h)), (1, .int (nI (d)))]) hx hb dX0_routesTo_6 rfl hl (by decide) rfl (fun ls hl => ?_)
  refine lv_iload_n hx hb dX0_routesTo_7 rfl (lv_at hl 0 rfl) ?_
  refine n_if_eq (tgt := 15) hx hb dX0_routesTo_8 (by decide) (by omega) (fun c_8 => ?_) (fun c_8 => ?_)
  · refine lv_aload_n hx hb dX0_routesTo_15 rfl (lv_at hl 1 rfl) ?_
    refine lv_iload_n hx hb dX0_routesTo_16 rfl (lv_at hl 2 rfl) ?_
    refine lv_iconst (v := (nI (1))) hx hb dX0_routesTo_17 (by decide) ?_
    refine goR (kV (As := [.int (nI (d)), .int (nI (1))]) (rest := []) F (c_X0_preferredRoutes l D cI cO h a S w c0 hR (d) (nI (1)) (by omega) (by first | exact Or.inl rfl | exact Or.inr rfl)) ywX0_preferredRoutes qw216 qw218 qs13 ⟨rfl, rfl⟩ ⟨Nat.le_of_ble_eq_true rfl, Nat.le_of_ble_eq_true rfl⟩ (preV (preR hP hC) hC hP (ci := 0) (q0 := 0) rfl rfl rfl) rfl hl.1 rfl (Nat.le_of_ble_eq_true rfl) dX0_routesTo_18 ⟨Nat.zero_le _, Nat.zero_le _⟩) (fun r_18 h_18 => ?_)
    subst h_18
    exact hret _ _ ls (by rw [rts_pf hR.wf hd6]; first | rw [if_pos c_8] | rw [if_neg c_8]) dX0_routesTo_21
  · refine lv_iload_n hx hb dX0_routesTo_11 rfl (lv_at hl 0 rfl) ?_
    refine lv_goto (tgt := 21) hx hb dX0_routesTo_12 (by decide) ?_
    exact hret _ _ ls (by rw [rts_pf hR.wf hd6]; first | rw [if_pos c_8] | rw [if_neg c_8]) dX0_routesTo_21

set_option maxHeartbeats 4000000 in
set_option maxRecDepth 100000 in
theorem c_J6_bitCount_0f7a4 (l : Launch) (D : va_G) (cI cO : ClassId) (m_ : Nat) (hm : m_ < 16) : Met l yJ6_bitCount_0f7a4 (Cond.code yJ6_bitCount_0f7a4 cJ6_bitCount_0f7a4 1 (some .int) :: WL) ({ frames := 0, cells := 0, slots := 0, locals := 0 } : Room) (va_Pc [.int (nI (m_))] (PR D cI cO ([]))) (vp_Si (fun r => r = nI (pc4 m_))) 0 0 (fun _ => False) := by
  refine rd_int (by decide) (Nat.le_of_ble_eq_true rfl) ?_
  intro p e s m args below meth c Q ls F hP hC hret hl
  have hx := F.1
  have hb := F.2.1
  have hml := F.2.2.1
  have hown := F.2.2.2.1
  have hts := F.2.2.2.2
  replace hl : lv_has ls 1 [(0, .int (nI (m_)))] := hl
  refine lv_iload_n hx hb dJ6_bitCount_0f7a4_0 rfl (lv_at hl 0 rfl) ?_
  refine lv_iload_n hx hb dJ6_bitCount_0f7a4_1 rfl (lv_at hl 0 rfl) ?_
  refine lv_iconst (v := (nI (1))) hx hb dJ6_bitCount_0f7a4_2 (by decide) ?_
  refine lv_iushr (v := (Int32.toUInt32 (nI (m_)) >>> (Int32.toUInt32 (nI (1)) &&& Int32.toUInt32 31)).toInt32) hx hb dJ6_bitCount_0f7a4_3 rfl ?_
  refine lv_ldcw (own := "java/lang/Integer") (v := 1431655765) hx hb hown (hts _ qw230) dJ6_bitCount_0f7a4_4 ?_
  refine lv_iand hx hb dJ6_bitCount_0f7a4_7 ?_
  refine lv_isub hx hb dJ6_bitCount_0f7a4_8  ?_
  refine w_cv (y := (bcA (nI m_))) rfl ?_
  refine lv_istore_n (lv' := [(0, .int (bcA (nI m_)))]) hx hb dJ6_bitCount_0f7a4_9 rfl hl (by decide) rfl (fun ls hl => ?_)
  refine lv_iload_n hx hb dJ6_bitCount_0f7a4_10 rfl (lv_at hl 0 rfl) ?_
  refine lv_ldcw (own := "java/lang/Integer") (v := 858993459) hx hb hown (hts _ qw231) dJ6_bitCount_0f7a4_11 ?_
  refine lv_iand hx hb dJ6_bitCount_0f7a4_14 ?_
  refine lv_iload_n hx hb dJ6_bitCount_0f7a4_15 rfl (lv_at hl 0 rfl) ?_
  refine lv_iconst (v := (nI (2))) hx hb dJ6_bitCount_0f7a4_16 (by decide) ?_
  refine lv_iushr (v := (Int32.toUInt32 (bcA (nI m_)) >>> (Int32.toUInt32 (nI (2)) &&& Int32.toUInt32 31)).toInt32) hx hb dJ6_bitCount_0f7a4_17 rfl ?_
  refine lv_ldcw (own := "java/lang/Integer") (v := 858993459) hx hb hown (hts _ qw231) dJ6_bitCount_0f7a4_18 ?_
  refine lv_iand hx hb dJ6_bitCount_0f7a4_21 ?_
  refine lv_iadd hx hb dJ6_bitCount_0f7a4_22  ?_
  refine w_cv (y := (bcB (bcA (nI m_)))) rfl ?_
  refine lv_istore_n (lv' := [(0, .int (bcB (bcA (nI m_))))]) hx hb dJ6_bitCount_0f7a4_23 rfl hl (by decide) rfl (fun ls hl => ?_)
  refine lv_iload_n hx hb dJ6_bitCount_0f7a4_24 rfl (lv_at hl 0 rfl) ?_
  refine lv_iload_n hx hb dJ6_bitCount_0f7a4_25 rfl (lv_at hl 0 rfl) ?_
  refine lv_iconst (v := (nI (4))) hx hb dJ6_bitCount_0f7a4_26 (by decide) ?_
  refine lv_iushr (v := (Int32.toUInt32 (bcB (bcA (nI m_))) >>> (Int32.toUInt32 (nI (4)) &&& Int32.toUInt32 31)).toInt32) hx hb dJ6_bitCount_0f7a4_27 rfl ?_
  refine lv_iadd hx hb dJ6_bitCount_0f7a4_28  ?_
  refine lv_ldcw (own := "java/lang/Integer") (v := 252645135) hx hb hown (hts _ qw232) dJ6_bitCount_0f7a4_29 ?_
  refine lv_iand hx hb dJ6_bitCount_0f7a4_32 ?_
  refine w_cv (y := (bcC (bcB (bcA (nI m_))))) rfl ?_
  refine lv_istore_n (lv' := [(0, .int (bcC (bcB (bcA (nI m_)))))]) hx hb dJ6_bitCount_0f7a4_33 rfl hl (by decide) rfl (fun ls hl => ?_)
  refine lv_iload_n hx hb dJ6_bitCount_0f7a4_34 rfl (lv_at hl 0 rfl) ?_
  refine lv_iload_n hx hb dJ6_bitCount_0f7a4_35 rfl (lv_at hl 0 rfl) ?_
  refine lv_bipush (v := (nI (8))) hx hb dJ6_bitCount_0f7a4_36 (by decide) ?_
  refine lv_iushr (v := (Int32.toUInt32 (bcC (bcB (bcA (nI m_)))) >>> (Int32.toUInt32 (nI (8)) &&& Int32.toUInt32 31)).toInt32) hx hb dJ6_bitCount_0f7a4_38 rfl ?_
  refine lv_iadd hx hb dJ6_bitCount_0f7a4_39  ?_
  refine w_cv (y := (bcD (bcC (bcB (bcA (nI m_)))))) rfl ?_
  refine lv_istore_n (lv' := [(0, .int (bcD (bcC (bcB (bcA (nI m_))))))]) hx hb dJ6_bitCount_0f7a4_40 rfl hl (by decide) rfl (fun ls hl => ?_)
  refine lv_iload_n hx hb dJ6_bitCount_0f7a4_41 rfl (lv_at hl 0 rfl) ?_
  refine lv_iload_n hx hb dJ6_bitCount_0f7a4_42 rfl (lv_at hl 0 rfl) ?_
  refine lv_bipush (v := (nI (16))) hx hb dJ6_bitCount_0f7a4_43 (by decide) ?_
  refine lv_iushr (v := (Int32.toUInt32 (bcD (bcC (bcB (bcA (nI m_))))) >>> (Int32.toUInt32 (nI (16)) &&& Int32.toUInt32 31)).toInt32) hx hb dJ6_bitCount_0f7a4_45 rfl ?_
  refine lv_iadd hx hb dJ6_bitCount_0f7a4_46  ?_
  refine w_cv (y := (bcE (bcD (bcC (bcB (bcA (nI m_))))))) rfl ?_
  refine lv_istore_n (lv' := [(0, .int (bcE (bcD (bcC (bcB (bcA (nI m_)))))))]) hx hb dJ6_bitCount_0f7a4_47 rfl hl (by decide) rfl (fun ls hl => ?_)
  refine lv_iload_n hx hb dJ6_bitCount_0f7a4_48 rfl (lv_at hl 0 rfl) ?_
  refine lv_bipush (v := (nI (63))) hx hb dJ6_bitCount_0f7a4_49 (by decide) ?_
  refine lv_iand hx hb dJ6_bitCount_0f7a4_51 ?_
  exact hret _ _ ls (bc16 m_ hm) dJ6_bitCount_0f7a4_52

set_option maxHeartbeats 4000000 in
set_option maxRecDepth 100000 in
theorem c_X2_setBit (l : Launch) (D : va_G) (cI cO : ClassId) (m_ i : Nat) (hm : m_ < 16) (hi : i < pc4 m_) : Met l yX2_setBit (Cond.code yX2_setBit cX2_setBit 4 (some .int) :: WL) ({ frames := 0, cells := 0, slots := 0, locals := 0 } : Room) (va_Pc [.int (nI (m_)), .int (nI (i))] (PR D cI cO ([]))) (vp_Si (fun r => r = nI (sb4 m_ i))) 0 0 (fun _ => False) := by
  refine rd_int (by decide) (Nat.le_of_ble_eq_true rfl) ?_
  intro p e s m args below meth c Q ls F hP hC hret hl
  have hx := F.1
  have hb := F.2.1
  have hml := F.2.2.1
  have hown := F.2.2.2.1
  have hts := F.2.2.2.2
  replace hl : lv_has ls 4 [(0, .int (nI (m_))), (1, .int (nI (i)))] := hl
  have hp4 := (pc4_le m_ hm).1
  refine lv_iload_n hx hb dX2_setBit_0 rfl (lv_at hl 1 rfl) ?_
  refine lv_istore_n (lv' := [(2, .int (nI (i))), (0, .int (nI (m_))), (1, .int (nI (i)))]) hx hb dX2_setBit_1 rfl hl (by decide) rfl (fun ls hl => ?_)
  refine lv_iconst (v := (nI (0))) hx hb dX2_setBit_2 (by decide) ?_
  refine lv_istore_n (lv' := [(3, .int (nI (0))), (2, .int (nI (i))), (0, .int (nI (m_))), (1, .int (nI (i)))]) hx hb dX2_setBit_3 rfl hl (by decide) rfl (fun ls hl => ?_)
  have lp_4 : ∀ (fu_4 : Nat) (q : Nat) (lf : Nat) (ls : Array Slot), 4 - q < fu_4 → (q ≤ 3) → (cb m_ q ≤ i) → (lf = i - cb m_ q) → lv_has ls 4 [(3, .int (nI (q))), (2, .int (nI (lf))), (0, .int (nI (m_))), (1, .int (nI (i)))] → W p l e ({ frames := 0, cells := 0, slots := 0, locals := 0 } : Room) s m args below meth c s.heap [] 0 0 Q (F0 m 4 ls []) := by
    intro fu_4
    induction fu_4 with
    | zero => intro q lf ls hmu_4; exact absurd hmu_4 (Nat.not_lt_zero _)
    | succ fu_4 ih_4 =>
      intro q lf ls hmu_4 hq hc1 hlf hl
      refine lv_iload_n hx hb dX2_setBit_4 rfl (lv_at hl 0 rfl) ?_
      refine lv_iconst (v := (nI (3))) hx hb dX2_setBit_5 (by decide) ?_
      refine n_icmp_ge (tgt := 33) hx hb dX2_setBit_6 (by decide) (by omega) (by omega) (fun c_6 => ?_) (fun c_6 => ?_)
      · refine lv_iconst (v := (nI (3))) hx hb dX2_setBit_33 (by decide) ?_
        exact hret _ _ ls (by rw [sb4_end m_ hm i (by omega) hi (by rw [show 3 = q by omega]; exact hc1)]) dX2_setBit_34
      · have ht01 := tb_01 m_ q
        refine lv_iload_n hx hb dX2_setBit_9 rfl (lv_at hl 2 rfl) ?_
        refine lv_iload_n hx hb dX2_setBit_10 rfl (lv_at hl 0 rfl) ?_
        refine lv_ishr hx hb dX2_setBit_11 ?_
        refine lv_iconst (v := (nI (1))) hx hb dX2_setBit_12 (by decide) ?_
        refine lv_iand hx hb dX2_setBit_13 ?_
        refine w_cv (y := (nI (tb m_ q))) (shr1 _ hm q (by omega)) ?_
        refine lv_iconst (v := (nI (1))) hx hb dX2_setBit_14 (by decide) ?_
        refine n_icmp_ne (tgt := 27) hx hb dX2_setBit_15 (by decide) (by omega) (by omega) (fun c_15 => ?_) (fun c_15 => ?_)
        · refine n_iinc (a := q) (b := 1) (lv' := [(3, .int (nI (q + 1))), (2, .int (nI (lf))), (0, .int (nI (m_))), (1, .int (nI (i)))]) hx hb dX2_setBit_27 hl (k := 0) rfl rfl (by decide) rfl (fun ls hl => ?_)
          refine lv_goto (tgt := 4) hx hb dX2_setBit_30 (by decide) ?_
          exact ih_4 (q + 1) (lf) ls (by omega) (by omega) (by simp only [cb]; omega) (by simp only [cb]; omega) (lv_sub hl [0, 1, 2, 3] rfl)
        · refine lv_iload_n hx hb dX2_setBit_18 rfl (lv_at hl 1 rfl) ?_
          refine n_if_ne (tgt := 24) hx hb dX2_setBit_19 (by decide) (by omega) (fun c_19 => ?_) (fun c_19 => ?_)
          · refine lv_iinc (v := (nI (lf - 1))) (lv' := [(2, .int (nI (lf - 1))), (3, .int (nI (q))), (0, .int (nI (m_))), (1, .int (nI (i)))]) hx hb dX2_setBit_24 hl (k := 1) rfl (by rw [show Int32.ofInt (-1) = -1 from by decide]; exact sb_m1 (by omega)) (by decide) rfl (fun ls hl => ?_)
            refine n_iinc (a := q) (b := 1) (lv' := [(3, .int (nI (q + 1))), (2, .int (nI (lf - 1))), (0, .int (nI (m_))), (1, .int (nI (i)))]) hx hb dX2_setBit_27 hl (k := 1) rfl rfl (by decide) rfl (fun ls hl => ?_)
            refine lv_goto (tgt := 4) hx hb dX2_setBit_30 (by decide) ?_
            exact ih_4 (q + 1) (lf - 1) ls (by omega) (by omega) (by simp only [cb]; omega) (by simp only [cb]; omega) (lv_sub hl [0, 1, 2, 3] rfl)
          · refine lv_iload_n hx hb dX2_setBit_22 rfl (lv_at hl 0 rfl) ?_
            exact hret _ _ ls (by rw [sb4_at m_ hm i (by omega) q (by omega) c_15 (by omega)]) dX2_setBit_23
  exact lp_4 _ (0) (i) ls (Nat.lt_succ_self _) (by omega) (by simp [cb]) (by simp [cb]) (lv_sub hl [0, 1, 2, 3] rfl)

set_option maxHeartbeats 4000000 in
set_option maxRecDepth 100000 in
theorem c_X0_linkOver (l : Launch) (D : va_G) (cI cO : ClassId) (h : Nat) (a : Nat → Nat) (S : Nat → Nat → Int32) (w : Nat → Int32) (c0 : Nat) (hR : RC c0 S w) (m_ k : Nat) (hm : m_ < 16) (hk : k < 16) (hmt : ∀ i, i < 4 → tb m_ i = 1 → ¬ am w i = 0) : Met l yX0_linkOver (Cond.code yX0_linkOver cX0_linkOver 6 (some .int) :: WL) ({ frames := 1, cells := 0, slots := 0, locals := 23 } : Room) (va_Pc [.ref (h), .int (nI (m_)), .int (nI (k))] (PR D cI cO (stW cI h a S))) (vp_Si (fun r => r = lkm w m_ k)) 0 0 (fun _ => False) := by
  refine rd_int (by decide) (Nat.le_of_ble_eq_true rfl) ?_
  intro p e s m args below meth c Q ls F hP hC hret hl
  have hx := F.1
  have hb := F.2.1
  have hml := F.2.2.1
  have hown := F.2.2.2.1
  have hts := F.2.2.2.2
  replace hl : lv_has ls 6 [(0, .ref (h)), (1, .int (nI (m_))), (2, .int (nI (k)))] := hl
  have hn4 := hR.wf.n.2
  have hp4 := pc4_le m_ hm
  refine lv_iload_n hx hb dX0_linkOver_0 rfl (lv_at hl 1 rfl) ?_
  refine goR (kS (As := [.int (nI (m_))]) (rest := []) F (c_J6_bitCount_0f7a4 l D cI cO (m_) (by omega)) ywJ6_bitCount_0f7a4 qw227 qw228  ⟨rfl, rfl⟩ ⟨Nat.le_of_ble_eq_true rfl, Nat.le_of_ble_eq_true rfl⟩ (preR (fun k q h => by simp at h) hC) rfl hl.1 rfl (Nat.le_of_ble_eq_true rfl) dX0_linkOver_1 ⟨Nat.zero_le _, Nat.zero_le _⟩) (fun r_1 h_1 => ?_)
  subst h_1
  refine lv_istore_n (lv' := [(3, .int (nI (pc4 m_))), (0, .ref (h)), (1, .int (nI (m_))), (2, .int (nI (k)))]) hx hb dX0_linkOver_4 rfl hl (by decide) rfl (fun ls hl => ?_)
  refine lv_iload_n hx hb dX0_linkOver_5 rfl (lv_at hl 0 rfl) ?_
  refine n_if_ne (tgt := 11) hx hb dX0_linkOver_6 (by decide) (by omega) (fun c_6 => ?_) (fun c_6 => ?_)
  · refine lv_iload_n hx hb dX0_linkOver_11 rfl (lv_at hl 2 rfl) ?_
    refine lv_iload_n hx hb dX0_linkOver_12 rfl (lv_at hl 3 rfl) ?_
    refine lv_iload_n hx hb dX0_linkOver_13 rfl (lv_at hl 0 rfl) ?_
    refine n_irem hx hb dX0_linkOver_14 (by omega) (by omega) (by omega) ?_
    refine goR (kSN (As := [.int (nI (m_)), .int (nI (k % (pc4 m_)))]) (rest := []) F (c_X2_setBit l D cI cO (m_) (k % (pc4 m_)) (by omega) (Nat.mod_lt _ (by omega))) ywX2_setBit (nk12 hC) qw234  ⟨rfl, rfl⟩ ⟨Nat.le_of_ble_eq_true rfl, Nat.le_of_ble_eq_true rfl⟩ (preR (fun k q h => by simp at h) hC) rfl hl.1 rfl (Nat.le_of_ble_eq_true rfl) dX0_linkOver_15 ⟨Nat.zero_le _, Nat.zero_le _⟩) (fun r_15 h_15 => ?_)
    subst h_15
    refine w_cv (y := (nI (lks w m_ k))) rfl ?_
    obtain ⟨hs1, hs2, -⟩ := sb4_tb m_ hm (k % pc4 m_) (by have := Nat.mod_lt k (show 0 < pc4 m_ by omega); omega) (Nat.mod_lt _ (by omega))
    replace hs2 : lks w m_ k < 4 := hs2
    have hs3 : ¬ am w (lks w m_ k) = 0 := hmt _ hs2 hs1
    have ham := am_lt hR.wf hs2
    have hpa := pc4_le _ ham
    refine lv_istore (lv' := [(4, .int (nI (lks w m_ k))), (3, .int (nI (pc4 m_))), (0, .ref (h)), (1, .int (nI (m_))), (2, .int (nI (k)))]) hx hb dX0_linkOver_18 hl (by decide) rfl (fun ls hl => ?_)
    refine lv_aload_n hx hb dX0_linkOver_20 rfl (lv_at hl 2 rfl) ?_
    refine gt0 hx hb hts hown hC.1 hP 0 rfl 11 (by decide) qw46 rfl dX0_linkOver_21 ?_
    refine lv_iload hx hb dX0_linkOver_24 (lv_at hl 0 rfl) ?_
    refine n_iald hx hb hC.1 hP 2 0 rfl rfl (by omega) (by decide) dX0_linkOver_26 ?_
    refine w_cv (y := (nI (am w (lks w m_ k)))) (hR.a _ hs2) ?_
    refine goR (kS (As := [.int (nI (am w (lks w m_ k)))]) (rest := []) F (c_J6_bitCount_0f7a4 l D cI cO (am w (lks w m_ k)) (by omega)) ywJ6_bitCount_0f7a4 qw227 qw228  ⟨rfl, rfl⟩ ⟨Nat.le_of_ble_eq_true rfl, Nat.le_of_ble_eq_true rfl⟩ (preR (fun k q h => by simp at h) hC) rfl hl.1 rfl (Nat.le_of_ble_eq_true rfl) dX0_linkOver_27 ⟨Nat.zero_le _, Nat.zero_le _⟩) (fun r_27 h_27 => ?_)
    subst h_27
    refine lv_istore (lv' := [(5, .int (nI (pc4 (am w (lks w m_ k))))), (4, .int (nI (lks w m_ k))), (3, .int (nI (pc4 m_))), (0, .ref (h)), (1, .int (nI (m_))), (2, .int (nI (k)))]) hx hb dX0_linkOver_30 hl (by decide) rfl (fun ls hl => ?_)
    refine lv_iload hx hb dX0_linkOver_32 (lv_at hl 0 rfl) ?_
    refine n_if_ne (tgt := 39) hx hb dX0_linkOver_34 (by decide) (by omega) (fun c_34 => ?_) (fun c_34 => ?_)
    · refine lv_iload hx hb dX0_linkOver_39 (lv_at hl 1 rfl) ?_
      refine lv_aload_n hx hb dX0_linkOver_41 rfl (lv_at hl 3 rfl) ?_
      refine gt0 hx hb hts hown hC.1 hP 0 rfl 11 (by decide) qw46 rfl dX0_linkOver_42 ?_
      refine lv_iload hx hb dX0_linkOver_45 (lv_at hl 1 rfl) ?_
      refine n_iald hx hb hC.1 hP 2 0 rfl rfl (by omega) (by decide) dX0_linkOver_47 ?_
      refine w_cv (y := (nI (am w (lks w m_ k)))) (hR.a _ hs2) ?_
      refine lv_iload_n hx hb dX0_linkOver_48 rfl (lv_at hl 5 rfl) ?_
      refine lv_iload_n hx hb dX0_linkOver_49 rfl (lv_at hl 2 rfl) ?_
      refine n_idiv hx hb dX0_linkOver_50 (by omega) (by omega) (by omega) ?_
      refine lv_iload hx hb dX0_linkOver_51 (lv_at hl 0 rfl) ?_
      refine n_irem hx hb dX0_linkOver_53 (by have := Nat.div_le_self k (pc4 m_); omega) (by omega) (by omega) ?_
      refine goR (kSN (As := [.int (nI (am w (lks w m_ k))), .int (nI ((k / (pc4 m_)) % (pc4 (am w (lks w m_ k)))))]) (rest := [.int (nI (lks w m_ k))]) F (c_X2_setBit l D cI cO (am w (lks w m_ k)) ((k / (pc4 m_)) % (pc4 (am w (lks w m_ k)))) (by omega) (Nat.mod_lt _ (by omega))) ywX2_setBit (nk12 hC) qw234  ⟨rfl, rfl⟩ ⟨Nat.le_of_ble_eq_true rfl, Nat.le_of_ble_eq_true rfl⟩ (preR (fun k q h => by simp at h) hC) rfl hl.1 rfl (Nat.le_of_ble_eq_true rfl) dX0_linkOver_54 ⟨Nat.zero_le _, Nat.zero_le _⟩) (fun r_54 h_54 => ?_)
      subst h_54
      refine goR (kSN (As := [.int (nI (lks w m_ k)), .int (nI (sb4 (am w (lks w m_ k)) ((k / (pc4 m_)) % (pc4 (am w (lks w m_ k))))))]) (rest := []) F (c_X2_linkPlace l D cI cO (lks w m_ k) (sb4 (am w (lks w m_ k)) ((k / (pc4 m_)) % (pc4 (am w (lks w m_ k)))))) ywX2_linkPlace (nk9 hC) qw196  ⟨rfl, rfl⟩ ⟨Nat.le_of_ble_eq_true rfl, Nat.le_of_ble_eq_true rfl⟩ (preR (fun k q h => by simp at h) hC) rfl hl.1 rfl (Nat.le_of_ble_eq_true rfl) dX0_linkOver_57 ⟨Nat.zero_le _, Nat.zero_le _⟩) (fun r_57 h_57 => ?_)
      subst h_57
      exact hret _ _ ls (by unfold lkm; rw [if_neg (by omega)]; rfl) dX0_linkOver_60
    · exact absurd c_34 (by omega)
  · refine lv_iconst (v := (-1)) hx hb dX0_linkOver_9 (by decide) ?_
    exact hret _ _ ls (by unfold lkm; rw [if_pos (by omega)]) dX0_linkOver_10

set_option maxHeartbeats 4000000 in
set_option maxRecDepth 100000 in
theorem c_X0_linkOfStream (l : Launch) (D : va_G) (cI cO : ClassId) (h : Nat) (a : Nat → Nat) (S : Nat → Nat → Int32) (w : Nat → Int32) (c0 : Nat) (hR : RC c0 S w) (k : Nat) (hk : k < 96) : Met l yX0_linkOfStream (Cond.code yX0_linkOfStream cX0_linkOfStream 2 (some .int) :: WL) ({ frames := 3, cells := 0, slots := 0, locals := 69 } : Room) (va_Pc [.ref (h), .int (nI (k))] (PR D cI cO (stW cI h a S))) (vp_Si (fun r => r = lk w k)) 0 0 (fun _ => False) := by
  refine rd_int (by decide) (Nat.le_of_ble_eq_true rfl) ?_
  intro p e s m args below meth c Q ls F hP hC hret hl
  have hx := F.1
  have hb := F.2.1
  have hml := F.2.2.1
  have hown := F.2.2.2.1
  have hts := F.2.2.2.2
  replace hl : lv_has ls 2 [(0, .ref (h)), (1, .int (nI (k)))] := hl
  have hn4 := hR.wf.n.2
  refine lv_aload_n hx hb dX0_linkOfStream_0 rfl (lv_at hl 0 rfl) ?_
  refine lv_aload_n hx hb dX0_linkOfStream_1 rfl (lv_at hl 0 rfl) ?_
  refine lv_iload_n hx hb dX0_linkOfStream_2 rfl (lv_at hl 1 rfl) ?_
  refine lv_bipush (v := (nI (16))) hx hb dX0_linkOfStream_3 (by decide) ?_
  refine n_idiv hx hb dX0_linkOfStream_5 (by omega) (by omega) (by omega) ?_
  refine goR (kV (As := [.int (nI (k / 16))]) (rest := [.ref (h)]) F (c_X0_routesTo l D cI cO h a S w c0 hR (k / 16) (by omega)) ywX0_routesTo qw212 qw214 qs12 ⟨rfl, rfl⟩ ⟨Nat.le_of_ble_eq_true rfl, Nat.le_of_ble_eq_true rfl⟩ (preV (preR hP hC) hC hP (ci := 0) (q0 := 0) rfl rfl rfl) rfl hl.1 rfl (Nat.le_of_ble_eq_true rfl) dX0_linkOfStream_6 ⟨Nat.zero_le _, Nat.zero_le _⟩) (fun r_6 h_6 => ?_)
  subst h_6
  refine lv_iload_n hx hb dX0_linkOfStream_9 rfl (lv_at hl 1 rfl) ?_
  refine lv_bipush (v := (nI (16))) hx hb dX0_linkOfStream_10 (by decide) ?_
  refine n_irem hx hb dX0_linkOfStream_12 (by omega) (by omega) (by omega) ?_
  refine goR (kV (As := [.int (nI (rts w (k / 16))), .int (nI (k % 16))]) (rest := []) F (c_X0_linkOver l D cI cO h a S w c0 hR (rts w (k / 16)) (k % 16) (rts_lt hR.wf _) (by omega) (fun i hi ht => (rts_tb hR.wf hi ht).2)) ywX0_linkOver qw223 qw225 qs14 ⟨rfl, rfl⟩ ⟨Nat.le_of_ble_eq_true rfl, Nat.le_of_ble_eq_true rfl⟩ (preV (preR hP hC) hC hP (ci := 0) (q0 := 0) rfl rfl rfl) rfl hl.1 rfl (Nat.le_of_ble_eq_true rfl) dX0_linkOfStream_13 ⟨Nat.zero_le _, Nat.zero_le _⟩) (fun r_13 h_13 => ?_)
  subst h_13
  exact hret _ _ ls (rfl) dX0_linkOfStream_16
