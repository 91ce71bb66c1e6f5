/-- the class's values: its error counts, its State, the links before, the undo stack's next, size and states -/
abbrev CV : Type := (Int32 × Int32 × Int32) × (Nat → Nat → Int32) × (Nat → Int32) × Int32 × Int32 × (Nat → Nat → Nat → Int32)
def cvU (cI cO : ClassId) (o us rg : Nat) (g : Nat → Nat) (ga : Nat → Nat → Nat) (h : Nat) (a : Nat → Nat) (lb : Nat) (u : CV) : va_W := [(o, .inr (2, [.ref h, .ref us, .ref lb, .int u.1.1, .int u.1.2.1, .int u.1.2.2]))] ++ (usS cI cO us rg g ga u.2.2.2.1 u.2.2.2.2.1 u.2.2.2.2.2 ++ (stW cI h a u.2.1 ++ [(lb, .inl (cI, 96, .inl u.2.2.1))]))
def incE (E : Int32 × Int32 × Int32) (e : Nat) : Int32 × Int32 × Int32 := match e with
  | 0 => (E.1 + nI 1, E.2.1, E.2.2)
  | 1 => (E.1, E.2.1 + nI 1, E.2.2)
  | _ => (E.1, E.2.1, E.2.2 + nI 1)
def nxC (c x z : Nat) (E : Int32 × Int32 × Int32) (G : Nat → Nat → Nat → Int32) (w : Nat → Int32) (o : OP) (u : CV) : Prop :=
  (o.2.1 = 0 → u.1 = E ∧ RC c u.2.1 w ∧ u.2.2.2 = (nI x, nI z, G)) ∧
  (o.2.1 = 1 → u.1 = E ∧ RC (c + 1) u.2.1 o.2.2 ∧ u.2.2.2.1 = nI ((x + 1) % 4) ∧ u.2.2.2.2.1 = nI (min (z + 1) 4) ∧ ∃ T, RC c T w ∧ u.2.2.2.2.2 = va_up G x T) ∧
  (∀ e, o.2.1 = e + 2 → u.1 = incE E e ∧ RC c u.2.1 w ∧ u.2.2.2 = (nI x, nI z, G))
section NC
variable {c x z : Nat} {E : Int32 × Int32 × Int32} {G : Nat → Nat → Nat → Int32} {w r B : Nat → Int32} {o : OP} {a : Int32} {S : Nat → Nat → Int32}
theorem nxC_0 {nx sz : Int32} (hop : o = (a, 0, r)) (hR : RC c S w) (hnx : nx = nI x) (hsz : sz = nI z) : nxC c x z E G w o (E, S, B, nx, sz, G) := by
  subst hop hnx hsz
  exact ⟨fun _ => ⟨rfl, hR, rfl⟩, fun e => absurd e (by simp), fun e h => absurd h (by simp)⟩
theorem nxC_1 {nx sz : Int32} {G2 : Nat → Nat → Nat → Int32} {S1 : Nat → Nat → Int32} (hop : o = (a, 1, r)) (hR : RC (c + 1) S1 r) (hR0 : RC c S w) (h : (∃ T, CPY T S ∧ G2 = va_up G x T) ∧ nx = nI ((x + 1) % 4) ∧ sz = nI (min (z + 1) 4)) : nxC c x z E G w o (E, S1, B, nx, sz, G2) := by
  subst hop
  obtain ⟨⟨T, h1, h2⟩, h3, h4⟩ := h
  exact ⟨fun e => absurd e (by simp), fun _ => ⟨rfl, hR, h3, h4, T, RC_cpy h1 hR0, h2⟩, fun e h => absurd h (by simp)⟩
theorem nxC_e {nx sz : Int32} {e : Nat} {E2 : Int32 × Int32 × Int32} (hop : o = (a, e + 2, r)) (he : E2 = incE E e) (hR : RC c S w) (hnx : nx = nI x) (hsz : sz = nI z) : nxC c x z E G w o (E2, S, B, nx, sz, G) := by
  subst hop hnx hsz
  refine ⟨fun h => absurd h (by simp), fun h => absurd h (by simp), fun e' h => ?_⟩
  have h2 : e = e' := by simpa using h
  subst h2
  exact ⟨he, hR, rfl⟩
end NC
set_option maxHeartbeats 4000000 in
set_option maxRecDepth 100000 in
theorem c_X2_invalid (l : Launch) (D : va_G) (cI cO : ClassId) (sz : Nat) (o hn us lb : Nat) (e0 e1 e2 : Int32)  : Met l yX2_invalid (Cond.code yX2_invalid cX2_invalid 1 (some .int) :: WL) ({ frames := 0, cells := 0, slots := 0, locals := 0 } : Room) (va_Pc [.ref (o)] (PW D cI cO ([(o, .inr (2, [.ref (hn), .ref (us), .ref (lb), .int e0, .int e1, .int e2]))]) sz)) (va_Qi (fun (r : Int32) (u : Int32) => r = -2 ∧ u = e0 + nI 1) (QB D ([(o, .inr (2, [.ref (hn), .ref (us), .ref (lb), .int e0, .int e1, .int e2]))]) sz (fun (u : Int32) => [(o, .inr (2, [.ref (hn), .ref (us), .ref (lb), .int u, .int e1, .int e2]))])) (va_A ([(o, .inr (2, [.ref (hn), .ref (us), .ref (lb), .int e0, .int e1, .int e2]))]) sz)) 0 0 (va_A ([(o, .inr (2, [.ref (hn), .ref (us), .ref (lb), .int e0, .int e1, .int e2]))]) sz) := by
  refine wr_int (by decide) (Nat.le_of_ble_eq_true rfl) ?_
  intro p e s m args below meth c Q ls A F hP hC hD hA hret hl
  have hx := F.1
  have hb := F.2.1
  have hml := F.2.2.1
  have hown := F.2.2.2.1
  have hts := F.2.2.2.2
  replace hl : lv_has ls 1 [(0, .ref (o))] := hl
  have hS : va_S A s.heap s.heap [] := va_S.rf
  refine lv_aload_n hx hb dX2_invalid_0 rfl (lv_at hl 0 rfl) ?_
  refine lv_dup hx hb dX2_invalid_1 rfl ?_
  refine gt2 hx hb hts hown hC.1 hP 0 rfl 3 (by decide) qw121 rfl dX2_invalid_2 ?_
  refine lv_iconst (v := (nI (1))) hx hb dX2_invalid_5 (by decide) ?_
  refine lv_iadd hx hb dX2_invalid_6  ?_
  refine pt2 (ty := .int) hx hb hts hown hC.1 hP hD hS 0 rfl 3 (by decide) qw121 rfl (by decide +kernel) rfl rfl (Nat.le_of_ble_eq_true rfl) dX2_invalid_7 (fun H locs hP hD hS => ?_)
  replace hP : va_P D vwCl ([(o, .inr (2, [.ref (hn), .ref (us), .ref (lb), .int (((e0) + (nI (1)))), .int e1, .int e2]))]) H := by exact hP
  replace hD : va_D A ([(o, .inr (2, [.ref (hn), .ref (us), .ref (lb), .int (((e0) + (nI (1)))), .int e1, .int e2]))]) := by exact hD
  refine lv_bipush (v := (-2)) hx hb dX2_invalid_10 (by decide) ?_
  exact hret _ (((e0) + (nI (1)))) _ ls _ _ (⟨rfl, rfl⟩) hP hD hS dX2_invalid_12

set_option maxHeartbeats 4000000 in
set_option maxRecDepth 100000 in
theorem c_X2_rejected (l : Launch) (D : va_G) (cI cO : ClassId) (sz : Nat) (o hn us lb : Nat) (e0 e1 e2 : Int32)  : Met l yX2_rejected (Cond.code yX2_rejected cX2_rejected 1 (some .int) :: WL) ({ frames := 0, cells := 0, slots := 0, locals := 0 } : Room) (va_Pc [.ref (o)] (PW D cI cO ([(o, .inr (2, [.ref (hn), .ref (us), .ref (lb), .int e0, .int e1, .int e2]))]) sz)) (va_Qi (fun (r : Int32) (u : Int32) => r = -3 ∧ u = e1 + nI 1) (QB D ([(o, .inr (2, [.ref (hn), .ref (us), .ref (lb), .int e0, .int e1, .int e2]))]) sz (fun (u : Int32) => [(o, .inr (2, [.ref (hn), .ref (us), .ref (lb), .int e0, .int u, .int e2]))])) (va_A ([(o, .inr (2, [.ref (hn), .ref (us), .ref (lb), .int e0, .int e1, .int e2]))]) sz)) 0 0 (va_A ([(o, .inr (2, [.ref (hn), .ref (us), .ref (lb), .int e0, .int e1, .int e2]))]) sz) := by
  refine wr_int (by decide) (Nat.le_of_ble_eq_true rfl) ?_
  intro p e s m args below meth c Q ls A F hP hC hD hA hret hl
  have hx := F.1
  have hb := F.2.1
  have hml := F.2.2.1
  have hown := F.2.2.2.1
  have hts := F.2.2.2.2
  replace hl : lv_has ls 1 [(0, .ref (o))] := hl
  have hS : va_S A s.heap s.heap [] := va_S.rf
  refine lv_aload_n hx hb dX2_rejected_0 rfl (lv_at hl 0 rfl) ?_
  refine lv_dup hx hb dX2_rejected_1 rfl ?_
  refine gt2 hx hb hts hown hC.1 hP 0 rfl 4 (by decide) qw122 rfl dX2_rejected_2 ?_
  refine lv_iconst (v := (nI (1))) hx hb dX2_rejected_5 (by decide) ?_
  refine lv_iadd hx hb dX2_rejected_6  ?_
  refine pt2 (ty := .int) hx hb hts hown hC.1 hP hD hS 0 rfl 4 (by decide) qw122 rfl (by decide +kernel) rfl rfl (Nat.le_of_ble_eq_true rfl) dX2_rejected_7 (fun H locs hP hD hS => ?_)
  replace hP : va_P D vwCl ([(o, .inr (2, [.ref (hn), .ref (us), .ref (lb), .int e0, .int (((e1) + (nI (1)))), .int e2]))]) H := by exact hP
  replace hD : va_D A ([(o, .inr (2, [.ref (hn), .ref (us), .ref (lb), .int e0, .int (((e1) + (nI (1)))), .int e2]))]) := by exact hD
  refine lv_bipush (v := (-3)) hx hb dX2_rejected_10 (by decide) ?_
  exact hret _ (((e1) + (nI (1)))) _ ls _ _ (⟨rfl, rfl⟩) hP hD hS dX2_rejected_12

set_option maxHeartbeats 4000000 in
set_option maxRecDepth 100000 in
theorem c_X2_full (l : Launch) (D : va_G) (cI cO : ClassId) (sz : Nat) (o hn us lb : Nat) (e0 e1 e2 : Int32)  : Met l yX2_full (Cond.code yX2_full cX2_full 1 (some .int) :: WL) ({ frames := 0, cells := 0, slots := 0, locals := 0 } : Room) (va_Pc [.ref (o)] (PW D cI cO ([(o, .inr (2, [.ref (hn), .ref (us), .ref (lb), .int e0, .int e1, .int e2]))]) sz)) (va_Qi (fun (r : Int32) (u : Int32) => r = -4 ∧ u = e2 + nI 1) (QB D ([(o, .inr (2, [.ref (hn), .ref (us), .ref (lb), .int e0, .int e1, .int e2]))]) sz (fun (u : Int32) => [(o, .inr (2, [.ref (hn), .ref (us), .ref (lb), .int e0, .int e1, .int u]))])) (va_A ([(o, .inr (2, [.ref (hn), .ref (us), .ref (lb), .int e0, .int e1, .int e2]))]) sz)) 0 0 (va_A ([(o, .inr (2, [.ref (hn), .ref (us), .ref (lb), .int e0, .int e1, .int e2]))]) sz) := by
  refine wr_int (by decide) (Nat.le_of_ble_eq_true rfl) ?_
  intro p e s m args below meth c Q ls A F hP hC hD hA hret hl
  have hx := F.1
  have hb := F.2.1
  have hml := F.2.2.1
  have hown := F.2.2.2.1
  have hts := F.2.2.2.2
  replace hl : lv_has ls 1 [(0, .ref (o))] := hl
  have hS : va_S A s.heap s.heap [] := va_S.rf
  refine lv_aload_n hx hb dX2_full_0 rfl (lv_at hl 0 rfl) ?_
  refine lv_dup hx hb dX2_full_1 rfl ?_
  refine gt2 hx hb hts hown hC.1 hP 0 rfl 5 (by decide) qw123 rfl dX2_full_2 ?_
  refine lv_iconst (v := (nI (1))) hx hb dX2_full_5 (by decide) ?_
  refine lv_iadd hx hb dX2_full_6  ?_
  refine pt2 (ty := .int) hx hb hts hown hC.1 hP hD hS 0 rfl 5 (by decide) qw123 rfl (by decide +kernel) rfl rfl (Nat.le_of_ble_eq_true rfl) dX2_full_7 (fun H locs hP hD hS => ?_)
  replace hP : va_P D vwCl ([(o, .inr (2, [.ref (hn), .ref (us), .ref (lb), .int e0, .int e1, .int (((e2) + (nI (1))))]))]) H := by exact hP
  replace hD : va_D A ([(o, .inr (2, [.ref (hn), .ref (us), .ref (lb), .int e0, .int e1, .int (((e2) + (nI (1))))]))]) := by exact hD
  refine lv_bipush (v := (-4)) hx hb dX2_full_10 (by decide) ?_
  exact hret _ (((e2) + (nI (1)))) _ ls _ _ (⟨rfl, rfl⟩) hP hD hS dX2_full_12

set_option maxHeartbeats 4000000 in
set_option maxRecDepth 100000 in
theorem c_X2_queueLength (l : Launch) (D : va_G) (cI cO : ClassId) (sz : Nat) (o us rg : Nat) (g : Nat → Nat) (ga : Nat → Nat → Nat) (h : Nat) (a : Nat → Nat) (lb : Nat) (e0 e1 e2 : Int32) (G : Nat → Nat → Nat → Int32) (S : Nat → Nat → Int32) (B : Nat → Int32) (w : Nat → Int32) (c0 : Nat) (hR : RC c0 S w) (x_ z_ : Nat) (hx4 : x_ < 4) (hz : z_ ≤ 4) (hc9 : c0 < 900) (x y : Int32) : Met l yX2_queueLength (Cond.code yX2_queueLength cX2_queueLength 3 (some .int) :: WL) ({ frames := 2, cells := 0, slots := 0, locals := 43 } : Room) (va_Pc [.ref (o), .int (x), .int (y)] (PW D cI cO ([(o, .inr (2, [.ref (h), .ref (us), .ref (lb), .int e0, .int e1, .int e2]))] ++ (usS cI cO us rg g ga ((nI (x_))) ((nI (z_))) G ++ (stW cI h a S ++ ([(lb, .inl (cI, 96, .inl B))])))) sz)) (va_Qi (fun (r : Int32) (u : CV) => r = (oQl w x y).1 ∧ nxC c0 x_ z_ (e0, e1, e2) G w (oQl w x y) u) (QB D ([(o, .inr (2, [.ref (h), .ref (us), .ref (lb), .int e0, .int e1, .int e2]))] ++ (usS cI cO us rg g ga ((nI (x_))) ((nI (z_))) G ++ (stW cI h a S ++ ([(lb, .inl (cI, 96, .inl B))])))) sz (fun (u : CV) => cvU cI cO o us rg g ga h a lb u)) (va_A ([(o, .inr (2, [.ref (h), .ref (us), .ref (lb), .int e0, .int e1, .int e2]))] ++ (usS cI cO us rg g ga ((nI (x_))) ((nI (z_))) G ++ (stW cI h a S ++ ([(lb, .inl (cI, 96, .inl B))])))) sz)) 0 0 (va_A ([(o, .inr (2, [.ref (h), .ref (us), .ref (lb), .int e0, .int e1, .int e2]))] ++ (usS cI cO us rg g ga ((nI (x_))) ((nI (z_))) G ++ (stW cI h a S ++ ([(lb, .inl (cI, 96, .inl B))])))) sz) := by
  refine wr_int (by decide) (Nat.le_of_ble_eq_true rfl) ?_
  intro p e s m args below meth c Q ls A F hP hC hD hA hret hl
  have hx := F.1
  have hb := F.2.1
  have hml := F.2.2.1
  have hown := F.2.2.2.1
  have hts := F.2.2.2.2
  replace hl : lv_has ls 3 [(0, .ref (o)), (1, .int (x)), (2, .int (y))] := hl
  have hS : va_S A s.heap s.heap [] := va_S.rf
  have hn4 := hR.wf.n.2
  have hc : c0 < 1000 := by omega
  refine lv_aload_n hx hb dX2_queueLength_0 rfl (lv_at hl 0 rfl) ?_
  refine gt2 hx hb hts hown hC.1 hP 0 rfl 0 (by decide) qw118 rfl dX2_queueLength_1 ?_
  refine lv_iload_n hx hb dX2_queueLength_4 rfl (lv_at hl 1 rfl) ?_
  refine lv_iload_n hx hb dX2_queueLength_5 rfl (lv_at hl 2 rfl) ?_
  refine goR (kVN (As := [.int (x), .int (y)]) (rest := []) F (c_X0_hasLink l D cI cO h a S w c0 hR (x) (y)) ywX0_hasLink (nk6 hC) qw177 qs5 ⟨rfl, rfl⟩ ⟨Nat.le_of_ble_eq_true rfl, Nat.le_of_ble_eq_true rfl⟩ (preV (preR (va_pl0 (va_pr0 (va_pr0 hP))) hC) hC hP (ci := 0) (q0 := 43) rfl rfl rfl) rfl hl.1 rfl (Nat.le_of_ble_eq_true rfl) dX2_queueLength_6 ⟨Nat.zero_le _, Nat.zero_le _⟩) (fun r_6 h_6 => ?_)
  rcases h_6 with ⟨rfl, h_6⟩ | ⟨rfl, h_6⟩
  · obtain ⟨i, hi, rfl, l_, hl_, rfl⟩ := id h_6
    have hi4 : i < 4 := by omega
    have hm4 := (hR.wf.m i hi4).2
    have hpl : pl (nI i) (nI l_) = 4 * i + l_ := pl_nI (by omega) (by omega)
    have hv : (4 * i + l_) < 16 := by omega
    have hl10 := (hR.wf.l (4 * i + l_) hv).2
    have hVe : i * 4 + l_ = 4 * i + l_ := by omega
    have hop : oQl w (nI i) (nI l_) = (nI (le w (4 * i + l_)), 0, w) := by unfold oQl; rw [itc_t h_6, hpl]
    refine n_if_ne (tgt := 17) hx hb dX2_queueLength_9 (by decide) (by omega) (fun _ => ?_) (fun h => absurd h (by decide))
    refine lv_aload_n hx hb dX2_queueLength_17 rfl (lv_at hl 0 rfl) ?_
    refine gt2 hx hb hts hown hC.1 hP 0 rfl 0 (by decide) qw118 rfl dX2_queueLength_18 ?_
    refine gtN0 hx hb hts hown hC.1 hP 43 rfl 12 (by decide) (nf9 hC) rfl dX2_queueLength_21 ?_
    refine lv_iload_n hx hb dX2_queueLength_24 rfl (lv_at hl 1 rfl) ?_
    refine lv_iload_n hx hb dX2_queueLength_25 rfl (lv_at hl 2 rfl) ?_
    refine goR (kS (As := [.int (nI (i)), .int (nI (l_))]) (rest := [.ref (a 2)]) F (c_X2_linkPlace l D cI cO (i) (l_)) ywX2_linkPlace qw256 qw196  ⟨rfl, rfl⟩ ⟨Nat.le_of_ble_eq_true rfl, Nat.le_of_ble_eq_true rfl⟩ (preR (fun k q h => by simp at h) hC) rfl hl.1 rfl (Nat.le_of_ble_eq_true rfl) dX2_queueLength_26 ⟨Nat.zero_le _, Nat.zero_le _⟩) (fun r_26 h_26 => ?_)
    subst h_26
    refine n_iald hx hb hC.1 hP 46 0 rfl rfl (by omega) (by decide) dX2_queueLength_29 ?_
    refine w_cv (y := (nI (le w (4 * i + l_)))) ((hR.l (i * 4 + l_) (by omega)).trans (by rw [hVe])) ?_
    exact hret _ (((e0, e1, e2), S, B, (nI (x_)), (nI (z_)), G)) _ ls _ _ (⟨(congrArg Prod.fst hop).symm, nxC_0 hop hR rfl rfl⟩) hP hD hS dX2_queueLength_30
  · have hop : oQl w x y = (-2, 2, w) := itc_f h_6
    refine n_if_ne (tgt := 17) hx hb dX2_queueLength_9 (by decide) (by omega) (fun h => absurd h (by decide)) (fun _ => ?_)
    refine lv_aload_n hx hb dX2_queueLength_12 rfl (lv_at hl 0 rfl) ?_
    refine goWi (pre := []) (wc := [(o, .inr (2, [.ref (h), .ref (us), .ref (lb), .int e0, .int e1, .int e2]))]) (suf := usS cI cO us rg g ga ((nI (x_))) ((nI (z_))) G ++ (stW cI h a S ++ ([(lb, .inl (cI, 96, .inl B))]))) (kV (As := []) (rest := []) F (c_X2_invalid l D cI cO _ o h us lb e0 e1 e2) ywX2_invalid qw141 qw143 qs0 ⟨rfl, rfl⟩ ⟨Nat.le_of_ble_eq_true rfl, Nat.le_of_ble_eq_true rfl⟩ (preV (preW (va_pl0 hP) hC (va_dl hD)) hC hP (ci := 2) (q0 := 0) rfl rfl rfl) rfl hl.1 rfl (Nat.le_of_ble_eq_true rfl) dX2_queueLength_13 ⟨Nat.zero_le _, Nat.zero_le _⟩) (by simpa only [List.append_assoc, List.nil_append, List.append_nil] using hP) (by simpa only [List.append_assoc, List.nil_append, List.append_nil] using hD) hS hA (fun r_13 e_1 H locs h_13 hP hD hS => ?_)
    replace hP : va_P D vwCl ([(o, .inr (2, [.ref (h), .ref (us), .ref (lb), .int e_1, .int e1, .int e2]))] ++ (usS cI cO us rg g ga ((nI (x_))) ((nI (z_))) G ++ (stW cI h a S ++ ([(lb, .inl (cI, 96, .inl B))])))) H := by simpa only [List.append_assoc, List.nil_append, List.append_nil] using hP
    replace hD : va_D A ([(o, .inr (2, [.ref (h), .ref (us), .ref (lb), .int e_1, .int e1, .int e2]))] ++ (usS cI cO us rg g ga ((nI (x_))) ((nI (z_))) G ++ (stW cI h a S ++ ([(lb, .inl (cI, 96, .inl B))])))) := by simpa only [List.append_assoc, List.nil_append, List.append_nil] using hD
    obtain ⟨h_13, k_13⟩ := h_13
    subst h_13
    exact hret _ (((e_1, e1, e2), S, B, (nI (x_)), (nI (z_)), G)) _ ls _ _ (⟨(congrArg Prod.fst hop).symm, nxC_e (e := 0) hop (by rw [k_13]; rfl) hR rfl rfl⟩) hP hD hS dX2_queueLength_16

set_option maxHeartbeats 4000000 in
set_option maxRecDepth 100000 in
theorem c_X2_congestion (l : Launch) (D : va_G) (cI cO : ClassId) (sz : Nat) (o us rg : Nat) (g : Nat → Nat) (ga : Nat → Nat → Nat) (h : Nat) (a : Nat → Nat) (lb : Nat) (e0 e1 e2 : Int32) (G : Nat → Nat → Nat → Int32) (S : Nat → Nat → Int32) (B : Nat → Int32) (w : Nat → Int32) (c0 : Nat) (hR : RC c0 S w) (x_ z_ : Nat) (hx4 : x_ < 4) (hz : z_ ≤ 4) (hc9 : c0 < 900) (x y : Int32) : Met l yX2_congestion (Cond.code yX2_congestion cX2_congestion 3 (some .int) :: WL) ({ frames := 2, cells := 0, slots := 0, locals := 43 } : Room) (va_Pc [.ref (o), .int (x), .int (y)] (PW D cI cO ([(o, .inr (2, [.ref (h), .ref (us), .ref (lb), .int e0, .int e1, .int e2]))] ++ (usS cI cO us rg g ga ((nI (x_))) ((nI (z_))) G ++ (stW cI h a S ++ ([(lb, .inl (cI, 96, .inl B))])))) sz)) (va_Qi (fun (r : Int32) (u : CV) => r = (oCg w x y).1 ∧ nxC c0 x_ z_ (e0, e1, e2) G w (oCg w x y) u) (QB D ([(o, .inr (2, [.ref (h), .ref (us), .ref (lb), .int e0, .int e1, .int e2]))] ++ (usS cI cO us rg g ga ((nI (x_))) ((nI (z_))) G ++ (stW cI h a S ++ ([(lb, .inl (cI, 96, .inl B))])))) sz (fun (u : CV) => cvU cI cO o us rg g ga h a lb u)) (va_A ([(o, .inr (2, [.ref (h), .ref (us), .ref (lb), .int e0, .int e1, .int e2]))] ++ (usS cI cO us rg g ga ((nI (x_))) ((nI (z_))) G ++ (stW cI h a S ++ ([(lb, .inl (cI, 96, .inl B))])))) sz)) 0 0 (va_A ([(o, .inr (2, [.ref (h), .ref (us), .ref (lb), .int e0, .int e1, .int e2]))] ++ (usS cI cO us rg g ga ((nI (x_))) ((nI (z_))) G ++ (stW cI h a S ++ ([(lb, .inl (cI, 96, .inl B))])))) sz) := by
  refine wr_int (by decide) (Nat.le_of_ble_eq_true rfl) ?_
  intro p e s m args below meth c Q ls A F hP hC hD hA hret hl
  have hx := F.1
  have hb := F.2.1
  have hml := F.2.2.1
  have hown := F.2.2.2.1
  have hts := F.2.2.2.2
  replace hl : lv_has ls 3 [(0, .ref (o)), (1, .int (x)), (2, .int (y))] := hl
  have hS : va_S A s.heap s.heap [] := va_S.rf
  have hn4 := hR.wf.n.2
  have hc : c0 < 1000 := by omega
  refine lv_aload_n hx hb dX2_congestion_0 rfl (lv_at hl 0 rfl) ?_
  refine gt2 hx hb hts hown hC.1 hP 0 rfl 0 (by decide) qw118 rfl dX2_congestion_1 ?_
  refine lv_iload_n hx hb dX2_congestion_4 rfl (lv_at hl 1 rfl) ?_
  refine lv_iload_n hx hb dX2_congestion_5 rfl (lv_at hl 2 rfl) ?_
  refine goR (kVN (As := [.int (x), .int (y)]) (rest := []) F (c_X0_hasLink l D cI cO h a S w c0 hR (x) (y)) ywX0_hasLink (nk6 hC) qw177 qs5 ⟨rfl, rfl⟩ ⟨Nat.le_of_ble_eq_true rfl, Nat.le_of_ble_eq_true rfl⟩ (preV (preR (va_pl0 (va_pr0 (va_pr0 hP))) hC) hC hP (ci := 0) (q0 := 43) rfl rfl rfl) rfl hl.1 rfl (Nat.le_of_ble_eq_true rfl) dX2_congestion_6 ⟨Nat.zero_le _, Nat.zero_le _⟩) (fun r_6 h_6 => ?_)
  rcases h_6 with ⟨rfl, h_6⟩ | ⟨rfl, h_6⟩
  · obtain ⟨i, hi, rfl, l_, hl_, rfl⟩ := id h_6
    have hi4 : i < 4 := by omega
    have hm4 := (hR.wf.m i hi4).2
    have hpl : pl (nI i) (nI l_) = 4 * i + l_ := pl_nI (by omega) (by omega)
    have hv : (4 * i + l_) < 16 := by omega
    have hl10 := (hR.wf.l (4 * i + l_) hv).2
    have hVe : i * 4 + l_ = 4 * i + l_ := by omega
    have hop : oCg w (nI i) (nI l_) = (nI (lvl (le w (4 * i + l_))), 0, w) := by unfold oCg; rw [itc_t h_6, hpl]
    refine n_if_ne (tgt := 17) hx hb dX2_congestion_9 (by decide) (by omega) (fun _ => ?_) (fun h => absurd h (by decide))
    refine lv_aload_n hx hb dX2_congestion_17 rfl (lv_at hl 0 rfl) ?_
    refine gt2 hx hb hts hown hC.1 hP 0 rfl 0 (by decide) qw118 rfl dX2_congestion_18 ?_
    refine lv_iload_n hx hb dX2_congestion_21 rfl (lv_at hl 1 rfl) ?_
    refine lv_iload_n hx hb dX2_congestion_22 rfl (lv_at hl 2 rfl) ?_
    refine goR (kS (As := [.int (nI (i)), .int (nI (l_))]) (rest := [.ref (h)]) F (c_X2_linkPlace l D cI cO (i) (l_)) ywX2_linkPlace qw256 qw196  ⟨rfl, rfl⟩ ⟨Nat.le_of_ble_eq_true rfl, Nat.le_of_ble_eq_true rfl⟩ (preR (fun k q h => by simp at h) hC) rfl hl.1 rfl (Nat.le_of_ble_eq_true rfl) dX2_congestion_23 ⟨Nat.zero_le _, Nat.zero_le _⟩) (fun r_23 h_23 => ?_)
    subst h_23
    refine goR (kVN (As := [.int (nI (i * 4 + l_))]) (rest := []) F (c_X0_congestionLevel l D cI cO h a S w c0 hR (i * 4 + l_) (by omega)) ywX0_congestionLevel (nk18 hC) qw286 qs20 ⟨rfl, rfl⟩ ⟨Nat.le_of_ble_eq_true rfl, Nat.le_of_ble_eq_true rfl⟩ (preV (preR (va_pl0 (va_pr0 (va_pr0 hP))) hC) hC hP (ci := 0) (q0 := 43) rfl rfl rfl) rfl hl.1 rfl (Nat.le_of_ble_eq_true rfl) dX2_congestion_26 ⟨Nat.zero_le _, Nat.zero_le _⟩) (fun r_26 h_26 => ?_)
    subst h_26
    refine w_cv (y := (nI (lvl (le w (4 * i + l_))))) (by rw [hVe]) ?_
    exact hret _ (((e0, e1, e2), S, B, (nI (x_)), (nI (z_)), G)) _ ls _ _ (⟨(congrArg Prod.fst hop).symm, nxC_0 hop hR rfl rfl⟩) hP hD hS dX2_congestion_29
  · have hop : oCg w x y = (-2, 2, w) := itc_f h_6
    refine n_if_ne (tgt := 17) hx hb dX2_congestion_9 (by decide) (by omega) (fun h => absurd h (by decide)) (fun _ => ?_)
    refine lv_aload_n hx hb dX2_congestion_12 rfl (lv_at hl 0 rfl) ?_
    refine goWi (pre := []) (wc := [(o, .inr (2, [.ref (h), .ref (us), .ref (lb), .int e0, .int e1, .int e2]))]) (suf := usS cI cO us rg g ga ((nI (x_))) ((nI (z_))) G ++ (stW cI h a S ++ ([(lb, .inl (cI, 96, .inl B))]))) (kV (As := []) (rest := []) F (c_X2_invalid l D cI cO _ o h us lb e0 e1 e2) ywX2_invalid qw141 qw143 qs0 ⟨rfl, rfl⟩ ⟨Nat.le_of_ble_eq_true rfl, Nat.le_of_ble_eq_true rfl⟩ (preV (preW (va_pl0 hP) hC (va_dl hD)) hC hP (ci := 2) (q0 := 0) rfl rfl rfl) rfl hl.1 rfl (Nat.le_of_ble_eq_true rfl) dX2_congestion_13 ⟨Nat.zero_le _, Nat.zero_le _⟩) (by simpa only [List.append_assoc, List.nil_append, List.append_nil] using hP) (by simpa only [List.append_assoc, List.nil_append, List.append_nil] using hD) hS hA (fun r_13 e_1 H locs h_13 hP hD hS => ?_)
    replace hP : va_P D vwCl ([(o, .inr (2, [.ref (h), .ref (us), .ref (lb), .int e_1, .int e1, .int e2]))] ++ (usS cI cO us rg g ga ((nI (x_))) ((nI (z_))) G ++ (stW cI h a S ++ ([(lb, .inl (cI, 96, .inl B))])))) H := by simpa only [List.append_assoc, List.nil_append, List.append_nil] using hP
    replace hD : va_D A ([(o, .inr (2, [.ref (h), .ref (us), .ref (lb), .int e_1, .int e1, .int e2]))] ++ (usS cI cO us rg g ga ((nI (x_))) ((nI (z_))) G ++ (stW cI h a S ++ ([(lb, .inl (cI, 96, .inl B))])))) := by simpa only [List.append_assoc, List.nil_append, List.append_nil] using hD
    obtain ⟨h_13, k_13⟩ := h_13
    subst h_13
    exact hret _ (((e_1, e1, e2), S, B, (nI (x_)), (nI (z_)), G)) _ ls _ _ (⟨(congrArg Prod.fst hop).symm, nxC_e (e := 0) hop (by rw [k_13]; rfl) hR rfl rfl⟩) hP hD hS dX2_congestion_16

set_option maxHeartbeats 4000000 in
set_option maxRecDepth 100000 in
theorem c_X2_isActive (l : Launch) (D : va_G) (cI cO : ClassId) (sz : Nat) (o us rg : Nat) (g : Nat → Nat) (ga : Nat → Nat → Nat) (h : Nat) (a : Nat → Nat) (lb : Nat) (e0 e1 e2 : Int32) (G : Nat → Nat → Nat → Int32) (S : Nat → Nat → Int32) (B : Nat → Int32) (w : Nat → Int32) (c0 : Nat) (hR : RC c0 S w) (x_ z_ : Nat) (hx4 : x_ < 4) (hz : z_ ≤ 4) (hc9 : c0 < 900) (x y : Int32) : Met l yX2_isActive (Cond.code yX2_isActive cX2_isActive 3 (some .int) :: WL) ({ frames := 2, cells := 0, slots := 0, locals := 43 } : Room) (va_Pc [.ref (o), .int (x), .int (y)] (PW D cI cO ([(o, .inr (2, [.ref (h), .ref (us), .ref (lb), .int e0, .int e1, .int e2]))] ++ (usS cI cO us rg g ga ((nI (x_))) ((nI (z_))) G ++ (stW cI h a S ++ ([(lb, .inl (cI, 96, .inl B))])))) sz)) (va_Qi (fun (r : Int32) (u : CV) => r = (oAc w x y).1 ∧ nxC c0 x_ z_ (e0, e1, e2) G w (oAc w x y) u) (QB D ([(o, .inr (2, [.ref (h), .ref (us), .ref (lb), .int e0, .int e1, .int e2]))] ++ (usS cI cO us rg g ga ((nI (x_))) ((nI (z_))) G ++ (stW cI h a S ++ ([(lb, .inl (cI, 96, .inl B))])))) sz (fun (u : CV) => cvU cI cO o us rg g ga h a lb u)) (va_A ([(o, .inr (2, [.ref (h), .ref (us), .ref (lb), .int e0, .int e1, .int e2]))] ++ (usS cI cO us rg g ga ((nI (x_))) ((nI (z_))) G ++ (stW cI h a S ++ ([(lb, .inl (cI, 96, .inl B))])))) sz)) 0 0 (va_A ([(o, .inr (2, [.ref (h), .ref (us), .ref (lb), .int e0, .int e1, .int e2]))] ++ (usS cI cO us rg g ga ((nI (x_))) ((nI (z_))) G ++ (stW cI h a S ++ ([(lb, .inl (cI, 96, .inl B))])))) sz) := by
  refine wr_int (by decide) (Nat.le_of_ble_eq_true rfl) ?_
  intro p e s m args below meth c Q ls A F hP hC hD hA hret hl
  have hx := F.1
  have hb := F.2.1
  have hml := F.2.2.1
  have hown := F.2.2.2.1
  have hts := F.2.2.2.2
  replace hl : lv_has ls 3 [(0, .ref (o)), (1, .int (x)), (2, .int (y))] := hl
  have hS : va_S A s.heap s.heap [] := va_S.rf
  have hn4 := hR.wf.n.2
  have hc : c0 < 1000 := by omega
  refine lv_aload_n hx hb dX2_isActive_0 rfl (lv_at hl 0 rfl) ?_
  refine gt2 hx hb hts hown hC.1 hP 0 rfl 0 (by decide) qw118 rfl dX2_isActive_1 ?_
  refine lv_iload_n hx hb dX2_isActive_4 rfl (lv_at hl 1 rfl) ?_
  refine lv_iload_n hx hb dX2_isActive_5 rfl (lv_at hl 2 rfl) ?_
  refine goR (kVN (As := [.int (x), .int (y)]) (rest := []) F (c_X0_hasLink l D cI cO h a S w c0 hR (x) (y)) ywX0_hasLink (nk6 hC) qw177 qs5 ⟨rfl, rfl⟩ ⟨Nat.le_of_ble_eq_true rfl, Nat.le_of_ble_eq_true rfl⟩ (preV (preR (va_pl0 (va_pr0 (va_pr0 hP))) hC) hC hP (ci := 0) (q0 := 43) rfl rfl rfl) rfl hl.1 rfl (Nat.le_of_ble_eq_true rfl) dX2_isActive_6 ⟨Nat.zero_le _, Nat.zero_le _⟩) (fun r_6 h_6 => ?_)
  rcases h_6 with ⟨rfl, h_6⟩ | ⟨rfl, h_6⟩
  · obtain ⟨i, hi, rfl, l_, hl_, rfl⟩ := id h_6
    have hi4 : i < 4 := by omega
    have hm4 := (hR.wf.m i hi4).2
    have hpl : pl (nI i) (nI l_) = 4 * i + l_ := pl_nI (by omega) (by omega)
    have hv : (4 * i + l_) < 16 := by omega
    have hl10 := (hR.wf.l (4 * i + l_) hv).2
    have hVe : i * 4 + l_ = 4 * i + l_ := by omega
    have hop0 : oAc w (nI i) (nI l_) = (nI (ac w (4 * i + l_)), 0, w) := by unfold oAc; rw [itc_t h_6, hpl]
    refine n_if_ne (tgt := 17) hx hb dX2_isActive_9 (by decide) (by omega) (fun _ => ?_) (fun h => absurd h (by decide))
    refine lv_aload_n hx hb dX2_isActive_17 rfl (lv_at hl 0 rfl) ?_
    refine gt2 hx hb hts hown hC.1 hP 0 rfl 0 (by decide) qw118 rfl dX2_isActive_18 ?_
    refine lv_iload_n hx hb dX2_isActive_21 rfl (lv_at hl 1 rfl) ?_
    refine lv_iload_n hx hb dX2_isActive_22 rfl (lv_at hl 2 rfl) ?_
    refine goR (kVN (As := [.int (nI (i)), .int (nI (l_))]) (rest := []) F (c_X0_linkWorks l D cI cO h a S w c0 hR (i) (l_) (by omega) (by omega)) ywX0_linkWorks (nk7 hC) qw185 qs7 ⟨rfl, rfl⟩ ⟨Nat.le_of_ble_eq_true rfl, Nat.le_of_ble_eq_true rfl⟩ (preV (preR (va_pl0 (va_pr0 (va_pr0 hP))) hC) hC hP (ci := 0) (q0 := 43) rfl rfl rfl) rfl hl.1 rfl (Nat.le_of_ble_eq_true rfl) dX2_isActive_23 ⟨Nat.zero_le _, Nat.zero_le _⟩) (fun r_23 h_23 => ?_)
    rcases h_23 with ⟨rfl, h_23⟩ | ⟨rfl, h_23⟩
    · have hop := hop0
      rw [h_23] at hop
      refine n_if_eq (tgt := 33) hx hb dX2_isActive_26 (by decide) (by omega) (fun h => absurd h (by decide)) (fun _ => ?_)
      refine lv_iconst (v := (nI (1))) hx hb dX2_isActive_29 (by decide) ?_
      refine lv_goto (tgt := 34) hx hb dX2_isActive_30 (by decide) ?_
      exact hret _ (((e0, e1, e2), S, B, (nI (x_)), (nI (z_)), G)) _ ls _ _ (⟨(congrArg Prod.fst hop).symm, nxC_0 hop hR rfl rfl⟩) hP hD hS dX2_isActive_34
    · have hop := hop0
      rw [h_23] at hop
      refine n_if_eq (tgt := 33) hx hb dX2_isActive_26 (by decide) (by omega) (fun _ => ?_) (fun h => absurd h (by decide))
      refine lv_iconst (v := (nI (0))) hx hb dX2_isActive_33 (by decide) ?_
      exact hret _ (((e0, e1, e2), S, B, (nI (x_)), (nI (z_)), G)) _ ls _ _ (⟨(congrArg Prod.fst hop).symm, nxC_0 hop hR rfl rfl⟩) hP hD hS dX2_isActive_34
  · have hop : oAc w x y = (-2, 2, w) := itc_f h_6
    refine n_if_ne (tgt := 17) hx hb dX2_isActive_9 (by decide) (by omega) (fun h => absurd h (by decide)) (fun _ => ?_)
    refine lv_aload_n hx hb dX2_isActive_12 rfl (lv_at hl 0 rfl) ?_
    refine goWi (pre := []) (wc := [(o, .inr (2, [.ref (h), .ref (us), .ref (lb), .int e0, .int e1, .int e2]))]) (suf := usS cI cO us rg g ga ((nI (x_))) ((nI (z_))) G ++ (stW cI h a S ++ ([(lb, .inl (cI, 96, .inl B))]))) (kV (As := []) (rest := []) F (c_X2_invalid l D cI cO _ o h us lb e0 e1 e2) ywX2_invalid qw141 qw143 qs0 ⟨rfl, rfl⟩ ⟨Nat.le_of_ble_eq_true rfl, Nat.le_of_ble_eq_true rfl⟩ (preV (preW (va_pl0 hP) hC (va_dl hD)) hC hP (ci := 2) (q0 := 0) rfl rfl rfl) rfl hl.1 rfl (Nat.le_of_ble_eq_true rfl) dX2_isActive_13 ⟨Nat.zero_le _, Nat.zero_le _⟩) (by simpa only [List.append_assoc, List.nil_append, List.append_nil] using hP) (by simpa only [List.append_assoc, List.nil_append, List.append_nil] using hD) hS hA (fun r_13 e_1 H locs h_13 hP hD hS => ?_)
    replace hP : va_P D vwCl ([(o, .inr (2, [.ref (h), .ref (us), .ref (lb), .int e_1, .int e1, .int e2]))] ++ (usS cI cO us rg g ga ((nI (x_))) ((nI (z_))) G ++ (stW cI h a S ++ ([(lb, .inl (cI, 96, .inl B))])))) H := by simpa only [List.append_assoc, List.nil_append, List.append_nil] using hP
    replace hD : va_D A ([(o, .inr (2, [.ref (h), .ref (us), .ref (lb), .int e_1, .int e1, .int e2]))] ++ (usS cI cO us rg g ga ((nI (x_))) ((nI (z_))) G ++ (stW cI h a S ++ ([(lb, .inl (cI, 96, .inl B))])))) := by simpa only [List.append_assoc, List.nil_append, List.append_nil] using hD
    obtain ⟨h_13, k_13⟩ := h_13
    subst h_13
    exact hret _ (((e_1, e1, e2), S, B, (nI (x_)), (nI (z_)), G)) _ ls _ _ (⟨(congrArg Prod.fst hop).symm, nxC_e (e := 0) hop (by rw [k_13]; rfl) hR rfl rfl⟩) hP hD hS dX2_isActive_16

set_option maxHeartbeats 4000000 in
set_option maxRecDepth 100000 in
theorem c_X2_queued (l : Launch) (D : va_G) (cI cO : ClassId) (sz : Nat) (o us rg : Nat) (g : Nat → Nat) (ga : Nat → Nat → Nat) (h : Nat) (a : Nat → Nat) (lb : Nat) (e0 e1 e2 : Int32) (G : Nat → Nat → Nat → Int32) (S : Nat → Nat → Int32) (B : Nat → Int32) (w : Nat → Int32) (c0 : Nat) (hR : RC c0 S w) (x_ z_ : Nat) (hx4 : x_ < 4) (hz : z_ ≤ 4) (hc9 : c0 < 900) (x y z : Int32) : Met l yX2_queued (Cond.code yX2_queued cX2_queued 5 (some .int) :: WL) ({ frames := 2, cells := 0, slots := 0, locals := 43 } : Room) (va_Pc [.ref (o), .int (x), .int (y), .int (z)] (PW D cI cO ([(o, .inr (2, [.ref (h), .ref (us), .ref (lb), .int e0, .int e1, .int e2]))] ++ (usS cI cO us rg g ga ((nI (x_))) ((nI (z_))) G ++ (stW cI h a S ++ ([(lb, .inl (cI, 96, .inl B))])))) sz)) (va_Qi (fun (r : Int32) (u : CV) => r = (oQd w x y z).1 ∧ nxC c0 x_ z_ (e0, e1, e2) G w (oQd w x y z) u) (QB D ([(o, .inr (2, [.ref (h), .ref (us), .ref (lb), .int e0, .int e1, .int e2]))] ++ (usS cI cO us rg g ga ((nI (x_))) ((nI (z_))) G ++ (stW cI h a S ++ ([(lb, .inl (cI, 96, .inl B))])))) sz (fun (u : CV) => cvU cI cO o us rg g ga h a lb u)) (va_A ([(o, .inr (2, [.ref (h), .ref (us), .ref (lb), .int e0, .int e1, .int e2]))] ++ (usS cI cO us rg g ga ((nI (x_))) ((nI (z_))) G ++ (stW cI h a S ++ ([(lb, .inl (cI, 96, .inl B))])))) sz)) 0 0 (va_A ([(o, .inr (2, [.ref (h), .ref (us), .ref (lb), .int e0, .int e1, .int e2]))] ++ (usS cI cO us rg g ga ((nI (x_))) ((nI (z_))) G ++ (stW cI h a S ++ ([(lb, .inl (cI, 96, .inl B))])))) sz) := by
  refine wr_int (by decide) (Nat.le_of_ble_eq_true rfl) ?_
  intro p e s m args below meth c Q ls A F hP hC hD hA hret hl
  have hx := F.1
  have hb := F.2.1
  have hml := F.2.2.1
  have hown := F.2.2.2.1
  have hts := F.2.2.2.2
  replace hl : lv_has ls 5 [(0, .ref (o)), (1, .int (x)), (2, .int (y)), (3, .int (z))] := hl
  have hS : va_S A s.heap s.heap [] := va_S.rf
  have hn4 := hR.wf.n.2
  have hc : c0 < 1000 := by omega
  refine lv_aload_n hx hb dX2_queued_0 rfl (lv_at hl 0 rfl) ?_
  refine gt2 hx hb hts hown hC.1 hP 0 rfl 0 (by decide) qw118 rfl dX2_queued_1 ?_
  refine lv_iload_n hx hb dX2_queued_4 rfl (lv_at hl 1 rfl) ?_
  refine lv_iload_n hx hb dX2_queued_5 rfl (lv_at hl 2 rfl) ?_
  refine goR (kVN (As := [.int (x), .int (y)]) (rest := []) F (c_X0_hasLink l D cI cO h a S w c0 hR (x) (y)) ywX0_hasLink (nk6 hC) qw177 qs5 ⟨rfl, rfl⟩ ⟨Nat.le_of_ble_eq_true rfl, Nat.le_of_ble_eq_true rfl⟩ (preV (preR (va_pl0 (va_pr0 (va_pr0 hP))) hC) hC hP (ci := 0) (q0 := 43) rfl rfl rfl) rfl hl.1 rfl (Nat.le_of_ble_eq_true rfl) dX2_queued_6 ⟨Nat.zero_le _, Nat.zero_le _⟩) (fun r_6 h_6 => ?_)
  rcases h_6 with ⟨rfl, h_6⟩ | ⟨rfl, h_6⟩
  · obtain ⟨i, hi, rfl, l_, hl_, rfl⟩ := id h_6
    have hi4 : i < 4 := by omega
    have hm4 := (hR.wf.m i hi4).2
    have hpl : pl (nI i) (nI l_) = 4 * i + l_ := pl_nI (by omega) (by omega)
    have hv : (4 * i + l_) < 16 := by omega
    have hl10 := (hR.wf.l (4 * i + l_) hv).2
    have hVe : i * 4 + l_ = 4 * i + l_ := by omega
    refine n_if_eq (tgt := 16) hx hb dX2_queued_9 (by decide) (by omega) (fun h => absurd h (by decide)) (fun _ => ?_)
    refine lv_iload_n hx hb dX2_queued_12 rfl (lv_at hl 3 rfl) ?_
    refine lv_if_ge (tgt := 21) hx hb dX2_queued_13 (by decide)  (fun c_13 => ?_) (fun c_13 => ?_)
    · have hop0 : oQd w (nI i) (nI l_) z = (if nI (le w (4 * i + l_)) ≤ z then -1 else nI (msg w (4 * i + l_) (nv z) / 128), 0, w) := by unfold oQd; rw [itc_t ⟨h_6, Int32.not_lt.mpr c_13⟩, hpl]
      refine lv_iload_n hx hb dX2_queued_21 rfl (lv_at hl 1 rfl) ?_
      refine lv_iload_n hx hb dX2_queued_22 rfl (lv_at hl 2 rfl) ?_
      refine goR (kS (As := [.int (nI (i)), .int (nI (l_))]) (rest := []) F (c_X2_linkPlace l D cI cO (i) (l_)) ywX2_linkPlace qw256 qw196  ⟨rfl, rfl⟩ ⟨Nat.le_of_ble_eq_true rfl, Nat.le_of_ble_eq_true rfl⟩ (preR (fun k q h => by simp at h) hC) rfl hl.1 rfl (Nat.le_of_ble_eq_true rfl) dX2_queued_23 ⟨Nat.zero_le _, Nat.zero_le _⟩) (fun r_23 h_23 => ?_)
      subst h_23
      refine lv_istore (lv' := [(4, .int (nI (i * 4 + l_))), (0, .ref (o)), (1, .int (nI (i))), (2, .int (nI (l_))), (3, .int (z))]) hx hb dX2_queued_26 hl (by decide) rfl (fun ls hl => ?_)
      refine lv_iload_n hx hb dX2_queued_28 rfl (lv_at hl 4 rfl) ?_
      refine lv_aload_n hx hb dX2_queued_29 rfl (lv_at hl 1 rfl) ?_
      refine gt2 hx hb hts hown hC.1 hP 0 rfl 0 (by decide) qw118 rfl dX2_queued_30 ?_
      refine gtN0 hx hb hts hown hC.1 hP 43 rfl 12 (by decide) (nf9 hC) rfl dX2_queued_33 ?_
      refine lv_iload hx hb dX2_queued_36 (lv_at hl 0 rfl) ?_
      refine n_iald hx hb hC.1 hP 46 0 rfl rfl (by omega) (by decide) dX2_queued_38 ?_
      refine w_cv (y := (nI (le w (4 * i + l_)))) ((hR.l (i * 4 + l_) (by omega)).trans (by rw [hVe])) ?_
      refine lv_icmp_lt (tgt := 44) hx hb dX2_queued_39 (by decide)  (fun c_39 => ?_) (fun c_39 => ?_)
      · have hop := hop0
        rw [if_neg (Int32.not_le.mpr c_39)] at hop
        obtain ⟨j_, hj_, rfl⟩ := okI_of (n := le w (4 * i + l_)) (by omega) (Int32.not_lt.mpr c_13) (Int32.not_le.mpr c_39)
        rw [nv_nI (by omega)] at hop
        obtain ⟨b_, kk, hb0, hkk, hx_, hms⟩ := msg_ok hR.wf hc hv (i := j_) hj_
        have hsn := hR.wf.e.2
        have hb13 : S 13 ((i * 4 + l_) * 10 + j_) = nI (b_ * 96 + kk) := by rw [hVe, hR.q _ hv j_ hj_, hx_, trm_ok (by omega) hkk]
        refine lv_aload_n hx hb dX2_queued_44 rfl (lv_at hl 1 rfl) ?_
        refine gt2 hx hb hts hown hC.1 hP 0 rfl 0 (by decide) qw118 rfl dX2_queued_45 ?_
        refine gtN0 hx hb hts hown hC.1 hP 43 rfl 13 (by decide) (nf10 hC) rfl dX2_queued_48 ?_
        refine lv_iload hx hb dX2_queued_51 (lv_at hl 0 rfl) ?_
        refine lv_bipush (v := (nI (10))) hx hb dX2_queued_53 (by decide) ?_
        refine n_imul hx hb dX2_queued_55  ?_
        refine lv_iload_n hx hb dX2_queued_56 rfl (lv_at hl 4 rfl) ?_
        refine n_iadd hx hb dX2_queued_57  ?_
        refine n_iald hx hb hC.1 hP 47 0 rfl rfl (by omega) (by decide) dX2_queued_58 ?_
        refine w_cv (y := (nI (b_ * 96 + kk))) hb13 ?_
        refine goR (kS (As := [.int (nI (b_ * 96 + kk))]) (rest := []) F (c_X2_numberOf l D cI cO (b_ * 96 + kk) (by omega)) ywX2_numberOf qw279 qw266  ⟨rfl, rfl⟩ ⟨Nat.le_of_ble_eq_true rfl, Nat.le_of_ble_eq_true rfl⟩ (preR (fun k q h => by simp at h) hC) rfl hl.1 rfl (Nat.le_of_ble_eq_true rfl) dX2_queued_59 ⟨Nat.zero_le _, Nat.zero_le _⟩) (fun r_59 h_59 => ?_)
        subst h_59
        refine w_cv (y := (nI (msg w (4 * i + l_) j_ / 128))) (congrArg nI (by rw [hms]; omega)) ?_
        exact hret _ (((e0, e1, e2), S, B, (nI (x_)), (nI (z_)), G)) _ ls _ _ (⟨(congrArg Prod.fst hop).symm, nxC_0 hop hR rfl rfl⟩) hP hD hS dX2_queued_62
      · have hop := hop0
        rw [if_pos (Int32.not_lt.mp c_39)] at hop
        refine lv_iconst (v := (-1)) hx hb dX2_queued_42 (by decide) ?_
        exact hret _ (((e0, e1, e2), S, B, (nI (x_)), (nI (z_)), G)) _ ls _ _ (⟨(congrArg Prod.fst hop).symm, nxC_0 hop hR rfl rfl⟩) hP hD hS dX2_queued_43
    · have hop : oQd w (nI i) (nI l_) z = (-2, 2, w) := itc_f (fun q => c_13 (Int32.not_lt.mp q.2))
      refine lv_aload_n hx hb dX2_queued_16 rfl (lv_at hl 0 rfl) ?_
      refine goWi (pre := []) (wc := [(o, .inr (2, [.ref (h), .ref (us), .ref (lb), .int e0, .int e1, .int e2]))]) (suf := usS cI cO us rg g ga ((nI (x_))) ((nI (z_))) G ++ (stW cI h a S ++ ([(lb, .inl (cI, 96, .inl B))]))) (kV (As := []) (rest := []) F (c_X2_invalid l D cI cO _ o h us lb e0 e1 e2) ywX2_invalid qw141 qw143 qs0 ⟨rfl, rfl⟩ ⟨Nat.le_of_ble_eq_true rfl, Nat.le_of_ble_eq_true rfl⟩ (preV (preW (va_pl0 hP) hC (va_dl hD)) hC hP (ci := 2) (q0 := 0) rfl rfl rfl) rfl hl.1 rfl (Nat.le_of_ble_eq_true rfl) dX2_queued_17 ⟨Nat.zero_le _, Nat.zero_le _⟩) (by simpa only [List.append_assoc, List.nil_append, List.append_nil] using hP) (by simpa only [List.append_assoc, List.nil_append, List.append_nil] using hD) hS hA (fun r_17 e_1 H locs h_17 hP hD hS => ?_)
      replace hP : va_P D vwCl ([(o, .inr (2, [.ref (h), .ref (us), .ref (lb), .int e_1, .int e1, .int e2]))] ++ (usS cI cO us rg g ga ((nI (x_))) ((nI (z_))) G ++ (stW cI h a S ++ ([(lb, .inl (cI, 96, .inl B))])))) H := by simpa only [List.append_assoc, List.nil_append, List.append_nil] using hP
      replace hD : va_D A ([(o, .inr (2, [.ref (h), .ref (us), .ref (lb), .int e_1, .int e1, .int e2]))] ++ (usS cI cO us rg g ga ((nI (x_))) ((nI (z_))) G ++ (stW cI h a S ++ ([(lb, .inl (cI, 96, .inl B))])))) := by simpa only [List.append_assoc, List.nil_append, List.append_nil] using hD
      obtain ⟨h_17, k_17⟩ := h_17
      subst h_17
      exact hret _ (((e_1, e1, e2), S, B, (nI (x_)), (nI (z_)), G)) _ ls _ _ (⟨(congrArg Prod.fst hop).symm, nxC_e (e := 0) hop (by rw [k_17]; rfl) hR rfl rfl⟩) hP hD hS dX2_queued_20
  · have hop : oQd w x y z = (-2, 2, w) := itc_f (fun q => h_6 q.1)
    refine n_if_eq (tgt := 16) hx hb dX2_queued_9 (by decide) (by omega) (fun _ => ?_) (fun h => absurd h (by decide))
    refine lv_aload_n hx hb dX2_queued_16 rfl (lv_at hl 0 rfl) ?_
    refine goWi (pre := []) (wc := [(o, .inr (2, [.ref (h), .ref (us), .ref (lb), .int e0, .int e1, .int e2]))]) (suf := usS cI cO us rg g ga ((nI (x_))) ((nI (z_))) G ++ (stW cI h a S ++ ([(lb, .inl (cI, 96, .inl B))]))) (kV (As := []) (rest := []) F (c_X2_invalid l D cI cO _ o h us lb e0 e1 e2) ywX2_invalid qw141 qw143 qs0 ⟨rfl, rfl⟩ ⟨Nat.le_of_ble_eq_true rfl, Nat.le_of_ble_eq_true rfl⟩ (preV (preW (va_pl0 hP) hC (va_dl hD)) hC hP (ci := 2) (q0 := 0) rfl rfl rfl) rfl hl.1 rfl (Nat.le_of_ble_eq_true rfl) dX2_queued_17 ⟨Nat.zero_le _, Nat.zero_le _⟩) (by simpa only [List.append_assoc, List.nil_append, List.append_nil] using hP) (by simpa only [List.append_assoc, List.nil_append, List.append_nil] using hD) hS hA (fun r_17 e_2 H locs h_17 hP hD hS => ?_)
    replace hP : va_P D vwCl ([(o, .inr (2, [.ref (h), .ref (us), .ref (lb), .int e_2, .int e1, .int e2]))] ++ (usS cI cO us rg g ga ((nI (x_))) ((nI (z_))) G ++ (stW cI h a S ++ ([(lb, .inl (cI, 96, .inl B))])))) H := by simpa only [List.append_assoc, List.nil_append, List.append_nil] using hP
    replace hD : va_D A ([(o, .inr (2, [.ref (h), .ref (us), .ref (lb), .int e_2, .int e1, .int e2]))] ++ (usS cI cO us rg g ga ((nI (x_))) ((nI (z_))) G ++ (stW cI h a S ++ ([(lb, .inl (cI, 96, .inl B))])))) := by simpa only [List.append_assoc, List.nil_append, List.append_nil] using hD
    obtain ⟨h_17, k_17⟩ := h_17
    subst h_17
    exact hret _ (((e_2, e1, e2), S, B, (nI (x_)), (nI (z_)), G)) _ ls _ _ (⟨(congrArg Prod.fst hop).symm, nxC_e (e := 0) hop (by rw [k_17]; rfl) hR rfl rfl⟩) hP hD hS dX2_queued_20

set_option maxHeartbeats 4000000 in
set_option maxRecDepth 100000 in
theorem c_X2_routeState (l : Launch) (D : va_G) (cI cO : ClassId) (sz : Nat) (o us rg : Nat) (g : Nat → Nat) (ga : Nat → Nat → Nat) (h : Nat) (a : Nat → Nat) (lb : Nat) (e0 e1 e2 : Int32) (G : Nat → Nat → Nat → Int32) (S : Nat → Nat → Int32) (B : Nat → Int32) (w : Nat → Int32) (c0 : Nat) (hR : RC c0 S w) (x_ z_ : Nat) (hx4 : x_ < 4) (hz : z_ ≤ 4) (hc9 : c0 < 900) (x y : Int32) : Met l yX2_routeState (Cond.code yX2_routeState cX2_routeState 3 (some .int) :: WL) ({ frames := 2, cells := 0, slots := 0, locals := 43 } : Room) (va_Pc [.ref (o), .int (x), .int (y)] (PW D cI cO ([(o, .inr (2, [.ref (h), .ref (us), .ref (lb), .int e0, .int e1, .int e2]))] ++ (usS cI cO us rg g ga ((nI (x_))) ((nI (z_))) G ++ (stW cI h a S ++ ([(lb, .inl (cI, 96, .inl B))])))) sz)) (va_Qi (fun (r : Int32) (u : CV) => r = (oRs w x y).1 ∧ nxC c0 x_ z_ (e0, e1, e2) G w (oRs w x y) u) (QB D ([(o, .inr (2, [.ref (h), .ref (us), .ref (lb), .int e0, .int e1, .int e2]))] ++ (usS cI cO us rg g ga ((nI (x_))) ((nI (z_))) G ++ (stW cI h a S ++ ([(lb, .inl (cI, 96, .inl B))])))) sz (fun (u : CV) => cvU cI cO o us rg g ga h a lb u)) (va_A ([(o, .inr (2, [.ref (h), .ref (us), .ref (lb), .int e0, .int e1, .int e2]))] ++ (usS cI cO us rg g ga ((nI (x_))) ((nI (z_))) G ++ (stW cI h a S ++ ([(lb, .inl (cI, 96, .inl B))])))) sz)) 0 0 (va_A ([(o, .inr (2, [.ref (h), .ref (us), .ref (lb), .int e0, .int e1, .int e2]))] ++ (usS cI cO us rg g ga ((nI (x_))) ((nI (z_))) G ++ (stW cI h a S ++ ([(lb, .inl (cI, 96, .inl B))])))) sz) := by
  refine wr_int (by decide) (Nat.le_of_ble_eq_true rfl) ?_
  intro p e s m args below meth c Q ls A F hP hC hD hA hret hl
  have hx := F.1
  have hb := F.2.1
  have hml := F.2.2.1
  have hown := F.2.2.2.1
  have hts := F.2.2.2.2
  replace hl : lv_has ls 3 [(0, .ref (o)), (1, .int (x)), (2, .int (y))] := hl
  have hS : va_S A s.heap s.heap [] := va_S.rf
  have hn4 := hR.wf.n.2
  have hc : c0 < 1000 := by omega
  refine lv_aload_n hx hb dX2_routeState_0 rfl (lv_at hl 0 rfl) ?_
  refine gt2 hx hb hts hown hC.1 hP 0 rfl 0 (by decide) qw118 rfl dX2_routeState_1 ?_
  refine lv_iload_n hx hb dX2_routeState_4 rfl (lv_at hl 1 rfl) ?_
  refine lv_iload_n hx hb dX2_routeState_5 rfl (lv_at hl 2 rfl) ?_
  refine goR (kVN (As := [.int (x), .int (y)]) (rest := []) F (c_X0_canHaveRoute l D cI cO h a S w c0 hR (x) (y)) ywX0_canHaveRoute (nk19 hC) qw298 qs21 ⟨rfl, rfl⟩ ⟨Nat.le_of_ble_eq_true rfl, Nat.le_of_ble_eq_true rfl⟩ (preV (preR (va_pl0 (va_pr0 (va_pr0 hP))) hC) hC hP (ci := 0) (q0 := 43) rfl rfl rfl) rfl hl.1 rfl (Nat.le_of_ble_eq_true rfl) dX2_routeState_6 ⟨Nat.zero_le _, Nat.zero_le _⟩) (fun r_6 h_6 => ?_)
  rcases h_6 with ⟨rfl, h_6⟩ | ⟨rfl, h_6⟩
  · obtain ⟨⟨d_, hd6, rfl⟩, i, hi, rfl⟩ := id h_6
    have hi4 : i < 4 := by omega
    have hsx : sx (nI d_) (nI i) = 197 + 4 * d_ + i := sx_nI (by omega) (by omega)
    have hpx : px (nI d_) (nI i) = 221 + 4 * d_ + i := px_nI (by omega) (by omega)
    have hop : oRs w (nI d_) (nI i) = (w (197 + 4 * d_ + i), 0, w) := by unfold oRs; rw [itc_t h_6, hsx]
    refine n_if_ne (tgt := 17) hx hb dX2_routeState_9 (by decide) (by omega) (fun _ => ?_) (fun h => absurd h (by decide))
    refine lv_aload_n hx hb dX2_routeState_17 rfl (lv_at hl 0 rfl) ?_
    refine gt2 hx hb hts hown hC.1 hP 0 rfl 0 (by decide) qw118 rfl dX2_routeState_18 ?_
    refine gtN0 hx hb hts hown hC.1 hP 43 rfl 14 (by decide) (nf11 hC) rfl dX2_routeState_21 ?_
    refine lv_iload_n hx hb dX2_routeState_24 rfl (lv_at hl 1 rfl) ?_
    refine lv_iload_n hx hb dX2_routeState_25 rfl (lv_at hl 2 rfl) ?_
    refine goR (kS (As := [.int (nI (d_)), .int (nI (i))]) (rest := [.ref (a 4)]) F (c_X2_routePlace l D cI cO (d_) (i)) ywX2_routePlace qw303 qw221  ⟨rfl, rfl⟩ ⟨Nat.le_of_ble_eq_true rfl, Nat.le_of_ble_eq_true rfl⟩ (preR (fun k q h => by simp at h) hC) rfl hl.1 rfl (Nat.le_of_ble_eq_true rfl) dX2_routeState_26 ⟨Nat.zero_le _, Nat.zero_le _⟩) (fun r_26 h_26 => ?_)
    subst h_26
    refine n_iald hx hb hC.1 hP 48 0 rfl rfl (by omega) (by decide) dX2_routeState_29 ?_
    refine w_cv (y := (w (197 + 4 * d_ + i))) (hR.s d_ hd6 i hi4) ?_
    exact hret _ (((e0, e1, e2), S, B, (nI (x_)), (nI (z_)), G)) _ ls _ _ (⟨(congrArg Prod.fst hop).symm, nxC_0 hop hR rfl rfl⟩) hP hD hS dX2_routeState_30
  · have hop : oRs w x y = (-2, 2, w) := itc_f (fun q => h_6 ⟨q.1, q.2⟩)
    refine n_if_ne (tgt := 17) hx hb dX2_routeState_9 (by decide) (by omega) (fun h => absurd h (by decide)) (fun _ => ?_)
    refine lv_aload_n hx hb dX2_routeState_12 rfl (lv_at hl 0 rfl) ?_
    refine goWi (pre := []) (wc := [(o, .inr (2, [.ref (h), .ref (us), .ref (lb), .int e0, .int e1, .int e2]))]) (suf := usS cI cO us rg g ga ((nI (x_))) ((nI (z_))) G ++ (stW cI h a S ++ ([(lb, .inl (cI, 96, .inl B))]))) (kV (As := []) (rest := []) F (c_X2_invalid l D cI cO _ o h us lb e0 e1 e2) ywX2_invalid qw141 qw143 qs0 ⟨rfl, rfl⟩ ⟨Nat.le_of_ble_eq_true rfl, Nat.le_of_ble_eq_true rfl⟩ (preV (preW (va_pl0 hP) hC (va_dl hD)) hC hP (ci := 2) (q0 := 0) rfl rfl rfl) rfl hl.1 rfl (Nat.le_of_ble_eq_true rfl) dX2_routeState_13 ⟨Nat.zero_le _, Nat.zero_le _⟩) (by simpa only [List.append_assoc, List.nil_append, List.append_nil] using hP) (by simpa only [List.append_assoc, List.nil_append, List.append_nil] using hD) hS hA (fun r_13 e_1 H locs h_13 hP hD hS => ?_)
    replace hP : va_P D vwCl ([(o, .inr (2, [.ref (h), .ref (us), .ref (lb), .int e_1, .int e1, .int e2]))] ++ (usS cI cO us rg g ga ((nI (x_))) ((nI (z_))) G ++ (stW cI h a S ++ ([(lb, .inl (cI, 96, .inl B))])))) H := by simpa only [List.append_assoc, List.nil_append, List.append_nil] using hP
    replace hD : va_D A ([(o, .inr (2, [.ref (h), .ref (us), .ref (lb), .int e_1, .int e1, .int e2]))] ++ (usS cI cO us rg g ga ((nI (x_))) ((nI (z_))) G ++ (stW cI h a S ++ ([(lb, .inl (cI, 96, .inl B))])))) := by simpa only [List.append_assoc, List.nil_append, List.append_nil] using hD
    obtain ⟨h_13, k_13⟩ := h_13
    subst h_13
    exact hret _ (((e_1, e1, e2), S, B, (nI (x_)), (nI (z_)), G)) _ ls _ _ (⟨(congrArg Prod.fst hop).symm, nxC_e (e := 0) hop (by rw [k_13]; rfl) hR rfl rfl⟩) hP hD hS dX2_routeState_16

set_option maxHeartbeats 4000000 in
set_option maxRecDepth 100000 in
theorem c_X2_currentRoutes (l : Launch) (D : va_G) (cI cO : ClassId) (sz : Nat) (o us rg : Nat) (g : Nat → Nat) (ga : Nat → Nat → Nat) (h : Nat) (a : Nat → Nat) (lb : Nat) (e0 e1 e2 : Int32) (G : Nat → Nat → Nat → Int32) (S : Nat → Nat → Int32) (B : Nat → Int32) (w : Nat → Int32) (c0 : Nat) (hR : RC c0 S w) (x_ z_ : Nat) (hx4 : x_ < 4) (hz : z_ ≤ 4) (hc9 : c0 < 900) (x : Int32) : Met l yX2_currentRoutes (Cond.code yX2_currentRoutes cX2_currentRoutes 2 (some .int) :: WL) ({ frames := 3, cells := 0, slots := 0, locals := 69 } : Room) (va_Pc [.ref (o), .int (x)] (PW D cI cO ([(o, .inr (2, [.ref (h), .ref (us), .ref (lb), .int e0, .int e1, .int e2]))] ++ (usS cI cO us rg g ga ((nI (x_))) ((nI (z_))) G ++ (stW cI h a S ++ ([(lb, .inl (cI, 96, .inl B))])))) sz)) (va_Qi (fun (r : Int32) (u : CV) => r = (oCr w x).1 ∧ nxC c0 x_ z_ (e0, e1, e2) G w (oCr w x) u) (QB D ([(o, .inr (2, [.ref (h), .ref (us), .ref (lb), .int e0, .int e1, .int e2]))] ++ (usS cI cO us rg g ga ((nI (x_))) ((nI (z_))) G ++ (stW cI h a S ++ ([(lb, .inl (cI, 96, .inl B))])))) sz (fun (u : CV) => cvU cI cO o us rg g ga h a lb u)) (va_A ([(o, .inr (2, [.ref (h), .ref (us), .ref (lb), .int e0, .int e1, .int e2]))] ++ (usS cI cO us rg g ga ((nI (x_))) ((nI (z_))) G ++ (stW cI h a S ++ ([(lb, .inl (cI, 96, .inl B))])))) sz)) 0 0 (va_A ([(o, .inr (2, [.ref (h), .ref (us), .ref (lb), .int e0, .int e1, .int e2]))] ++ (usS cI cO us rg g ga ((nI (x_))) ((nI (z_))) G ++ (stW cI h a S ++ ([(lb, .inl (cI, 96, .inl B))])))) sz) := by
  refine wr_int (by decide) (Nat.le_of_ble_eq_true rfl) ?_
  intro p e s m args below meth c Q ls A F hP hC hD hA hret hl
  have hx := F.1
  have hb := F.2.1
  have hml := F.2.2.1
  have hown := F.2.2.2.1
  have hts := F.2.2.2.2
  replace hl : lv_has ls 2 [(0, .ref (o)), (1, .int (x))] := hl
  have hS : va_S A s.heap s.heap [] := va_S.rf
  have hn4 := hR.wf.n.2
  have hc : c0 < 1000 := by omega
  refine lv_iload_n hx hb dX2_currentRoutes_0 rfl (lv_at hl 1 rfl) ?_
  refine goR (kS (As := [.int (x)]) (rest := []) F (c_X2_isDestination l D cI cO (x)) ywX2_isDestination qw320 qw301  ⟨rfl, rfl⟩ ⟨Nat.le_of_ble_eq_true rfl, Nat.le_of_ble_eq_true rfl⟩ (preR (fun k q h => by simp at h) hC) rfl hl.1 rfl (Nat.le_of_ble_eq_true rfl) dX2_currentRoutes_1 ⟨Nat.zero_le _, Nat.zero_le _⟩) (fun r_1 h_1 => ?_)
  rcases h_1 with ⟨rfl, h_1⟩ | ⟨rfl, h_1⟩
  · obtain ⟨d_, hd6, rfl⟩ := id h_1
    have hop : oCr w (nI d_) = (nI (rts w d_), 0, w) := by unfold oCr; rw [itc_t h_1, nv_nI (by omega)]
    refine n_if_ne (tgt := 12) hx hb dX2_currentRoutes_4 (by decide) (by omega) (fun _ => ?_) (fun h => absurd h (by decide))
    refine lv_aload_n hx hb dX2_currentRoutes_12 rfl (lv_at hl 0 rfl) ?_
    refine gt2 hx hb hts hown hC.1 hP 0 rfl 0 (by decide) qw118 rfl dX2_currentRoutes_13 ?_
    refine lv_iload_n hx hb dX2_currentRoutes_16 rfl (lv_at hl 1 rfl) ?_
    refine goR (kVN (As := [.int (nI (d_))]) (rest := []) F (c_X0_routesTo l D cI cO h a S w c0 hR (d_) (by omega)) ywX0_routesTo (nk21 hC) qw214 qs12 ⟨rfl, rfl⟩ ⟨Nat.le_of_ble_eq_true rfl, Nat.le_of_ble_eq_true rfl⟩ (preV (preR (va_pl0 (va_pr0 (va_pr0 hP))) hC) hC hP (ci := 0) (q0 := 43) rfl rfl rfl) rfl hl.1 rfl (Nat.le_of_ble_eq_true rfl) dX2_currentRoutes_17 ⟨Nat.zero_le _, Nat.zero_le _⟩) (fun r_17 h_17 => ?_)
    subst h_17
    exact hret _ (((e0, e1, e2), S, B, (nI (x_)), (nI (z_)), G)) _ ls _ _ (⟨(congrArg Prod.fst hop).symm, nxC_0 hop hR rfl rfl⟩) hP hD hS dX2_currentRoutes_20
  · have hop : oCr w x = (-2, 2, w) := itc_f h_1
    refine n_if_ne (tgt := 12) hx hb dX2_currentRoutes_4 (by decide) (by omega) (fun h => absurd h (by decide)) (fun _ => ?_)
    refine lv_aload_n hx hb dX2_currentRoutes_7 rfl (lv_at hl 0 rfl) ?_
    refine goWi (pre := []) (wc := [(o, .inr (2, [.ref (h), .ref (us), .ref (lb), .int e0, .int e1, .int e2]))]) (suf := usS cI cO us rg g ga ((nI (x_))) ((nI (z_))) G ++ (stW cI h a S ++ ([(lb, .inl (cI, 96, .inl B))]))) (kV (As := []) (rest := []) F (c_X2_invalid l D cI cO _ o h us lb e0 e1 e2) ywX2_invalid qw141 qw143 qs0 ⟨rfl, rfl⟩ ⟨Nat.le_of_ble_eq_true rfl, Nat.le_of_ble_eq_true rfl⟩ (preV (preW (va_pl0 hP) hC (va_dl hD)) hC hP (ci := 2) (q0 := 0) rfl rfl rfl) rfl hl.1 rfl (Nat.le_of_ble_eq_true rfl) dX2_currentRoutes_8 ⟨Nat.zero_le _, Nat.zero_le _⟩) (by simpa only [List.append_assoc, List.nil_append, List.append_nil] using hP) (by simpa only [List.append_assoc, List.nil_append, List.append_nil] using hD) hS hA (fun r_8 e_1 H locs h_8 hP hD hS => ?_)
    replace hP : va_P D vwCl ([(o, .inr (2, [.ref (h), .ref (us), .ref (lb), .int e_1, .int e1, .int e2]))] ++ (usS cI cO us rg g ga ((nI (x_))) ((nI (z_))) G ++ (stW cI h a S ++ ([(lb, .inl (cI, 96, .inl B))])))) H := by simpa only [List.append_assoc, List.nil_append, List.append_nil] using hP
    replace hD : va_D A ([(o, .inr (2, [.ref (h), .ref (us), .ref (lb), .int e_1, .int e1, .int e2]))] ++ (usS cI cO us rg g ga ((nI (x_))) ((nI (z_))) G ++ (stW cI h a S ++ ([(lb, .inl (cI, 96, .inl B))])))) := by simpa only [List.append_assoc, List.nil_append, List.append_nil] using hD
    obtain ⟨h_8, k_8⟩ := h_8
    subst h_8
    exact hret _ (((e_1, e1, e2), S, B, (nI (x_)), (nI (z_)), G)) _ ls _ _ (⟨(congrArg Prod.fst hop).symm, nxC_e (e := 0) hop (by rw [k_8]; rfl) hR rfl rfl⟩) hP hD hS dX2_currentRoutes_11

set_option maxHeartbeats 4000000 in
set_option maxRecDepth 100000 in
theorem c_X2_spread (l : Launch) (D : va_G) (cI cO : ClassId) (sz : Nat) (o us rg : Nat) (g : Nat → Nat) (ga : Nat → Nat → Nat) (h : Nat) (a : Nat → Nat) (lb : Nat) (e0 e1 e2 : Int32) (G : Nat → Nat → Nat → Int32) (S : Nat → Nat → Int32) (B : Nat → Int32) (w : Nat → Int32) (c0 : Nat) (hR : RC c0 S w) (x_ z_ : Nat) (hx4 : x_ < 4) (hz : z_ ≤ 4) (hc9 : c0 < 900) (x : Int32) : Met l yX2_spread (Cond.code yX2_spread cX2_spread 2 (some .int) :: WL) ({ frames := 4, cells := 0, slots := 0, locals := 94 } : Room) (va_Pc [.ref (o), .int (x)] (PW D cI cO ([(o, .inr (2, [.ref (h), .ref (us), .ref (lb), .int e0, .int e1, .int e2]))] ++ (usS cI cO us rg g ga ((nI (x_))) ((nI (z_))) G ++ (stW cI h a S ++ ([(lb, .inl (cI, 96, .inl B))])))) sz)) (va_Qi (fun (r : Int32) (u : CV) => r = (oSp w x).1 ∧ nxC c0 x_ z_ (e0, e1, e2) G w (oSp w x) u) (QB D ([(o, .inr (2, [.ref (h), .ref (us), .ref (lb), .int e0, .int e1, .int e2]))] ++ (usS cI cO us rg g ga ((nI (x_))) ((nI (z_))) G ++ (stW cI h a S ++ ([(lb, .inl (cI, 96, .inl B))])))) sz (fun (u : CV) => cvU cI cO o us rg g ga h a lb u)) (va_A ([(o, .inr (2, [.ref (h), .ref (us), .ref (lb), .int e0, .int e1, .int e2]))] ++ (usS cI cO us rg g ga ((nI (x_))) ((nI (z_))) G ++ (stW cI h a S ++ ([(lb, .inl (cI, 96, .inl B))])))) sz)) 0 0 (va_A ([(o, .inr (2, [.ref (h), .ref (us), .ref (lb), .int e0, .int e1, .int e2]))] ++ (usS cI cO us rg g ga ((nI (x_))) ((nI (z_))) G ++ (stW cI h a S ++ ([(lb, .inl (cI, 96, .inl B))])))) sz) := by
  refine wr_int (by decide) (Nat.le_of_ble_eq_true rfl) ?_
  intro p e s m args below meth c Q ls A F hP hC hD hA hret hl
  have hx := F.1
  have hb := F.2.1
  have hml := F.2.2.1
  have hown := F.2.2.2.1
  have hts := F.2.2.2.2
  replace hl : lv_has ls 2 [(0, .ref (o)), (1, .int (x))] := hl
  have hS : va_S A s.heap s.heap [] := va_S.rf
  have hn4 := hR.wf.n.2
  have hc : c0 < 1000 := by omega
  refine lv_iload_n hx hb dX2_spread_0 rfl (lv_at hl 1 rfl) ?_
  refine goR (kS (As := [.int (x)]) (rest := []) F (c_X2_isDestination l D cI cO (x)) ywX2_isDestination qw320 qw301  ⟨rfl, rfl⟩ ⟨Nat.le_of_ble_eq_true rfl, Nat.le_of_ble_eq_true rfl⟩ (preR (fun k q h => by simp at h) hC) rfl hl.1 rfl (Nat.le_of_ble_eq_true rfl) dX2_spread_1 ⟨Nat.zero_le _, Nat.zero_le _⟩) (fun r_1 h_1 => ?_)
  rcases h_1 with ⟨rfl, h_1⟩ | ⟨rfl, h_1⟩
  · obtain ⟨d_, hd6, rfl⟩ := id h_1
    have hop : oSp w (nI d_) = (nI (cb (usd w d_ 16) 16), 0, w) := by unfold oSp; rw [itc_t h_1, nv_nI (by omega)]
    refine n_if_ne (tgt := 12) hx hb dX2_spread_4 (by decide) (by omega) (fun _ => ?_) (fun h => absurd h (by decide))
    refine lv_aload_n hx hb dX2_spread_12 rfl (lv_at hl 0 rfl) ?_
    refine gt2 hx hb hts hown hC.1 hP 0 rfl 0 (by decide) qw118 rfl dX2_spread_13 ?_
    refine lv_iload_n hx hb dX2_spread_16 rfl (lv_at hl 1 rfl) ?_
    refine goR (kVN (As := [.int (nI (d_))]) (rest := []) F (c_X0_countLinksTo l D cI cO h a S w c0 hR (d_) (by omega)) ywX0_countLinksTo (nk28 hC) qw405 qs26 ⟨rfl, rfl⟩ ⟨Nat.le_of_ble_eq_true rfl, Nat.le_of_ble_eq_true rfl⟩ (preV (preR (va_pl0 (va_pr0 (va_pr0 hP))) hC) hC hP (ci := 0) (q0 := 43) rfl rfl rfl) rfl hl.1 rfl (Nat.le_of_ble_eq_true rfl) dX2_spread_17 ⟨Nat.zero_le _, Nat.zero_le _⟩) (fun r_17 h_17 => ?_)
    subst h_17
    exact hret _ (((e0, e1, e2), S, B, (nI (x_)), (nI (z_)), G)) _ ls _ _ (⟨(congrArg Prod.fst hop).symm, nxC_0 hop hR rfl rfl⟩) hP hD hS dX2_spread_20
  · have hop : oSp w x = (-2, 2, w) := itc_f h_1
    refine n_if_ne (tgt := 12) hx hb dX2_spread_4 (by decide) (by omega) (fun h => absurd h (by decide)) (fun _ => ?_)
    refine lv_aload_n hx hb dX2_spread_7 rfl (lv_at hl 0 rfl) ?_
    refine goWi (pre := []) (wc := [(o, .inr (2, [.ref (h), .ref (us), .ref (lb), .int e0, .int e1, .int e2]))]) (suf := usS cI cO us rg g ga ((nI (x_))) ((nI (z_))) G ++ (stW cI h a S ++ ([(lb, .inl (cI, 96, .inl B))]))) (kV (As := []) (rest := []) F (c_X2_invalid l D cI cO _ o h us lb e0 e1 e2) ywX2_invalid qw141 qw143 qs0 ⟨rfl, rfl⟩ ⟨Nat.le_of_ble_eq_true rfl, Nat.le_of_ble_eq_true rfl⟩ (preV (preW (va_pl0 hP) hC (va_dl hD)) hC hP (ci := 2) (q0 := 0) rfl rfl rfl) rfl hl.1 rfl (Nat.le_of_ble_eq_true rfl) dX2_spread_8 ⟨Nat.zero_le _, Nat.zero_le _⟩) (by simpa only [List.append_assoc, List.nil_append, List.append_nil] using hP) (by simpa only [List.append_assoc, List.nil_append, List.append_nil] using hD) hS hA (fun r_8 e_1 H locs h_8 hP hD hS => ?_)
    replace hP : va_P D vwCl ([(o, .inr (2, [.ref (h), .ref (us), .ref (lb), .int e_1, .int e1, .int e2]))] ++ (usS cI cO us rg g ga ((nI (x_))) ((nI (z_))) G ++ (stW cI h a S ++ ([(lb, .inl (cI, 96, .inl B))])))) H := by simpa only [List.append_assoc, List.nil_append, List.append_nil] using hP
    replace hD : va_D A ([(o, .inr (2, [.ref (h), .ref (us), .ref (lb), .int e_1, .int e1, .int e2]))] ++ (usS cI cO us rg g ga ((nI (x_))) ((nI (z_))) G ++ (stW cI h a S ++ ([(lb, .inl (cI, 96, .inl B))])))) := by simpa only [List.append_assoc, List.nil_append, List.append_nil] using hD
    obtain ⟨h_8, k_8⟩ := h_8
    subst h_8
    exact hret _ (((e_1, e1, e2), S, B, (nI (x_)), (nI (z_)), G)) _ ls _ _ (⟨(congrArg Prod.fst hop).symm, nxC_e (e := 0) hop (by rw [k_8]; rfl) hR rfl rfl⟩) hP hD hS dX2_spread_11

set_option maxHeartbeats 4000000 in
set_option maxRecDepth 100000 in
theorem c_X2_currentLink (l : Launch) (D : va_G) (cI cO : ClassId) (sz : Nat) (o us rg : Nat) (g : Nat → Nat) (ga : Nat → Nat → Nat) (h : Nat) (a : Nat → Nat) (lb : Nat) (e0 e1 e2 : Int32) (G : Nat → Nat → Nat → Int32) (S : Nat → Nat → Int32) (B : Nat → Int32) (w : Nat → Int32) (c0 : Nat) (hR : RC c0 S w) (x_ z_ : Nat) (hx4 : x_ < 4) (hz : z_ ≤ 4) (hc9 : c0 < 900) (x y : Int32) : Met l yX2_currentLink (Cond.code yX2_currentLink cX2_currentLink 3 (some .int) :: WL) ({ frames := 3, cells := 0, slots := 0, locals := 69 } : Room) (va_Pc [.ref (o), .int (x), .int (y)] (PW D cI cO ([(o, .inr (2, [.ref (h), .ref (us), .ref (lb), .int e0, .int e1, .int e2]))] ++ (usS cI cO us rg g ga ((nI (x_))) ((nI (z_))) G ++ (stW cI h a S ++ ([(lb, .inl (cI, 96, .inl B))])))) sz)) (va_Qi (fun (r : Int32) (u : CV) => r = (oCl w x y).1 ∧ nxC c0 x_ z_ (e0, e1, e2) G w (oCl w x y) u) (QB D ([(o, .inr (2, [.ref (h), .ref (us), .ref (lb), .int e0, .int e1, .int e2]))] ++ (usS cI cO us rg g ga ((nI (x_))) ((nI (z_))) G ++ (stW cI h a S ++ ([(lb, .inl (cI, 96, .inl B))])))) sz (fun (u : CV) => cvU cI cO o us rg g ga h a lb u)) (va_A ([(o, .inr (2, [.ref (h), .ref (us), .ref (lb), .int e0, .int e1, .int e2]))] ++ (usS cI cO us rg g ga ((nI (x_))) ((nI (z_))) G ++ (stW cI h a S ++ ([(lb, .inl (cI, 96, .inl B))])))) sz)) 0 0 (va_A ([(o, .inr (2, [.ref (h), .ref (us), .ref (lb), .int e0, .int e1, .int e2]))] ++ (usS cI cO us rg g ga ((nI (x_))) ((nI (z_))) G ++ (stW cI h a S ++ ([(lb, .inl (cI, 96, .inl B))])))) sz) := by
  refine wr_int (by decide) (Nat.le_of_ble_eq_true rfl) ?_
  intro p e s m args below meth c Q ls A F hP hC hD hA hret hl
  have hx := F.1
  have hb := F.2.1
  have hml := F.2.2.1
  have hown := F.2.2.2.1
  have hts := F.2.2.2.2
  replace hl : lv_has ls 3 [(0, .ref (o)), (1, .int (x)), (2, .int (y))] := hl
  have hS : va_S A s.heap s.heap [] := va_S.rf
  have hn4 := hR.wf.n.2
  have hc : c0 < 1000 := by omega
  refine lv_iload_n hx hb dX2_currentLink_0 rfl (lv_at hl 1 rfl) ?_
  refine lv_iload_n hx hb dX2_currentLink_1 rfl (lv_at hl 2 rfl) ?_
  refine goR (kS (As := [.int (x), .int (y)]) (rest := []) F (c_X2_isStream l D cI cO (x) (y)) ywX2_isStream qw326 qw327  ⟨rfl, rfl⟩ ⟨Nat.le_of_ble_eq_true rfl, Nat.le_of_ble_eq_true rfl⟩ (preR (fun k q h => by simp at h) hC) rfl hl.1 rfl (Nat.le_of_ble_eq_true rfl) dX2_currentLink_2 ⟨Nat.zero_le _, Nat.zero_le _⟩) (fun r_2 h_2 => ?_)
  rcases h_2 with ⟨rfl, h_2⟩ | ⟨rfl, h_2⟩
  · obtain ⟨⟨d_, hd6, rfl⟩, s_, hs16, rfl⟩ := id h_2
    have hop : oCl w (nI d_) (nI s_) = (lk w (d_ * 16 + s_), 0, w) := by unfold oCl; rw [itc_t h_2, nv_nI (by omega), nv_nI (by omega)]
    refine n_if_ne (tgt := 13) hx hb dX2_currentLink_5 (by decide) (by omega) (fun _ => ?_) (fun h => absurd h (by decide))
    refine lv_aload_n hx hb dX2_currentLink_13 rfl (lv_at hl 0 rfl) ?_
    refine gt2 hx hb hts hown hC.1 hP 0 rfl 0 (by decide) qw118 rfl dX2_currentLink_14 ?_
    refine lv_aload_n hx hb dX2_currentLink_17 rfl (lv_at hl 0 rfl) ?_
    refine gt2 hx hb hts hown hC.1 hP 0 rfl 0 (by decide) qw118 rfl dX2_currentLink_18 ?_
    refine lv_iload_n hx hb dX2_currentLink_21 rfl (lv_at hl 1 rfl) ?_
    refine goR (kVN (As := [.int (nI (d_))]) (rest := [.ref (h)]) F (c_X0_routesTo l D cI cO h a S w c0 hR (d_) (by omega)) ywX0_routesTo (nk21 hC) qw214 qs12 ⟨rfl, rfl⟩ ⟨Nat.le_of_ble_eq_true rfl, Nat.le_of_ble_eq_true rfl⟩ (preV (preR (va_pl0 (va_pr0 (va_pr0 hP))) hC) hC hP (ci := 0) (q0 := 43) rfl rfl rfl) rfl hl.1 rfl (Nat.le_of_ble_eq_true rfl) dX2_currentLink_22 ⟨Nat.zero_le _, Nat.zero_le _⟩) (fun r_22 h_22 => ?_)
    subst h_22
    refine lv_iload_n hx hb dX2_currentLink_25 rfl (lv_at hl 2 rfl) ?_
    refine goR (kVN (As := [.int (nI (rts w d_)), .int (nI (s_))]) (rest := []) F (c_X0_linkOver l D cI cO h a S w c0 hR (rts w d_) (s_) (rts_lt hR.wf _) (by omega) (fun i hi ht => (rts_tb hR.wf hi ht).2)) ywX0_linkOver (nk22 hC) qw225 qs14 ⟨rfl, rfl⟩ ⟨Nat.le_of_ble_eq_true rfl, Nat.le_of_ble_eq_true rfl⟩ (preV (preR (va_pl0 (va_pr0 (va_pr0 hP))) hC) hC hP (ci := 0) (q0 := 43) rfl rfl rfl) rfl hl.1 rfl (Nat.le_of_ble_eq_true rfl) dX2_currentLink_26 ⟨Nat.zero_le _, Nat.zero_le _⟩) (fun r_26 h_26 => ?_)
    subst h_26
    refine w_cv (y := (lk w (d_ * 16 + s_))) (lk_lkm hs16).symm ?_
    exact hret _ (((e0, e1, e2), S, B, (nI (x_)), (nI (z_)), G)) _ ls _ _ (⟨(congrArg Prod.fst hop).symm, nxC_0 hop hR rfl rfl⟩) hP hD hS dX2_currentLink_29
  · have hop : oCl w x y = (-2, 2, w) := itc_f h_2
    refine n_if_ne (tgt := 13) hx hb dX2_currentLink_5 (by decide) (by omega) (fun h => absurd h (by decide)) (fun _ => ?_)
    refine lv_aload_n hx hb dX2_currentLink_8 rfl (lv_at hl 0 rfl) ?_
    refine goWi (pre := []) (wc := [(o, .inr (2, [.ref (h), .ref (us), .ref (lb), .int e0, .int e1, .int e2]))]) (suf := usS cI cO us rg g ga ((nI (x_))) ((nI (z_))) G ++ (stW cI h a S ++ ([(lb, .inl (cI, 96, .inl B))]))) (kV (As := []) (rest := []) F (c_X2_invalid l D cI cO _ o h us lb e0 e1 e2) ywX2_invalid qw141 qw143 qs0 ⟨rfl, rfl⟩ ⟨Nat.le_of_ble_eq_true rfl, Nat.le_of_ble_eq_true rfl⟩ (preV (preW (va_pl0 hP) hC (va_dl hD)) hC hP (ci := 2) (q0 := 0) rfl rfl rfl) rfl hl.1 rfl (Nat.le_of_ble_eq_true rfl) dX2_currentLink_9 ⟨Nat.zero_le _, Nat.zero_le _⟩) (by simpa only [List.append_assoc, List.nil_append, List.append_nil] using hP) (by simpa only [List.append_assoc, List.nil_append, List.append_nil] using hD) hS hA (fun r_9 e_1 H locs h_9 hP hD hS => ?_)
    replace hP : va_P D vwCl ([(o, .inr (2, [.ref (h), .ref (us), .ref (lb), .int e_1, .int e1, .int e2]))] ++ (usS cI cO us rg g ga ((nI (x_))) ((nI (z_))) G ++ (stW cI h a S ++ ([(lb, .inl (cI, 96, .inl B))])))) H := by simpa only [List.append_assoc, List.nil_append, List.append_nil] using hP
    replace hD : va_D A ([(o, .inr (2, [.ref (h), .ref (us), .ref (lb), .int e_1, .int e1, .int e2]))] ++ (usS cI cO us rg g ga ((nI (x_))) ((nI (z_))) G ++ (stW cI h a S ++ ([(lb, .inl (cI, 96, .inl B))])))) := by simpa only [List.append_assoc, List.nil_append, List.append_nil] using hD
    obtain ⟨h_9, k_9⟩ := h_9
    subst h_9
    exact hret _ (((e_1, e1, e2), S, B, (nI (x_)), (nI (z_)), G)) _ ls _ _ (⟨(congrArg Prod.fst hop).symm, nxC_e (e := 0) hop (by rw [k_9]; rfl) hR rfl rfl⟩) hP hD hS dX2_currentLink_12

set_option maxHeartbeats 4000000 in
set_option maxRecDepth 100000 in
theorem c_X2_isHeld (l : Launch) (D : va_G) (cI cO : ClassId) (sz : Nat) (o us rg : Nat) (g : Nat → Nat) (ga : Nat → Nat → Nat) (h : Nat) (a : Nat → Nat) (lb : Nat) (e0 e1 e2 : Int32) (G : Nat → Nat → Nat → Int32) (S : Nat → Nat → Int32) (B : Nat → Int32) (w : Nat → Int32) (c0 : Nat) (hR : RC c0 S w) (x_ z_ : Nat) (hx4 : x_ < 4) (hz : z_ ≤ 4) (hc9 : c0 < 900) (x y : Int32) : Met l yX2_isHeld (Cond.code yX2_isHeld cX2_isHeld 3 (some .int) :: WL) ({ frames := 2, cells := 0, slots := 0, locals := 41 } : Room) (va_Pc [.ref (o), .int (x), .int (y)] (PW D cI cO ([(o, .inr (2, [.ref (h), .ref (us), .ref (lb), .int e0, .int e1, .int e2]))] ++ (usS cI cO us rg g ga ((nI (x_))) ((nI (z_))) G ++ (stW cI h a S ++ ([(lb, .inl (cI, 96, .inl B))])))) sz)) (va_Qi (fun (r : Int32) (u : CV) => r = (oIh w x y).1 ∧ nxC c0 x_ z_ (e0, e1, e2) G w (oIh w x y) u) (QB D ([(o, .inr (2, [.ref (h), .ref (us), .ref (lb), .int e0, .int e1, .int e2]))] ++ (usS cI cO us rg g ga ((nI (x_))) ((nI (z_))) G ++ (stW cI h a S ++ ([(lb, .inl (cI, 96, .inl B))])))) sz (fun (u : CV) => cvU cI cO o us rg g ga h a lb u)) (va_A ([(o, .inr (2, [.ref (h), .ref (us), .ref (lb), .int e0, .int e1, .int e2]))] ++ (usS cI cO us rg g ga ((nI (x_))) ((nI (z_))) G ++ (stW cI h a S ++ ([(lb, .inl (cI, 96, .inl B))])))) sz)) 0 0 (va_A ([(o, .inr (2, [.ref (h), .ref (us), .ref (lb), .int e0, .int e1, .int e2]))] ++ (usS cI cO us rg g ga ((nI (x_))) ((nI (z_))) G ++ (stW cI h a S ++ ([(lb, .inl (cI, 96, .inl B))])))) sz) := by
  refine wr_int (by decide) (Nat.le_of_ble_eq_true rfl) ?_
  intro p e s m args below meth c Q ls A F hP hC hD hA hret hl
  have hx := F.1
  have hb := F.2.1
  have hml := F.2.2.1
  have hown := F.2.2.2.1
  have hts := F.2.2.2.2
  replace hl : lv_has ls 3 [(0, .ref (o)), (1, .int (x)), (2, .int (y))] := hl
  have hS : va_S A s.heap s.heap [] := va_S.rf
  have hn4 := hR.wf.n.2
  have hc : c0 < 1000 := by omega
  refine lv_iload_n hx hb dX2_isHeld_0 rfl (lv_at hl 1 rfl) ?_
  refine lv_iload_n hx hb dX2_isHeld_1 rfl (lv_at hl 2 rfl) ?_
  refine goR (kS (As := [.int (x), .int (y)]) (rest := []) F (c_X2_isStream l D cI cO (x) (y)) ywX2_isStream qw326 qw327  ⟨rfl, rfl⟩ ⟨Nat.le_of_ble_eq_true rfl, Nat.le_of_ble_eq_true rfl⟩ (preR (fun k q h => by simp at h) hC) rfl hl.1 rfl (Nat.le_of_ble_eq_true rfl) dX2_isHeld_2 ⟨Nat.zero_le _, Nat.zero_le _⟩) (fun r_2 h_2 => ?_)
  rcases h_2 with ⟨rfl, h_2⟩ | ⟨rfl, h_2⟩
  · obtain ⟨⟨d_, hd6, rfl⟩, s_, hs16, rfl⟩ := id h_2
    have hop0 : oIh w (nI d_) (nI s_) = (if un w (d_ * 16 + s_) = 0 then nI 0 else nI 1, 0, w) := by unfold oIh; rw [itc_t h_2, nv_nI (by omega), nv_nI (by omega)]
    refine n_if_ne (tgt := 13) hx hb dX2_isHeld_5 (by decide) (by omega) (fun _ => ?_) (fun h => absurd h (by decide))
    refine lv_aload_n hx hb dX2_isHeld_13 rfl (lv_at hl 0 rfl) ?_
    refine gt2 hx hb hts hown hC.1 hP 0 rfl 0 (by decide) qw118 rfl dX2_isHeld_14 ?_
    refine lv_iload_n hx hb dX2_isHeld_17 rfl (lv_at hl 1 rfl) ?_
    refine lv_iload_n hx hb dX2_isHeld_18 rfl (lv_at hl 2 rfl) ?_
    refine goR (kS (As := [.int (nI (d_)), .int (nI (s_))]) (rest := [.ref (h)]) F (c_X2_streamPlace l D cI cO (d_) (s_)) ywX2_streamPlace qw373 qw339  ⟨rfl, rfl⟩ ⟨Nat.le_of_ble_eq_true rfl, Nat.le_of_ble_eq_true rfl⟩ (preR (fun k q h => by simp at h) hC) rfl hl.1 rfl (Nat.le_of_ble_eq_true rfl) dX2_isHeld_19 ⟨Nat.zero_le _, Nat.zero_le _⟩) (fun r_19 h_19 => ?_)
    subst h_19
    refine goR (kVN (As := [.int (nI (d_ * 16 + s_))]) (rest := []) F (c_X0_holds l D cI cO h a S w c0 hR (d_ * 16 + s_) hc (by omega)) ywX0_holds (nk27 hC) qw346 qs23 ⟨rfl, rfl⟩ ⟨Nat.le_of_ble_eq_true rfl, Nat.le_of_ble_eq_true rfl⟩ (preV (preR (va_pl0 (va_pr0 (va_pr0 hP))) hC) hC hP (ci := 0) (q0 := 43) rfl rfl rfl) rfl hl.1 rfl (Nat.le_of_ble_eq_true rfl) dX2_isHeld_22 ⟨Nat.zero_le _, Nat.zero_le _⟩) (fun r_22 h_22 => ?_)
    rcases h_22 with ⟨rfl, h_22⟩ | ⟨rfl, h_22⟩
    · have hop := hop0
      rw [if_neg h_22] at hop
      refine n_if_eq (tgt := 32) hx hb dX2_isHeld_25 (by decide) (by omega) (fun h => absurd h (by decide)) (fun _ => ?_)
      refine lv_iconst (v := (nI (1))) hx hb dX2_isHeld_28 (by decide) ?_
      refine lv_goto (tgt := 33) hx hb dX2_isHeld_29 (by decide) ?_
      exact hret _ (((e0, e1, e2), S, B, (nI (x_)), (nI (z_)), G)) _ ls _ _ (⟨(congrArg Prod.fst hop).symm, nxC_0 hop hR rfl rfl⟩) hP hD hS dX2_isHeld_33
    · have hop := hop0
      rw [if_pos h_22] at hop
      refine n_if_eq (tgt := 32) hx hb dX2_isHeld_25 (by decide) (by omega) (fun _ => ?_) (fun h => absurd h (by decide))
      refine lv_iconst (v := (nI (0))) hx hb dX2_isHeld_32 (by decide) ?_
      exact hret _ (((e0, e1, e2), S, B, (nI (x_)), (nI (z_)), G)) _ ls _ _ (⟨(congrArg Prod.fst hop).symm, nxC_0 hop hR rfl rfl⟩) hP hD hS dX2_isHeld_33
  · have hop : oIh w x y = (-2, 2, w) := itc_f h_2
    refine n_if_ne (tgt := 13) hx hb dX2_isHeld_5 (by decide) (by omega) (fun h => absurd h (by decide)) (fun _ => ?_)
    refine lv_aload_n hx hb dX2_isHeld_8 rfl (lv_at hl 0 rfl) ?_
    refine goWi (pre := []) (wc := [(o, .inr (2, [.ref (h), .ref (us), .ref (lb), .int e0, .int e1, .int e2]))]) (suf := usS cI cO us rg g ga ((nI (x_))) ((nI (z_))) G ++ (stW cI h a S ++ ([(lb, .inl (cI, 96, .inl B))]))) (kV (As := []) (rest := []) F (c_X2_invalid l D cI cO _ o h us lb e0 e1 e2) ywX2_invalid qw141 qw143 qs0 ⟨rfl, rfl⟩ ⟨Nat.le_of_ble_eq_true rfl, Nat.le_of_ble_eq_true rfl⟩ (preV (preW (va_pl0 hP) hC (va_dl hD)) hC hP (ci := 2) (q0 := 0) rfl rfl rfl) rfl hl.1 rfl (Nat.le_of_ble_eq_true rfl) dX2_isHeld_9 ⟨Nat.zero_le _, Nat.zero_le _⟩) (by simpa only [List.append_assoc, List.nil_append, List.append_nil] using hP) (by simpa only [List.append_assoc, List.nil_append, List.append_nil] using hD) hS hA (fun r_9 e_1 H locs h_9 hP hD hS => ?_)
    replace hP : va_P D vwCl ([(o, .inr (2, [.ref (h), .ref (us), .ref (lb), .int e_1, .int e1, .int e2]))] ++ (usS cI cO us rg g ga ((nI (x_))) ((nI (z_))) G ++ (stW cI h a S ++ ([(lb, .inl (cI, 96, .inl B))])))) H := by simpa only [List.append_assoc, List.nil_append, List.append_nil] using hP
    replace hD : va_D A ([(o, .inr (2, [.ref (h), .ref (us), .ref (lb), .int e_1, .int e1, .int e2]))] ++ (usS cI cO us rg g ga ((nI (x_))) ((nI (z_))) G ++ (stW cI h a S ++ ([(lb, .inl (cI, 96, .inl B))])))) := by simpa only [List.append_assoc, List.nil_append, List.append_nil] using hD
    obtain ⟨h_9, k_9⟩ := h_9
    subst h_9
    exact hret _ (((e_1, e1, e2), S, B, (nI (x_)), (nI (z_)), G)) _ ls _ _ (⟨(congrArg Prod.fst hop).symm, nxC_e (e := 0) hop (by rw [k_9]; rfl) hR rfl rfl⟩) hP hD hS dX2_isHeld_12

set_option maxHeartbeats 4000000 in
set_option maxRecDepth 100000 in
theorem c_X2_time (l : Launch) (D : va_G) (cI cO : ClassId) (sz : Nat) (o us rg : Nat) (g : Nat → Nat) (ga : Nat → Nat → Nat) (h : Nat) (a : Nat → Nat) (lb : Nat) (e0 e1 e2 : Int32) (G : Nat → Nat → Nat → Int32) (S : Nat → Nat → Int32) (B : Nat → Int32) (w : Nat → Int32) (c0 : Nat) (hR : RC c0 S w) (x_ z_ : Nat) (hx4 : x_ < 4) (hz : z_ ≤ 4) (hc9 : c0 < 900) : Met l yX2_time (Cond.code yX2_time cX2_time 1 (some .int) :: WL) ({ frames := 0, cells := 0, slots := 0, locals := 0 } : Room) (va_Pc [.ref (o)] (PW D cI cO ([(o, .inr (2, [.ref (h), .ref (us), .ref (lb), .int e0, .int e1, .int e2]))] ++ (usS cI cO us rg g ga ((nI (x_))) ((nI (z_))) G ++ (stW cI h a S ++ ([(lb, .inl (cI, 96, .inl B))])))) sz)) (va_Qi (fun (r : Int32) (u : CV) => r = (oGet w 462).1 ∧ nxC c0 x_ z_ (e0, e1, e2) G w (oGet w 462) u) (QB D ([(o, .inr (2, [.ref (h), .ref (us), .ref (lb), .int e0, .int e1, .int e2]))] ++ (usS cI cO us rg g ga ((nI (x_))) ((nI (z_))) G ++ (stW cI h a S ++ ([(lb, .inl (cI, 96, .inl B))])))) sz (fun (u : CV) => cvU cI cO o us rg g ga h a lb u)) (va_A ([(o, .inr (2, [.ref (h), .ref (us), .ref (lb), .int e0, .int e1, .int e2]))] ++ (usS cI cO us rg g ga ((nI (x_))) ((nI (z_))) G ++ (stW cI h a S ++ ([(lb, .inl (cI, 96, .inl B))])))) sz)) 0 0 (va_A ([(o, .inr (2, [.ref (h), .ref (us), .ref (lb), .int e0, .int e1, .int e2]))] ++ (usS cI cO us rg g ga ((nI (x_))) ((nI (z_))) G ++ (stW cI h a S ++ ([(lb, .inl (cI, 96, .inl B))])))) sz) := by
  refine wr_int (by decide) (Nat.le_of_ble_eq_true rfl) ?_
  intro p e s m args below meth c Q ls A F hP hC hD hA hret hl
  have hx := F.1
  have hb := F.2.1
  have hml := F.2.2.1
  have hown := F.2.2.2.1
  have hts := F.2.2.2.2
  replace hl : lv_has ls 1 [(0, .ref (o))] := hl
  have hS : va_S A s.heap s.heap [] := va_S.rf
  have hn4 := hR.wf.n.2
  have hc : c0 < 1000 := by omega
  have hop : oGet w 462 = (w 462, 0, w) := rfl
  refine lv_aload_n hx hb dX2_time_0 rfl (lv_at hl 0 rfl) ?_
  refine gt2 hx hb hts hown hC.1 hP 0 rfl 0 (by decide) qw118 rfl dX2_time_1 ?_
  refine gtN0 hx hb hts hown hC.1 hP 43 rfl 0 (by decide) (nf0 hC) rfl dX2_time_4 ?_
  refine w_cv (y := (w 462)) hR.i.1 ?_
  exact hret _ (((e0, e1, e2), S, B, (nI (x_)), (nI (z_)), G)) _ ls _ _ (⟨(congrArg Prod.fst hop).symm, nxC_0 hop hR rfl rfl⟩) hP hD hS dX2_time_7

set_option maxHeartbeats 4000000 in
set_option maxRecDepth 100000 in
theorem c_X2_heldMessages (l : Launch) (D : va_G) (cI cO : ClassId) (sz : Nat) (o us rg : Nat) (g : Nat → Nat) (ga : Nat → Nat → Nat) (h : Nat) (a : Nat → Nat) (lb : Nat) (e0 e1 e2 : Int32) (G : Nat → Nat → Nat → Int32) (S : Nat → Nat → Int32) (B : Nat → Int32) (w : Nat → Int32) (c0 : Nat) (hR : RC c0 S w) (x_ z_ : Nat) (hx4 : x_ < 4) (hz : z_ ≤ 4) (hc9 : c0 < 900) : Met l yX2_heldMessages (Cond.code yX2_heldMessages cX2_heldMessages 1 (some .int) :: WL) ({ frames := 0, cells := 0, slots := 0, locals := 0 } : Room) (va_Pc [.ref (o)] (PW D cI cO ([(o, .inr (2, [.ref (h), .ref (us), .ref (lb), .int e0, .int e1, .int e2]))] ++ (usS cI cO us rg g ga ((nI (x_))) ((nI (z_))) G ++ (stW cI h a S ++ ([(lb, .inl (cI, 96, .inl B))])))) sz)) (va_Qi (fun (r : Int32) (u : CV) => r = (oGet w 341).1 ∧ nxC c0 x_ z_ (e0, e1, e2) G w (oGet w 341) u) (QB D ([(o, .inr (2, [.ref (h), .ref (us), .ref (lb), .int e0, .int e1, .int e2]))] ++ (usS cI cO us rg g ga ((nI (x_))) ((nI (z_))) G ++ (stW cI h a S ++ ([(lb, .inl (cI, 96, .inl B))])))) sz (fun (u : CV) => cvU cI cO o us rg g ga h a lb u)) (va_A ([(o, .inr (2, [.ref (h), .ref (us), .ref (lb), .int e0, .int e1, .int e2]))] ++ (usS cI cO us rg g ga ((nI (x_))) ((nI (z_))) G ++ (stW cI h a S ++ ([(lb, .inl (cI, 96, .inl B))])))) sz)) 0 0 (va_A ([(o, .inr (2, [.ref (h), .ref (us), .ref (lb), .int e0, .int e1, .int e2]))] ++ (usS cI cO us rg g ga ((nI (x_))) ((nI (z_))) G ++ (stW cI h a S ++ ([(lb, .inl (cI, 96, .inl B))])))) sz) := by
  refine wr_int (by decide) (Nat.le_of_ble_eq_true rfl) ?_
  intro p e s m args below meth c Q ls A F hP hC hD hA hret hl
  have hx := F.1
  have hb := F.2.1
  have hml := F.2.2.1
  have hown := F.2.2.2.1
  have hts := F.2.2.2.2
  replace hl : lv_has ls 1 [(0, .ref (o))] := hl
  have hS : va_S A s.heap s.heap [] := va_S.rf
  have hn4 := hR.wf.n.2
  have hc : c0 < 1000 := by omega
  have hop : oGet w 341 = (w 341, 0, w) := rfl
  refine lv_aload_n hx hb dX2_heldMessages_0 rfl (lv_at hl 0 rfl) ?_
  refine gt2 hx hb hts hown hC.1 hP 0 rfl 0 (by decide) qw118 rfl dX2_heldMessages_1 ?_
  refine gtN0 hx hb hts hown hC.1 hP 43 rfl 9 (by decide) (nf8 hC) rfl dX2_heldMessages_4 ?_
  refine w_cv (y := (w 341)) hR.i.2.2.2.2.2.2.2.2.2 ?_
  exact hret _ (((e0, e1, e2), S, B, (nI (x_)), (nI (z_)), G)) _ ls _ _ (⟨(congrArg Prod.fst hop).symm, nxC_0 hop hR rfl rfl⟩) hP hD hS dX2_heldMessages_7

set_option maxHeartbeats 4000000 in
set_option maxRecDepth 100000 in
theorem c_X2_delivered (l : Launch) (D : va_G) (cI cO : ClassId) (sz : Nat) (o us rg : Nat) (g : Nat → Nat) (ga : Nat → Nat → Nat) (h : Nat) (a : Nat → Nat) (lb : Nat) (e0 e1 e2 : Int32) (G : Nat → Nat → Nat → Int32) (S : Nat → Nat → Int32) (B : Nat → Int32) (w : Nat → Int32) (c0 : Nat) (hR : RC c0 S w) (x_ z_ : Nat) (hx4 : x_ < 4) (hz : z_ ≤ 4) (hc9 : c0 < 900) : Met l yX2_delivered (Cond.code yX2_delivered cX2_delivered 1 (some .int) :: WL) ({ frames := 0, cells := 0, slots := 0, locals := 0 } : Room) (va_Pc [.ref (o)] (PW D cI cO ([(o, .inr (2, [.ref (h), .ref (us), .ref (lb), .int e0, .int e1, .int e2]))] ++ (usS cI cO us rg g ga ((nI (x_))) ((nI (z_))) G ++ (stW cI h a S ++ ([(lb, .inl (cI, 96, .inl B))])))) sz)) (va_Qi (fun (r : Int32) (u : CV) => r = (oGet w 465).1 ∧ nxC c0 x_ z_ (e0, e1, e2) G w (oGet w 465) u) (QB D ([(o, .inr (2, [.ref (h), .ref (us), .ref (lb), .int e0, .int e1, .int e2]))] ++ (usS cI cO us rg g ga ((nI (x_))) ((nI (z_))) G ++ (stW cI h a S ++ ([(lb, .inl (cI, 96, .inl B))])))) sz (fun (u : CV) => cvU cI cO o us rg g ga h a lb u)) (va_A ([(o, .inr (2, [.ref (h), .ref (us), .ref (lb), .int e0, .int e1, .int e2]))] ++ (usS cI cO us rg g ga ((nI (x_))) ((nI (z_))) G ++ (stW cI h a S ++ ([(lb, .inl (cI, 96, .inl B))])))) sz)) 0 0 (va_A ([(o, .inr (2, [.ref (h), .ref (us), .ref (lb), .int e0, .int e1, .int e2]))] ++ (usS cI cO us rg g ga ((nI (x_))) ((nI (z_))) G ++ (stW cI h a S ++ ([(lb, .inl (cI, 96, .inl B))])))) sz) := by
  refine wr_int (by decide) (Nat.le_of_ble_eq_true rfl) ?_
  intro p e s m args below meth c Q ls A F hP hC hD hA hret hl
  have hx := F.1
  have hb := F.2.1
  have hml := F.2.2.1
  have hown := F.2.2.2.1
  have hts := F.2.2.2.2
  replace hl : lv_has ls 1 [(0, .ref (o))] := hl
  have hS : va_S A s.heap s.heap [] := va_S.rf
  have hn4 := hR.wf.n.2
  have hc : c0 < 1000 := by omega
  have hop : oGet w 465 = (w 465, 0, w) := rfl
  refine lv_aload_n hx hb dX2_delivered_0 rfl (lv_at hl 0 rfl) ?_
  refine gt2 hx hb hts hown hC.1 hP 0 rfl 0 (by decide) qw118 rfl dX2_delivered_1 ?_
  refine gtN0 hx hb hts hown hC.1 hP 43 rfl 3 (by decide) (nf2 hC) rfl dX2_delivered_4 ?_
  refine w_cv (y := (w 465)) hR.i.2.2.2.1 ?_
  exact hret _ (((e0, e1, e2), S, B, (nI (x_)), (nI (z_)), G)) _ ls _ _ (⟨(congrArg Prod.fst hop).symm, nxC_0 hop hR rfl rfl⟩) hP hD hS dX2_delivered_7

set_option maxHeartbeats 4000000 in
set_option maxRecDepth 100000 in
theorem c_X2_overtaken (l : Launch) (D : va_G) (cI cO : ClassId) (sz : Nat) (o us rg : Nat) (g : Nat → Nat) (ga : Nat → Nat → Nat) (h : Nat) (a : Nat → Nat) (lb : Nat) (e0 e1 e2 : Int32) (G : Nat → Nat → Nat → Int32) (S : Nat → Nat → Int32) (B : Nat → Int32) (w : Nat → Int32) (c0 : Nat) (hR : RC c0 S w) (x_ z_ : Nat) (hx4 : x_ < 4) (hz : z_ ≤ 4) (hc9 : c0 < 900) : Met l yX2_overtaken (Cond.code yX2_overtaken cX2_overtaken 1 (some .int) :: WL) ({ frames := 0, cells := 0, slots := 0, locals := 0 } : Room) (va_Pc [.ref (o)] (PW D cI cO ([(o, .inr (2, [.ref (h), .ref (us), .ref (lb), .int e0, .int e1, .int e2]))] ++ (usS cI cO us rg g ga ((nI (x_))) ((nI (z_))) G ++ (stW cI h a S ++ ([(lb, .inl (cI, 96, .inl B))])))) sz)) (va_Qi (fun (r : Int32) (u : CV) => r = (oGet w 466).1 ∧ nxC c0 x_ z_ (e0, e1, e2) G w (oGet w 466) u) (QB D ([(o, .inr (2, [.ref (h), .ref (us), .ref (lb), .int e0, .int e1, .int e2]))] ++ (usS cI cO us rg g ga ((nI (x_))) ((nI (z_))) G ++ (stW cI h a S ++ ([(lb, .inl (cI, 96, .inl B))])))) sz (fun (u : CV) => cvU cI cO o us rg g ga h a lb u)) (va_A ([(o, .inr (2, [.ref (h), .ref (us), .ref (lb), .int e0, .int e1, .int e2]))] ++ (usS cI cO us rg g ga ((nI (x_))) ((nI (z_))) G ++ (stW cI h a S ++ ([(lb, .inl (cI, 96, .inl B))])))) sz)) 0 0 (va_A ([(o, .inr (2, [.ref (h), .ref (us), .ref (lb), .int e0, .int e1, .int e2]))] ++ (usS cI cO us rg g ga ((nI (x_))) ((nI (z_))) G ++ (stW cI h a S ++ ([(lb, .inl (cI, 96, .inl B))])))) sz) := by
  refine wr_int (by decide) (Nat.le_of_ble_eq_true rfl) ?_
  intro p e s m args below meth c Q ls A F hP hC hD hA hret hl
  have hx := F.1
  have hb := F.2.1
  have hml := F.2.2.1
  have hown := F.2.2.2.1
  have hts := F.2.2.2.2
  replace hl : lv_has ls 1 [(0, .ref (o))] := hl
  have hS : va_S A s.heap s.heap [] := va_S.rf
  have hn4 := hR.wf.n.2
  have hc : c0 < 1000 := by omega
  have hop : oGet w 466 = (w 466, 0, w) := rfl
  refine lv_aload_n hx hb dX2_overtaken_0 rfl (lv_at hl 0 rfl) ?_
  refine gt2 hx hb hts hown hC.1 hP 0 rfl 0 (by decide) qw118 rfl dX2_overtaken_1 ?_
  refine gtN0 hx hb hts hown hC.1 hP 43 rfl 4 (by decide) (nf3 hC) rfl dX2_overtaken_4 ?_
  refine w_cv (y := (w 466)) hR.i.2.2.2.2.1 ?_
  exact hret _ (((e0, e1, e2), S, B, (nI (x_)), (nI (z_)), G)) _ ls _ _ (⟨(congrArg Prod.fst hop).symm, nxC_0 hop hR rfl rfl⟩) hP hD hS dX2_overtaken_7

set_option maxHeartbeats 4000000 in
set_option maxRecDepth 100000 in
theorem c_X2_unreachable (l : Launch) (D : va_G) (cI cO : ClassId) (sz : Nat) (o us rg : Nat) (g : Nat → Nat) (ga : Nat → Nat → Nat) (h : Nat) (a : Nat → Nat) (lb : Nat) (e0 e1 e2 : Int32) (G : Nat → Nat → Nat → Int32) (S : Nat → Nat → Int32) (B : Nat → Int32) (w : Nat → Int32) (c0 : Nat) (hR : RC c0 S w) (x_ z_ : Nat) (hx4 : x_ < 4) (hz : z_ ≤ 4) (hc9 : c0 < 900) : Met l yX2_unreachable (Cond.code yX2_unreachable cX2_unreachable 1 (some .int) :: WL) ({ frames := 0, cells := 0, slots := 0, locals := 0 } : Room) (va_Pc [.ref (o)] (PW D cI cO ([(o, .inr (2, [.ref (h), .ref (us), .ref (lb), .int e0, .int e1, .int e2]))] ++ (usS cI cO us rg g ga ((nI (x_))) ((nI (z_))) G ++ (stW cI h a S ++ ([(lb, .inl (cI, 96, .inl B))])))) sz)) (va_Qi (fun (r : Int32) (u : CV) => r = (oGet w 467).1 ∧ nxC c0 x_ z_ (e0, e1, e2) G w (oGet w 467) u) (QB D ([(o, .inr (2, [.ref (h), .ref (us), .ref (lb), .int e0, .int e1, .int e2]))] ++ (usS cI cO us rg g ga ((nI (x_))) ((nI (z_))) G ++ (stW cI h a S ++ ([(lb, .inl (cI, 96, .inl B))])))) sz (fun (u : CV) => cvU cI cO o us rg g ga h a lb u)) (va_A ([(o, .inr (2, [.ref (h), .ref (us), .ref (lb), .int e0, .int e1, .int e2]))] ++ (usS cI cO us rg g ga ((nI (x_))) ((nI (z_))) G ++ (stW cI h a S ++ ([(lb, .inl (cI, 96, .inl B))])))) sz)) 0 0 (va_A ([(o, .inr (2, [.ref (h), .ref (us), .ref (lb), .int e0, .int e1, .int e2]))] ++ (usS cI cO us rg g ga ((nI (x_))) ((nI (z_))) G ++ (stW cI h a S ++ ([(lb, .inl (cI, 96, .inl B))])))) sz) := by
  refine wr_int (by decide) (Nat.le_of_ble_eq_true rfl) ?_
  intro p e s m args below meth c Q ls A F hP hC hD hA hret hl
  have hx := F.1
  have hb := F.2.1
  have hml := F.2.2.1
  have hown := F.2.2.2.1
  have hts := F.2.2.2.2
  replace hl : lv_has ls 1 [(0, .ref (o))] := hl
  have hS : va_S A s.heap s.heap [] := va_S.rf
  have hn4 := hR.wf.n.2
  have hc : c0 < 1000 := by omega
  have hop : oGet w 467 = (w 467, 0, w) := rfl
  refine lv_aload_n hx hb dX2_unreachable_0 rfl (lv_at hl 0 rfl) ?_
  refine gt2 hx hb hts hown hC.1 hP 0 rfl 0 (by decide) qw118 rfl dX2_unreachable_1 ?_
  refine gtN0 hx hb hts hown hC.1 hP 43 rfl 5 (by decide) (nf4 hC) rfl dX2_unreachable_4 ?_
  refine w_cv (y := (w 467)) hR.i.2.2.2.2.2.1 ?_
  exact hret _ (((e0, e1, e2), S, B, (nI (x_)), (nI (z_)), G)) _ ls _ _ (⟨(congrArg Prod.fst hop).symm, nxC_0 hop hR rfl rfl⟩) hP hD hS dX2_unreachable_7

set_option maxHeartbeats 4000000 in
set_option maxRecDepth 100000 in
theorem c_X2_congested (l : Launch) (D : va_G) (cI cO : ClassId) (sz : Nat) (o us rg : Nat) (g : Nat → Nat) (ga : Nat → Nat → Nat) (h : Nat) (a : Nat → Nat) (lb : Nat) (e0 e1 e2 : Int32) (G : Nat → Nat → Nat → Int32) (S : Nat → Nat → Int32) (B : Nat → Int32) (w : Nat → Int32) (c0 : Nat) (hR : RC c0 S w) (x_ z_ : Nat) (hx4 : x_ < 4) (hz : z_ ≤ 4) (hc9 : c0 < 900) : Met l yX2_congested (Cond.code yX2_congested cX2_congested 1 (some .int) :: WL) ({ frames := 0, cells := 0, slots := 0, locals := 0 } : Room) (va_Pc [.ref (o)] (PW D cI cO ([(o, .inr (2, [.ref (h), .ref (us), .ref (lb), .int e0, .int e1, .int e2]))] ++ (usS cI cO us rg g ga ((nI (x_))) ((nI (z_))) G ++ (stW cI h a S ++ ([(lb, .inl (cI, 96, .inl B))])))) sz)) (va_Qi (fun (r : Int32) (u : CV) => r = (oGet w 468).1 ∧ nxC c0 x_ z_ (e0, e1, e2) G w (oGet w 468) u) (QB D ([(o, .inr (2, [.ref (h), .ref (us), .ref (lb), .int e0, .int e1, .int e2]))] ++ (usS cI cO us rg g ga ((nI (x_))) ((nI (z_))) G ++ (stW cI h a S ++ ([(lb, .inl (cI, 96, .inl B))])))) sz (fun (u : CV) => cvU cI cO o us rg g ga h a lb u)) (va_A ([(o, .inr (2, [.ref (h), .ref (us), .ref (lb), .int e0, .int e1, .int e2]))] ++ (usS cI cO us rg g ga ((nI (x_))) ((nI (z_))) G ++ (stW cI h a S ++ ([(lb, .inl (cI, 96, .inl B))])))) sz)) 0 0 (va_A ([(o, .inr (2, [.ref (h), .ref (us), .ref (lb), .int e0, .int e1, .int e2]))] ++ (usS cI cO us rg g ga ((nI (x_))) ((nI (z_))) G ++ (stW cI h a S ++ ([(lb, .inl (cI, 96, .inl B))])))) sz) := by
  refine wr_int (by decide) (Nat.le_of_ble_eq_true rfl) ?_
  intro p e s m args below meth c Q ls A F hP hC hD hA hret hl
  have hx := F.1
  have hb := F.2.1
  have hml := F.2.2.1
  have hown := F.2.2.2.1
  have hts := F.2.2.2.2
  replace hl : lv_has ls 1 [(0, .ref (o))] := hl
  have hS : va_S A s.heap s.heap [] := va_S.rf
  have hn4 := hR.wf.n.2
  have hc : c0 < 1000 := by omega
  have hop : oGet w 468 = (w 468, 0, w) := rfl
  refine lv_aload_n hx hb dX2_congested_0 rfl (lv_at hl 0 rfl) ?_
  refine gt2 hx hb hts hown hC.1 hP 0 rfl 0 (by decide) qw118 rfl dX2_congested_1 ?_
  refine gtN0 hx hb hts hown hC.1 hP 43 rfl 6 (by decide) (nf5 hC) rfl dX2_congested_4 ?_
  refine w_cv (y := (w 468)) hR.i.2.2.2.2.2.2.1 ?_
  exact hret _ (((e0, e1, e2), S, B, (nI (x_)), (nI (z_)), G)) _ ls _ _ (⟨(congrArg Prod.fst hop).symm, nxC_0 hop hR rfl rfl⟩) hP hD hS dX2_congested_7

set_option maxHeartbeats 4000000 in
set_option maxRecDepth 100000 in
theorem c_X2_lost (l : Launch) (D : va_G) (cI cO : ClassId) (sz : Nat) (o us rg : Nat) (g : Nat → Nat) (ga : Nat → Nat → Nat) (h : Nat) (a : Nat → Nat) (lb : Nat) (e0 e1 e2 : Int32) (G : Nat → Nat → Nat → Int32) (S : Nat → Nat → Int32) (B : Nat → Int32) (w : Nat → Int32) (c0 : Nat) (hR : RC c0 S w) (x_ z_ : Nat) (hx4 : x_ < 4) (hz : z_ ≤ 4) (hc9 : c0 < 900) : Met l yX2_lost (Cond.code yX2_lost cX2_lost 1 (some .int) :: WL) ({ frames := 0, cells := 0, slots := 0, locals := 0 } : Room) (va_Pc [.ref (o)] (PW D cI cO ([(o, .inr (2, [.ref (h), .ref (us), .ref (lb), .int e0, .int e1, .int e2]))] ++ (usS cI cO us rg g ga ((nI (x_))) ((nI (z_))) G ++ (stW cI h a S ++ ([(lb, .inl (cI, 96, .inl B))])))) sz)) (va_Qi (fun (r : Int32) (u : CV) => r = (oGet w 469).1 ∧ nxC c0 x_ z_ (e0, e1, e2) G w (oGet w 469) u) (QB D ([(o, .inr (2, [.ref (h), .ref (us), .ref (lb), .int e0, .int e1, .int e2]))] ++ (usS cI cO us rg g ga ((nI (x_))) ((nI (z_))) G ++ (stW cI h a S ++ ([(lb, .inl (cI, 96, .inl B))])))) sz (fun (u : CV) => cvU cI cO o us rg g ga h a lb u)) (va_A ([(o, .inr (2, [.ref (h), .ref (us), .ref (lb), .int e0, .int e1, .int e2]))] ++ (usS cI cO us rg g ga ((nI (x_))) ((nI (z_))) G ++ (stW cI h a S ++ ([(lb, .inl (cI, 96, .inl B))])))) sz)) 0 0 (va_A ([(o, .inr (2, [.ref (h), .ref (us), .ref (lb), .int e0, .int e1, .int e2]))] ++ (usS cI cO us rg g ga ((nI (x_))) ((nI (z_))) G ++ (stW cI h a S ++ ([(lb, .inl (cI, 96, .inl B))])))) sz) := by
  refine wr_int (by decide) (Nat.le_of_ble_eq_true rfl) ?_
  intro p e s m args below meth c Q ls A F hP hC hD hA hret hl
  have hx := F.1
  have hb := F.2.1
  have hml := F.2.2.1
  have hown := F.2.2.2.1
  have hts := F.2.2.2.2
  replace hl : lv_has ls 1 [(0, .ref (o))] := hl
  have hS : va_S A s.heap s.heap [] := va_S.rf
  have hn4 := hR.wf.n.2
  have hc : c0 < 1000 := by omega
  have hop : oGet w 469 = (w 469, 0, w) := rfl
  refine lv_aload_n hx hb dX2_lost_0 rfl (lv_at hl 0 rfl) ?_
  refine gt2 hx hb hts hown hC.1 hP 0 rfl 0 (by decide) qw118 rfl dX2_lost_1 ?_
  refine gtN0 hx hb hts hown hC.1 hP 43 rfl 7 (by decide) (nf6 hC) rfl dX2_lost_4 ?_
  refine w_cv (y := (w 469)) hR.i.2.2.2.2.2.2.2.1 ?_
  exact hret _ (((e0, e1, e2), S, B, (nI (x_)), (nI (z_)), G)) _ ls _ _ (⟨(congrArg Prod.fst hop).symm, nxC_0 hop hR rfl rfl⟩) hP hD hS dX2_lost_7

set_option maxHeartbeats 4000000 in
set_option maxRecDepth 100000 in
theorem c_X2_addLinkset (l : Launch) (D : va_G) (cI cO : ClassId) (sz : Nat) (o us rg : Nat) (g : Nat → Nat) (ga : Nat → Nat → Nat) (h : Nat) (a : Nat → Nat) (lb : Nat) (e0 e1 e2 : Int32) (G : Nat → Nat → Nat → Int32) (S : Nat → Nat → Int32) (B : Nat → Int32) (w : Nat → Int32) (c0 : Nat) (hR : RC c0 S w) (x_ z_ : Nat) (hx4 : x_ < 4) (hz : z_ ≤ 4) (hc9 : c0 < 900) (x : Int32) : Met l yX2_addLinkset (Cond.code yX2_addLinkset cX2_addLinkset 2 (some .int) :: WL) ({ frames := 4, cells := 0, slots := 0, locals := 103 } : Room) (va_Pc [.ref (o), .int (x)] (PW D cI cO ([(o, .inr (2, [.ref (h), .ref (us), .ref (lb), .int e0, .int e1, .int e2]))] ++ (usS cI cO us rg g ga ((nI (x_))) ((nI (z_))) G ++ (stW cI h a S ++ ([(lb, .inl (cI, 96, .inl B))])))) sz)) (va_Qi (fun (r : Int32) (u : CV) => r = (oAdd w x).1 ∧ nxC c0 x_ z_ (e0, e1, e2) G w (oAdd w x) u) (QB D ([(o, .inr (2, [.ref (h), .ref (us), .ref (lb), .int e0, .int e1, .int e2]))] ++ (usS cI cO us rg g ga ((nI (x_))) ((nI (z_))) G ++ (stW cI h a S ++ ([(lb, .inl (cI, 96, .inl B))])))) sz (fun (u : CV) => cvU cI cO o us rg g ga h a lb u)) (va_A ([(o, .inr (2, [.ref (h), .ref (us), .ref (lb), .int e0, .int e1, .int e2]))] ++ (usS cI cO us rg g ga ((nI (x_))) ((nI (z_))) G ++ (stW cI h a S ++ ([(lb, .inl (cI, 96, .inl B))])))) sz)) 0 0 (va_A ([(o, .inr (2, [.ref (h), .ref (us), .ref (lb), .int e0, .int e1, .int e2]))] ++ (usS cI cO us rg g ga ((nI (x_))) ((nI (z_))) G ++ (stW cI h a S ++ ([(lb, .inl (cI, 96, .inl B))])))) sz) := by
  refine wr_int (by decide) (Nat.le_of_ble_eq_true rfl) ?_
  intro p e s m args below meth c Q ls A F hP hC hD hA hret hl
  have hx := F.1
  have hb := F.2.1
  have hml := F.2.2.1
  have hown := F.2.2.2.1
  have hts := F.2.2.2.2
  replace hl : lv_has ls 2 [(0, .ref (o)), (1, .int (x))] := hl
  have hS : va_S A s.heap s.heap [] := va_S.rf
  have hn4 := hR.wf.n.2
  have hc : c0 < 1000 := by omega
  refine lv_iload_n hx hb dX2_addLinkset_0 rfl (lv_at hl 1 rfl) ?_
  refine lv_iconst (v := (nI (1))) hx hb dX2_addLinkset_1 (by decide) ?_
  refine lv_icmp_lt (tgt := 10) hx hb dX2_addLinkset_2 (by decide)  (fun c_2 => ?_) (fun c_2 => ?_)
  · have hop : oAdd w x = (-2, 2, w) := itc_f (fun q => Int32.not_lt.mpr q.1 c_2)
    refine lv_aload_n hx hb dX2_addLinkset_10 rfl (lv_at hl 0 rfl) ?_
    refine goWi (pre := []) (wc := [(o, .inr (2, [.ref (h), .ref (us), .ref (lb), .int e0, .int e1, .int e2]))]) (suf := usS cI cO us rg g ga ((nI (x_))) ((nI (z_))) G ++ (stW cI h a S ++ ([(lb, .inl (cI, 96, .inl B))]))) (kV (As := []) (rest := []) F (c_X2_invalid l D cI cO _ o h us lb e0 e1 e2) ywX2_invalid qw141 qw143 qs0 ⟨rfl, rfl⟩ ⟨Nat.le_of_ble_eq_true rfl, Nat.le_of_ble_eq_true rfl⟩ (preV (preW (va_pl0 hP) hC (va_dl hD)) hC hP (ci := 2) (q0 := 0) rfl rfl rfl) rfl hl.1 rfl (Nat.le_of_ble_eq_true rfl) dX2_addLinkset_11 ⟨Nat.zero_le _, Nat.zero_le _⟩) (by simpa only [List.append_assoc, List.nil_append, List.append_nil] using hP) (by simpa only [List.append_assoc, List.nil_append, List.append_nil] using hD) hS hA (fun r_11 e_1 H locs h_11 hP hD hS => ?_)
    replace hP : va_P D vwCl ([(o, .inr (2, [.ref (h), .ref (us), .ref (lb), .int e_1, .int e1, .int e2]))] ++ (usS cI cO us rg g ga ((nI (x_))) ((nI (z_))) G ++ (stW cI h a S ++ ([(lb, .inl (cI, 96, .inl B))])))) H := by simpa only [List.append_assoc, List.nil_append, List.append_nil] using hP
    replace hD : va_D A ([(o, .inr (2, [.ref (h), .ref (us), .ref (lb), .int e_1, .int e1, .int e2]))] ++ (usS cI cO us rg g ga ((nI (x_))) ((nI (z_))) G ++ (stW cI h a S ++ ([(lb, .inl (cI, 96, .inl B))])))) := by simpa only [List.append_assoc, List.nil_append, List.append_nil] using hD
    obtain ⟨h_11, k_11⟩ := h_11
    subst h_11
    exact hret _ (((e_1, e1, e2), S, B, (nI (x_)), (nI (z_)), G)) _ ls _ _ (⟨(congrArg Prod.fst hop).symm, nxC_e (e := 0) hop (by rw [k_11]; rfl) hR rfl rfl⟩) hP hD hS dX2_addLinkset_14
  · refine lv_iload_n hx hb dX2_addLinkset_5 rfl (lv_at hl 1 rfl) ?_
    refine lv_iconst (v := (nI (4))) hx hb dX2_addLinkset_6 (by decide) ?_
    refine lv_icmp_le (tgt := 15) hx hb dX2_addLinkset_7 (by decide)  (fun c_7 => ?_) (fun c_7 => ?_)
    · have hv9 : nI 1 ≤ x ∧ x ≤ nI 4 := ⟨Int32.not_lt.mp c_2, c_7⟩
      obtain ⟨m0, hm1, hm4, rfl⟩ := in_ab (by decide) (id hv9) (by decide)
      refine lv_aload_n hx hb dX2_addLinkset_15 rfl (lv_at hl 0 rfl) ?_
      refine gt2 hx hb hts hown hC.1 hP 0 rfl 0 (by decide) qw118 rfl dX2_addLinkset_16 ?_
      refine gtN0 hx hb hts hown hC.1 hP 43 rfl 8 (by decide) (nf7 hC) rfl dX2_addLinkset_19 ?_
      refine w_cv (y := (nI (nn w))) hR.n ?_
      refine lv_iconst (v := (nI (4))) hx hb dX2_addLinkset_22 (by decide) ?_
      refine n_icmp_lt (tgt := 31) hx hb dX2_addLinkset_23 (by decide) (by omega) (by omega) (fun c_23 => ?_) (fun c_23 => ?_)
      · have hop : oAdd w (nI m0) = (nI (nn w), 1, addR w m0) := by unfold oAdd; rw [itc_t hv9, if_neg (by omega), nv_nI (by omega)]
        refine lv_aload_n hx hb dX2_addLinkset_31 rfl (lv_at hl 0 rfl) ?_
        refine gt2 hx hb hts hown hC.1 hP 0 rfl 1 (by decide) qw119 rfl dX2_addLinkset_32 ?_
        refine lv_aload_n hx hb dX2_addLinkset_35 rfl (lv_at hl 0 rfl) ?_
        refine gt2 hx hb hts hown hC.1 hP 0 rfl 0 (by decide) qw118 rfl dX2_addLinkset_36 ?_
        refine goWv (pre := [(o, .inr (2, [.ref (h), .ref (us), .ref (lb), .int e0, .int e1, .int e2]))]) (wc := usS cI cO us rg g ga ((nI (x_))) ((nI (z_))) G ++ (stW cI h a S)) (suf := [(lb, .inl (cI, 96, .inl B))]) (kVN (As := [.ref (h)]) (rest := []) F (c_X1_save l D cI cO _ us rg g ga G ((nI (z_))) h a S x_ hx4 z_ hz rfl) ywX1_save (nk3 hC) qw151 qs2 ⟨rfl, rfl⟩ ⟨Nat.le_of_ble_eq_true rfl, Nat.le_of_ble_eq_true rfl⟩ (preV (preW (va_pl0 (x := usS cI cO us rg g ga ((nI (x_))) ((nI (z_))) G ++ (stW cI h a S)) (y := [(lb, .inl (cI, 96, .inl B))]) (by simpa only [List.append_assoc] using (va_pr0 hP))) hC (va_dl (x := usS cI cO us rg g ga ((nI (x_))) ((nI (z_))) G ++ (stW cI h a S)) (y := [(lb, .inl (cI, 96, .inl B))]) (by simpa only [List.append_assoc] using (va_dr hD)))) hC hP (ci := 1) (q0 := 1) rfl rfl rfl) rfl hl.1 rfl (Nat.le_of_ble_eq_true rfl) dX2_addLinkset_39 ⟨Nat.zero_le _, Nat.zero_le _⟩) (by simpa only [List.append_assoc, List.nil_append, List.append_nil] using hP) (by simpa only [List.append_assoc, List.nil_append, List.append_nil] using hD) hS hA (fun u_1 H locs h_39 hP hD hS => ?_)
        obtain ⟨G_1, nx_1, sz_1⟩ := u_1
        replace hP : va_P D vwCl ([(o, .inr (2, [.ref (h), .ref (us), .ref (lb), .int e0, .int e1, .int e2]))] ++ (usS cI cO us rg g ga nx_1 sz_1 G_1 ++ (stW cI h a S ++ ([(lb, .inl (cI, 96, .inl B))])))) H := by simpa only [List.append_assoc, List.nil_append, List.append_nil] using hP
        replace hD : va_D A ([(o, .inr (2, [.ref (h), .ref (us), .ref (lb), .int e0, .int e1, .int e2]))] ++ (usS cI cO us rg g ga nx_1 sz_1 G_1 ++ (stW cI h a S ++ ([(lb, .inl (cI, 96, .inl B))])))) := by simpa only [List.append_assoc, List.nil_append, List.append_nil] using hD
        refine lv_aload_n hx hb dX2_addLinkset_42 rfl (lv_at hl 0 rfl) ?_
        refine gt2 hx hb hts hown hC.1 hP 0 rfl 0 (by decide) qw118 rfl dX2_addLinkset_43 ?_
        refine lv_iload_n hx hb dX2_addLinkset_46 rfl (lv_at hl 1 rfl) ?_
        refine goWi (pre := [(o, .inr (2, [.ref (h), .ref (us), .ref (lb), .int e0, .int e1, .int e2]))] ++ (usS cI cO us rg g ga nx_1 sz_1 G_1)) (wc := stW cI h a S) (suf := [(lb, .inl (cI, 96, .inl B))]) (kVN (As := [.int (nI (m0))]) (rest := []) F (c_X0_appendLinkset l D cI cO _ h a S w c0 hR (m0) (by omega) (by omega) (by omega)) ywX0_appendLinkset (nk5 hC) qw169 qs4 ⟨rfl, rfl⟩ ⟨Nat.le_of_ble_eq_true rfl, Nat.le_of_ble_eq_true rfl⟩ (preV (preW (va_pl0 (va_pr0 (va_pr0 hP))) hC (va_dl (va_dr (va_dr hD)))) hC hP (ci := 0) (q0 := 43) rfl rfl rfl) rfl hl.1 rfl (Nat.le_of_ble_eq_true rfl) dX2_addLinkset_47 ⟨Nat.zero_le _, Nat.zero_le _⟩) (by simpa only [List.append_assoc, List.nil_append, List.append_nil] using hP) (by simpa only [List.append_assoc, List.nil_append, List.append_nil] using hD) hS hA (fun r_47 T_1 H locs h_47 hP hD hS => ?_)
        replace hP : va_P D vwCl ([(o, .inr (2, [.ref (h), .ref (us), .ref (lb), .int e0, .int e1, .int e2]))] ++ (usS cI cO us rg g ga nx_1 sz_1 G_1 ++ (stW cI h a T_1 ++ ([(lb, .inl (cI, 96, .inl B))])))) H := by simpa only [List.append_assoc, List.nil_append, List.append_nil] using hP
        replace hD : va_D A ([(o, .inr (2, [.ref (h), .ref (us), .ref (lb), .int e0, .int e1, .int e2]))] ++ (usS cI cO us rg g ga nx_1 sz_1 G_1 ++ (stW cI h a T_1 ++ ([(lb, .inl (cI, 96, .inl B))])))) := by simpa only [List.append_assoc, List.nil_append, List.append_nil] using hD
        obtain ⟨h_47, k_47⟩ := h_47
        subst h_47
        exact hret _ (((e0, e1, e2), T_1, B, nx_1, sz_1, G_1)) _ ls _ _ (⟨(congrArg Prod.fst hop).symm, nxC_1 hop (k_47.mono (by omega)) hR h_39⟩) hP hD hS dX2_addLinkset_50
      · have hop : oAdd w (nI m0) = (-4, 4, w) := by unfold oAdd; rw [itc_t hv9, if_pos (by omega)]
        refine lv_aload_n hx hb dX2_addLinkset_26 rfl (lv_at hl 0 rfl) ?_
        refine goWi (pre := []) (wc := [(o, .inr (2, [.ref (h), .ref (us), .ref (lb), .int e0, .int e1, .int e2]))]) (suf := usS cI cO us rg g ga ((nI (x_))) ((nI (z_))) G ++ (stW cI h a S ++ ([(lb, .inl (cI, 96, .inl B))]))) (kV (As := []) (rest := []) F (c_X2_full l D cI cO _ o h us lb e0 e1 e2) ywX2_full qw145 qw147 qs1 ⟨rfl, rfl⟩ ⟨Nat.le_of_ble_eq_true rfl, Nat.le_of_ble_eq_true rfl⟩ (preV (preW (va_pl0 hP) hC (va_dl hD)) hC hP (ci := 2) (q0 := 0) rfl rfl rfl) rfl hl.1 rfl (Nat.le_of_ble_eq_true rfl) dX2_addLinkset_27 ⟨Nat.zero_le _, Nat.zero_le _⟩) (by simpa only [List.append_assoc, List.nil_append, List.append_nil] using hP) (by simpa only [List.append_assoc, List.nil_append, List.append_nil] using hD) hS hA (fun r_27 e_2 H locs h_27 hP hD hS => ?_)
        replace hP : va_P D vwCl ([(o, .inr (2, [.ref (h), .ref (us), .ref (lb), .int e0, .int e1, .int e_2]))] ++ (usS cI cO us rg g ga ((nI (x_))) ((nI (z_))) G ++ (stW cI h a S ++ ([(lb, .inl (cI, 96, .inl B))])))) H := by simpa only [List.append_assoc, List.nil_append, List.append_nil] using hP
        replace hD : va_D A ([(o, .inr (2, [.ref (h), .ref (us), .ref (lb), .int e0, .int e1, .int e_2]))] ++ (usS cI cO us rg g ga ((nI (x_))) ((nI (z_))) G ++ (stW cI h a S ++ ([(lb, .inl (cI, 96, .inl B))])))) := by simpa only [List.append_assoc, List.nil_append, List.append_nil] using hD
        obtain ⟨h_27, k_27⟩ := h_27
        subst h_27
        exact hret _ (((e0, e1, e_2), S, B, (nI (x_)), (nI (z_)), G)) _ ls _ _ (⟨(congrArg Prod.fst hop).symm, nxC_e (e := 2) hop (by rw [k_27]; rfl) hR rfl rfl⟩) hP hD hS dX2_addLinkset_30
    · have hop : oAdd w x = (-2, 2, w) := itc_f (fun q => c_7 q.2)
      refine lv_aload_n hx hb dX2_addLinkset_10 rfl (lv_at hl 0 rfl) ?_
      refine goWi (pre := []) (wc := [(o, .inr (2, [.ref (h), .ref (us), .ref (lb), .int e0, .int e1, .int e2]))]) (suf := usS cI cO us rg g ga ((nI (x_))) ((nI (z_))) G ++ (stW cI h a S ++ ([(lb, .inl (cI, 96, .inl B))]))) (kV (As := []) (rest := []) F (c_X2_invalid l D cI cO _ o h us lb e0 e1 e2) ywX2_invalid qw141 qw143 qs0 ⟨rfl, rfl⟩ ⟨Nat.le_of_ble_eq_true rfl, Nat.le_of_ble_eq_true rfl⟩ (preV (preW (va_pl0 hP) hC (va_dl hD)) hC hP (ci := 2) (q0 := 0) rfl rfl rfl) rfl hl.1 rfl (Nat.le_of_ble_eq_true rfl) dX2_addLinkset_11 ⟨Nat.zero_le _, Nat.zero_le _⟩) (by simpa only [List.append_assoc, List.nil_append, List.append_nil] using hP) (by simpa only [List.append_assoc, List.nil_append, List.append_nil] using hD) hS hA (fun r_11 e_3 H locs h_11 hP hD hS => ?_)
      replace hP : va_P D vwCl ([(o, .inr (2, [.ref (h), .ref (us), .ref (lb), .int e_3, .int e1, .int e2]))] ++ (usS cI cO us rg g ga ((nI (x_))) ((nI (z_))) G ++ (stW cI h a S ++ ([(lb, .inl (cI, 96, .inl B))])))) H := by simpa only [List.append_assoc, List.nil_append, List.append_nil] using hP
      replace hD : va_D A ([(o, .inr (2, [.ref (h), .ref (us), .ref (lb), .int e_3, .int e1, .int e2]))] ++ (usS cI cO us rg g ga ((nI (x_))) ((nI (z_))) G ++ (stW cI h a S ++ ([(lb, .inl (cI, 96, .inl B))])))) := by simpa only [List.append_assoc, List.nil_append, List.append_nil] using hD
      obtain ⟨h_11, k_11⟩ := h_11
      subst h_11
      exact hret _ (((e_3, e1, e2), S, B, (nI (x_)), (nI (z_)), G)) _ ls _ _ (⟨(congrArg Prod.fst hop).symm, nxC_e (e := 0) hop (by rw [k_11]; rfl) hR rfl rfl⟩) hP hD hS dX2_addLinkset_14

set_option maxHeartbeats 4000000 in
set_option maxRecDepth 100000 in
theorem c_X2_failLink (l : Launch) (D : va_G) (cI cO : ClassId) (sz : Nat) (o us rg : Nat) (g : Nat → Nat) (ga : Nat → Nat → Nat) (h : Nat) (a : Nat → Nat) (lb : Nat) (e0 e1 e2 : Int32) (G : Nat → Nat → Nat → Int32) (S : Nat → Nat → Int32) (B : Nat → Int32) (w : Nat → Int32) (c0 : Nat) (hR : RC c0 S w) (x_ z_ : Nat) (hx4 : x_ < 4) (hz : z_ ≤ 4) (hc9 : c0 < 900) (x y : Int32) : Met l yX2_failLink (Cond.code yX2_failLink cX2_failLink 3 (some .int) :: WL) ({ frames := 6, cells := 0, slots := 0, locals := 138 } : Room) (va_Pc [.ref (o), .int (x), .int (y)] (PW D cI cO ([(o, .inr (2, [.ref (h), .ref (us), .ref (lb), .int e0, .int e1, .int e2]))] ++ (usS cI cO us rg g ga ((nI (x_))) ((nI (z_))) G ++ (stW cI h a S ++ ([(lb, .inl (cI, 96, .inl B))])))) sz)) (va_Qi (fun (r : Int32) (u : CV) => r = (oFail w x y).1 ∧ nxC c0 x_ z_ (e0, e1, e2) G w (oFail w x y) u) (QB D ([(o, .inr (2, [.ref (h), .ref (us), .ref (lb), .int e0, .int e1, .int e2]))] ++ (usS cI cO us rg g ga ((nI (x_))) ((nI (z_))) G ++ (stW cI h a S ++ ([(lb, .inl (cI, 96, .inl B))])))) sz (fun (u : CV) => cvU cI cO o us rg g ga h a lb u)) (va_A ([(o, .inr (2, [.ref (h), .ref (us), .ref (lb), .int e0, .int e1, .int e2]))] ++ (usS cI cO us rg g ga ((nI (x_))) ((nI (z_))) G ++ (stW cI h a S ++ ([(lb, .inl (cI, 96, .inl B))])))) sz)) 0 0 (va_A ([(o, .inr (2, [.ref (h), .ref (us), .ref (lb), .int e0, .int e1, .int e2]))] ++ (usS cI cO us rg g ga ((nI (x_))) ((nI (z_))) G ++ (stW cI h a S ++ ([(lb, .inl (cI, 96, .inl B))])))) sz) := by
  refine wr_int (by decide) (Nat.le_of_ble_eq_true rfl) ?_
  intro p e s m args below meth c Q ls A F hP hC hD hA hret hl
  have hx := F.1
  have hb := F.2.1
  have hml := F.2.2.1
  have hown := F.2.2.2.1
  have hts := F.2.2.2.2
  replace hl : lv_has ls 3 [(0, .ref (o)), (1, .int (x)), (2, .int (y))] := hl
  have hS : va_S A s.heap s.heap [] := va_S.rf
  have hn4 := hR.wf.n.2
  have hc : c0 < 1000 := by omega
  refine lv_aload_n hx hb dX2_failLink_0 rfl (lv_at hl 0 rfl) ?_
  refine gt2 hx hb hts hown hC.1 hP 0 rfl 0 (by decide) qw118 rfl dX2_failLink_1 ?_
  refine lv_iload_n hx hb dX2_failLink_4 rfl (lv_at hl 1 rfl) ?_
  refine lv_iload_n hx hb dX2_failLink_5 rfl (lv_at hl 2 rfl) ?_
  refine goR (kVN (As := [.int (x), .int (y)]) (rest := []) F (c_X0_hasLink l D cI cO h a S w c0 hR (x) (y)) ywX0_hasLink (nk6 hC) qw177 qs5 ⟨rfl, rfl⟩ ⟨Nat.le_of_ble_eq_true rfl, Nat.le_of_ble_eq_true rfl⟩ (preV (preR (va_pl0 (va_pr0 (va_pr0 hP))) hC) hC hP (ci := 0) (q0 := 43) rfl rfl rfl) rfl hl.1 rfl (Nat.le_of_ble_eq_true rfl) dX2_failLink_6 ⟨Nat.zero_le _, Nat.zero_le _⟩) (fun r_6 h_6 => ?_)
  rcases h_6 with ⟨rfl, h_6⟩ | ⟨rfl, h_6⟩
  · obtain ⟨i, hi, rfl, l_, hl_, rfl⟩ := id h_6
    have hi4 : i < 4 := by omega
    have hm4 := (hR.wf.m i hi4).2
    have hpl : pl (nI i) (nI l_) = 4 * i + l_ := pl_nI (by omega) (by omega)
    have hv : (4 * i + l_) < 16 := by omega
    have hl10 := (hR.wf.l (4 * i + l_) hv).2
    have hVe : i * 4 + l_ = 4 * i + l_ := by omega
    refine n_if_ne (tgt := 17) hx hb dX2_failLink_9 (by decide) (by omega) (fun _ => ?_) (fun h => absurd h (by decide))
    refine lv_aload_n hx hb dX2_failLink_17 rfl (lv_at hl 0 rfl) ?_
    refine gt2 hx hb hts hown hC.1 hP 0 rfl 0 (by decide) qw118 rfl dX2_failLink_18 ?_
    refine lv_iload_n hx hb dX2_failLink_21 rfl (lv_at hl 1 rfl) ?_
    refine lv_iload_n hx hb dX2_failLink_22 rfl (lv_at hl 2 rfl) ?_
    refine goR (kVN (As := [.int (nI (i)), .int (nI (l_))]) (rest := []) F (c_X0_linkWorks l D cI cO h a S w c0 hR (i) (l_) (by omega) (by omega)) ywX0_linkWorks (nk7 hC) qw185 qs7 ⟨rfl, rfl⟩ ⟨Nat.le_of_ble_eq_true rfl, Nat.le_of_ble_eq_true rfl⟩ (preV (preR (va_pl0 (va_pr0 (va_pr0 hP))) hC) hC hP (ci := 0) (q0 := 43) rfl rfl rfl) rfl hl.1 rfl (Nat.le_of_ble_eq_true rfl) dX2_failLink_23 ⟨Nat.zero_le _, Nat.zero_le _⟩) (fun r_23 h_23 => ?_)
    rcases h_23 with ⟨rfl, h_23⟩ | ⟨rfl, h_23⟩
    · have hop : oFail w (nI i) (nI l_) = (nI (le w (4 * i + l_)), 1, failR w (4 * i + l_)) := by unfold oFail; rw [itc_t h_6, hpl, if_neg (by omega)]
      refine n_if_ne (tgt := 34) hx hb dX2_failLink_26 (by decide) (by omega) (fun _ => ?_) (fun h => absurd h (by decide))
      refine lv_aload_n hx hb dX2_failLink_34 rfl (lv_at hl 0 rfl) ?_
      refine gt2 hx hb hts hown hC.1 hP 0 rfl 1 (by decide) qw119 rfl dX2_failLink_35 ?_
      refine lv_aload_n hx hb dX2_failLink_38 rfl (lv_at hl 0 rfl) ?_
      refine gt2 hx hb hts hown hC.1 hP 0 rfl 0 (by decide) qw118 rfl dX2_failLink_39 ?_
      refine goWv (pre := [(o, .inr (2, [.ref (h), .ref (us), .ref (lb), .int e0, .int e1, .int e2]))]) (wc := usS cI cO us rg g ga ((nI (x_))) ((nI (z_))) G ++ (stW cI h a S)) (suf := [(lb, .inl (cI, 96, .inl B))]) (kVN (As := [.ref (h)]) (rest := []) F (c_X1_save l D cI cO _ us rg g ga G ((nI (z_))) h a S x_ hx4 z_ hz rfl) ywX1_save (nk3 hC) qw151 qs2 ⟨rfl, rfl⟩ ⟨Nat.le_of_ble_eq_true rfl, Nat.le_of_ble_eq_true rfl⟩ (preV (preW (va_pl0 (x := usS cI cO us rg g ga ((nI (x_))) ((nI (z_))) G ++ (stW cI h a S)) (y := [(lb, .inl (cI, 96, .inl B))]) (by simpa only [List.append_assoc] using (va_pr0 hP))) hC (va_dl (x := usS cI cO us rg g ga ((nI (x_))) ((nI (z_))) G ++ (stW cI h a S)) (y := [(lb, .inl (cI, 96, .inl B))]) (by simpa only [List.append_assoc] using (va_dr hD)))) hC hP (ci := 1) (q0 := 1) rfl rfl rfl) rfl hl.1 rfl (Nat.le_of_ble_eq_true rfl) dX2_failLink_42 ⟨Nat.zero_le _, Nat.zero_le _⟩) (by simpa only [List.append_assoc, List.nil_append, List.append_nil] using hP) (by simpa only [List.append_assoc, List.nil_append, List.append_nil] using hD) hS hA (fun u_1 H locs h_42 hP hD hS => ?_)
      obtain ⟨G_1, nx_1, sz_1⟩ := u_1
      replace hP : va_P D vwCl ([(o, .inr (2, [.ref (h), .ref (us), .ref (lb), .int e0, .int e1, .int e2]))] ++ (usS cI cO us rg g ga nx_1 sz_1 G_1 ++ (stW cI h a S ++ ([(lb, .inl (cI, 96, .inl B))])))) H := by simpa only [List.append_assoc, List.nil_append, List.append_nil] using hP
      replace hD : va_D A ([(o, .inr (2, [.ref (h), .ref (us), .ref (lb), .int e0, .int e1, .int e2]))] ++ (usS cI cO us rg g ga nx_1 sz_1 G_1 ++ (stW cI h a S ++ ([(lb, .inl (cI, 96, .inl B))])))) := by simpa only [List.append_assoc, List.nil_append, List.append_nil] using hD
      refine lv_aload_n hx hb dX2_failLink_45 rfl (lv_at hl 0 rfl) ?_
      refine gt2 hx hb hts hown hC.1 hP 0 rfl 0 (by decide) qw118 rfl dX2_failLink_46 ?_
      refine lv_iload_n hx hb dX2_failLink_49 rfl (lv_at hl 1 rfl) ?_
      refine lv_iload_n hx hb dX2_failLink_50 rfl (lv_at hl 2 rfl) ?_
      refine goWi (pre := [(o, .inr (2, [.ref (h), .ref (us), .ref (lb), .int e0, .int e1, .int e2]))] ++ (usS cI cO us rg g ga nx_1 sz_1 G_1)) (wc := stW cI h a S) (suf := [(lb, .inl (cI, 96, .inl B))]) (kVN (As := [.int (nI (i)), .int (nI (l_))]) (rest := []) F (c_X0_changeOver l D cI cO _ h a S w c0 hR (i) (l_) hc (by omega) (by omega) h_23) ywX0_changeOver (nk8 hC) qw193 qs9 ⟨rfl, rfl⟩ ⟨Nat.le_of_ble_eq_true rfl, Nat.le_of_ble_eq_true rfl⟩ (preV (preW (va_pl0 (va_pr0 (va_pr0 hP))) hC (va_dl (va_dr (va_dr hD)))) hC hP (ci := 0) (q0 := 43) rfl rfl rfl) rfl hl.1 rfl (Nat.le_of_ble_eq_true rfl) dX2_failLink_51 ⟨Nat.zero_le _, Nat.zero_le _⟩) (by simpa only [List.append_assoc, List.nil_append, List.append_nil] using hP) (by simpa only [List.append_assoc, List.nil_append, List.append_nil] using hD) hS hA (fun r_51 T_1 H locs h_51 hP hD hS => ?_)
      replace hP : va_P D vwCl ([(o, .inr (2, [.ref (h), .ref (us), .ref (lb), .int e0, .int e1, .int e2]))] ++ (usS cI cO us rg g ga nx_1 sz_1 G_1 ++ (stW cI h a T_1 ++ ([(lb, .inl (cI, 96, .inl B))])))) H := by simpa only [List.append_assoc, List.nil_append, List.append_nil] using hP
      replace hD : va_D A ([(o, .inr (2, [.ref (h), .ref (us), .ref (lb), .int e0, .int e1, .int e2]))] ++ (usS cI cO us rg g ga nx_1 sz_1 G_1 ++ (stW cI h a T_1 ++ ([(lb, .inl (cI, 96, .inl B))])))) := by simpa only [List.append_assoc, List.nil_append, List.append_nil] using hD
      obtain ⟨h_51, k_51⟩ := h_51
      subst h_51
      exact hret _ (((e0, e1, e2), T_1, B, nx_1, sz_1, G_1)) _ ls _ _ (⟨(by rw [hop, hVe]), nxC_1 hop (by rw [hVe] at k_51; exact k_51.mono (by omega)) hR h_42⟩) hP hD hS dX2_failLink_54
    · have hop : oFail w (nI i) (nI l_) = (-3, 3, w) := by unfold oFail; rw [itc_t h_6, hpl, if_pos h_23]; rfl
      refine n_if_ne (tgt := 34) hx hb dX2_failLink_26 (by decide) (by omega) (fun h => absurd h (by decide)) (fun _ => ?_)
      refine lv_aload_n hx hb dX2_failLink_29 rfl (lv_at hl 0 rfl) ?_
      refine goWi (pre := []) (wc := [(o, .inr (2, [.ref (h), .ref (us), .ref (lb), .int e0, .int e1, .int e2]))]) (suf := usS cI cO us rg g ga ((nI (x_))) ((nI (z_))) G ++ (stW cI h a S ++ ([(lb, .inl (cI, 96, .inl B))]))) (kV (As := []) (rest := []) F (c_X2_rejected l D cI cO _ o h us lb e0 e1 e2) ywX2_rejected qw187 qw189 qs8 ⟨rfl, rfl⟩ ⟨Nat.le_of_ble_eq_true rfl, Nat.le_of_ble_eq_true rfl⟩ (preV (preW (va_pl0 hP) hC (va_dl hD)) hC hP (ci := 2) (q0 := 0) rfl rfl rfl) rfl hl.1 rfl (Nat.le_of_ble_eq_true rfl) dX2_failLink_30 ⟨Nat.zero_le _, Nat.zero_le _⟩) (by simpa only [List.append_assoc, List.nil_append, List.append_nil] using hP) (by simpa only [List.append_assoc, List.nil_append, List.append_nil] using hD) hS hA (fun r_30 e_1 H locs h_30 hP hD hS => ?_)
      replace hP : va_P D vwCl ([(o, .inr (2, [.ref (h), .ref (us), .ref (lb), .int e0, .int e_1, .int e2]))] ++ (usS cI cO us rg g ga ((nI (x_))) ((nI (z_))) G ++ (stW cI h a S ++ ([(lb, .inl (cI, 96, .inl B))])))) H := by simpa only [List.append_assoc, List.nil_append, List.append_nil] using hP
      replace hD : va_D A ([(o, .inr (2, [.ref (h), .ref (us), .ref (lb), .int e0, .int e_1, .int e2]))] ++ (usS cI cO us rg g ga ((nI (x_))) ((nI (z_))) G ++ (stW cI h a S ++ ([(lb, .inl (cI, 96, .inl B))])))) := by simpa only [List.append_assoc, List.nil_append, List.append_nil] using hD
      obtain ⟨h_30, k_30⟩ := h_30
      subst h_30
      exact hret _ (((e0, e_1, e2), S, B, (nI (x_)), (nI (z_)), G)) _ ls _ _ (⟨(congrArg Prod.fst hop).symm, nxC_e (e := 1) hop (by rw [k_30]; rfl) hR rfl rfl⟩) hP hD hS dX2_failLink_33
  · have hop : oFail w x y = (-2, 2, w) := itc_f h_6
    refine n_if_ne (tgt := 17) hx hb dX2_failLink_9 (by decide) (by omega) (fun h => absurd h (by decide)) (fun _ => ?_)
    refine lv_aload_n hx hb dX2_failLink_12 rfl (lv_at hl 0 rfl) ?_
    refine goWi (pre := []) (wc := [(o, .inr (2, [.ref (h), .ref (us), .ref (lb), .int e0, .int e1, .int e2]))]) (suf := usS cI cO us rg g ga ((nI (x_))) ((nI (z_))) G ++ (stW cI h a S ++ ([(lb, .inl (cI, 96, .inl B))]))) (kV (As := []) (rest := []) F (c_X2_invalid l D cI cO _ o h us lb e0 e1 e2) ywX2_invalid qw141 qw143 qs0 ⟨rfl, rfl⟩ ⟨Nat.le_of_ble_eq_true rfl, Nat.le_of_ble_eq_true rfl⟩ (preV (preW (va_pl0 hP) hC (va_dl hD)) hC hP (ci := 2) (q0 := 0) rfl rfl rfl) rfl hl.1 rfl (Nat.le_of_ble_eq_true rfl) dX2_failLink_13 ⟨Nat.zero_le _, Nat.zero_le _⟩) (by simpa only [List.append_assoc, List.nil_append, List.append_nil] using hP) (by simpa only [List.append_assoc, List.nil_append, List.append_nil] using hD) hS hA (fun r_13 e_2 H locs h_13 hP hD hS => ?_)
    replace hP : va_P D vwCl ([(o, .inr (2, [.ref (h), .ref (us), .ref (lb), .int e_2, .int e1, .int e2]))] ++ (usS cI cO us rg g ga ((nI (x_))) ((nI (z_))) G ++ (stW cI h a S ++ ([(lb, .inl (cI, 96, .inl B))])))) H := by simpa only [List.append_assoc, List.nil_append, List.append_nil] using hP
    replace hD : va_D A ([(o, .inr (2, [.ref (h), .ref (us), .ref (lb), .int e_2, .int e1, .int e2]))] ++ (usS cI cO us rg g ga ((nI (x_))) ((nI (z_))) G ++ (stW cI h a S ++ ([(lb, .inl (cI, 96, .inl B))])))) := by simpa only [List.append_assoc, List.nil_append, List.append_nil] using hD
    obtain ⟨h_13, k_13⟩ := h_13
    subst h_13
    exact hret _ (((e_2, e1, e2), S, B, (nI (x_)), (nI (z_)), G)) _ ls _ _ (⟨(congrArg Prod.fst hop).symm, nxC_e (e := 0) hop (by rw [k_13]; rfl) hR rfl rfl⟩) hP hD hS dX2_failLink_16

set_option maxHeartbeats 4000000 in
set_option maxRecDepth 100000 in
theorem c_X2_acknowledge (l : Launch) (D : va_G) (cI cO : ClassId) (sz : Nat) (o us rg : Nat) (g : Nat → Nat) (ga : Nat → Nat → Nat) (h : Nat) (a : Nat → Nat) (lb : Nat) (e0 e1 e2 : Int32) (G : Nat → Nat → Nat → Int32) (S : Nat → Nat → Int32) (B : Nat → Int32) (w : Nat → Int32) (c0 : Nat) (hR : RC c0 S w) (x_ z_ : Nat) (hx4 : x_ < 4) (hz : z_ ≤ 4) (hc9 : c0 < 900) (x y z : Int32) : Met l yX2_acknowledge (Cond.code yX2_acknowledge cX2_acknowledge 4 (some .int) :: WL) ({ frames := 4, cells := 0, slots := 0, locals := 103 } : Room) (va_Pc [.ref (o), .int (x), .int (y), .int (z)] (PW D cI cO ([(o, .inr (2, [.ref (h), .ref (us), .ref (lb), .int e0, .int e1, .int e2]))] ++ (usS cI cO us rg g ga ((nI (x_))) ((nI (z_))) G ++ (stW cI h a S ++ ([(lb, .inl (cI, 96, .inl B))])))) sz)) (va_Qi (fun (r : Int32) (u : CV) => r = (oAck w x y z).1 ∧ nxC c0 x_ z_ (e0, e1, e2) G w (oAck w x y z) u) (QB D ([(o, .inr (2, [.ref (h), .ref (us), .ref (lb), .int e0, .int e1, .int e2]))] ++ (usS cI cO us rg g ga ((nI (x_))) ((nI (z_))) G ++ (stW cI h a S ++ ([(lb, .inl (cI, 96, .inl B))])))) sz (fun (u : CV) => cvU cI cO o us rg g ga h a lb u)) (va_A ([(o, .inr (2, [.ref (h), .ref (us), .ref (lb), .int e0, .int e1, .int e2]))] ++ (usS cI cO us rg g ga ((nI (x_))) ((nI (z_))) G ++ (stW cI h a S ++ ([(lb, .inl (cI, 96, .inl B))])))) sz)) 0 0 (va_A ([(o, .inr (2, [.ref (h), .ref (us), .ref (lb), .int e0, .int e1, .int e2]))] ++ (usS cI cO us rg g ga ((nI (x_))) ((nI (z_))) G ++ (stW cI h a S ++ ([(lb, .inl (cI, 96, .inl B))])))) sz) := by
  refine wr_int (by decide) (Nat.le_of_ble_eq_true rfl) ?_
  intro p e s m args below meth c Q ls A F hP hC hD hA hret hl
  have hx := F.1
  have hb := F.2.1
  have hml := F.2.2.1
  have hown := F.2.2.2.1
  have hts := F.2.2.2.2
  replace hl : lv_has ls 4 [(0, .ref (o)), (1, .int (x)), (2, .int (y)), (3, .int (z))] := hl
  have hS : va_S A s.heap s.heap [] := va_S.rf
  have hn4 := hR.wf.n.2
  have hc : c0 < 1000 := by omega
  refine lv_aload_n hx hb dX2_acknowledge_0 rfl (lv_at hl 0 rfl) ?_
  refine gt2 hx hb hts hown hC.1 hP 0 rfl 0 (by decide) qw118 rfl dX2_acknowledge_1 ?_
  refine lv_iload_n hx hb dX2_acknowledge_4 rfl (lv_at hl 1 rfl) ?_
  refine lv_iload_n hx hb dX2_acknowledge_5 rfl (lv_at hl 2 rfl) ?_
  refine goR (kVN (As := [.int (x), .int (y)]) (rest := []) F (c_X0_hasLink l D cI cO h a S w c0 hR (x) (y)) ywX0_hasLink (nk6 hC) qw177 qs5 ⟨rfl, rfl⟩ ⟨Nat.le_of_ble_eq_true rfl, Nat.le_of_ble_eq_true rfl⟩ (preV (preR (va_pl0 (va_pr0 (va_pr0 hP))) hC) hC hP (ci := 0) (q0 := 43) rfl rfl rfl) rfl hl.1 rfl (Nat.le_of_ble_eq_true rfl) dX2_acknowledge_6 ⟨Nat.zero_le _, Nat.zero_le _⟩) (fun r_6 h_6 => ?_)
  rcases h_6 with ⟨rfl, h_6⟩ | ⟨rfl, h_6⟩
  · obtain ⟨i, hi, rfl, l_, hl_, rfl⟩ := id h_6
    have hi4 : i < 4 := by omega
    have hm4 := (hR.wf.m i hi4).2
    have hpl : pl (nI i) (nI l_) = 4 * i + l_ := pl_nI (by omega) (by omega)
    have hv : (4 * i + l_) < 16 := by omega
    have hl10 := (hR.wf.l (4 * i + l_) hv).2
    have hVe : i * 4 + l_ = 4 * i + l_ := by omega
    refine n_if_eq (tgt := 23) hx hb dX2_acknowledge_9 (by decide) (by omega) (fun h => absurd h (by decide)) (fun _ => ?_)
    refine lv_iload_n hx hb dX2_acknowledge_12 rfl (lv_at hl 3 rfl) ?_
    refine lv_iconst (v := (nI (1))) hx hb dX2_acknowledge_13 (by decide) ?_
    refine lv_icmp_lt (tgt := 23) hx hb dX2_acknowledge_14 (by decide)  (fun c_14 => ?_) (fun c_14 => ?_)
    · have hop : oAck w (nI i) (nI l_) z = (-2, 2, w) := itc_f (fun q => Int32.not_lt.mpr q.2.1 c_14)
      refine lv_aload_n hx hb dX2_acknowledge_23 rfl (lv_at hl 0 rfl) ?_
      refine goWi (pre := []) (wc := [(o, .inr (2, [.ref (h), .ref (us), .ref (lb), .int e0, .int e1, .int e2]))]) (suf := usS cI cO us rg g ga ((nI (x_))) ((nI (z_))) G ++ (stW cI h a S ++ ([(lb, .inl (cI, 96, .inl B))]))) (kV (As := []) (rest := []) F (c_X2_invalid l D cI cO _ o h us lb e0 e1 e2) ywX2_invalid qw141 qw143 qs0 ⟨rfl, rfl⟩ ⟨Nat.le_of_ble_eq_true rfl, Nat.le_of_ble_eq_true rfl⟩ (preV (preW (va_pl0 hP) hC (va_dl hD)) hC hP (ci := 2) (q0 := 0) rfl rfl rfl) rfl hl.1 rfl (Nat.le_of_ble_eq_true rfl) dX2_acknowledge_24 ⟨Nat.zero_le _, Nat.zero_le _⟩) (by simpa only [List.append_assoc, List.nil_append, List.append_nil] using hP) (by simpa only [List.append_assoc, List.nil_append, List.append_nil] using hD) hS hA (fun r_24 e_1 H locs h_24 hP hD hS => ?_)
      replace hP : va_P D vwCl ([(o, .inr (2, [.ref (h), .ref (us), .ref (lb), .int e_1, .int e1, .int e2]))] ++ (usS cI cO us rg g ga ((nI (x_))) ((nI (z_))) G ++ (stW cI h a S ++ ([(lb, .inl (cI, 96, .inl B))])))) H := by simpa only [List.append_assoc, List.nil_append, List.append_nil] using hP
      replace hD : va_D A ([(o, .inr (2, [.ref (h), .ref (us), .ref (lb), .int e_1, .int e1, .int e2]))] ++ (usS cI cO us rg g ga ((nI (x_))) ((nI (z_))) G ++ (stW cI h a S ++ ([(lb, .inl (cI, 96, .inl B))])))) := by simpa only [List.append_assoc, List.nil_append, List.append_nil] using hD
      obtain ⟨h_24, k_24⟩ := h_24
      subst h_24
      exact hret _ (((e_1, e1, e2), S, B, (nI (x_)), (nI (z_)), G)) _ ls _ _ (⟨(congrArg Prod.fst hop).symm, nxC_e (e := 0) hop (by rw [k_24]; rfl) hR rfl rfl⟩) hP hD hS dX2_acknowledge_27
    · refine lv_iload_n hx hb dX2_acknowledge_17 rfl (lv_at hl 3 rfl) ?_
      refine lv_bipush (v := (nI (10))) hx hb dX2_acknowledge_18 (by decide) ?_
      refine lv_icmp_le (tgt := 28) hx hb dX2_acknowledge_20 (by decide)  (fun c_20 => ?_) (fun c_20 => ?_)
      · have hv9 : nI 1 ≤ z ∧ z ≤ nI 10 := ⟨Int32.not_lt.mp c_14, c_20⟩
        obtain ⟨q_, hq1, hq10, rfl⟩ := in_ab (by decide) (id hv9) (by decide)
        have hop : oAck w (nI i) (nI l_) (nI q_) = (nI (min q_ (le w (4 * i + l_))), 1, ackR w (4 * i + l_) (min q_ (le w (4 * i + l_)))) := by unfold oAck; rw [itc_t ⟨h_6, hv9⟩, hpl, nv_nI (by omega)]
        refine lv_aload_n hx hb dX2_acknowledge_28 rfl (lv_at hl 0 rfl) ?_
        refine gt2 hx hb hts hown hC.1 hP 0 rfl 1 (by decide) qw119 rfl dX2_acknowledge_29 ?_
        refine lv_aload_n hx hb dX2_acknowledge_32 rfl (lv_at hl 0 rfl) ?_
        refine gt2 hx hb hts hown hC.1 hP 0 rfl 0 (by decide) qw118 rfl dX2_acknowledge_33 ?_
        refine goWv (pre := [(o, .inr (2, [.ref (h), .ref (us), .ref (lb), .int e0, .int e1, .int e2]))]) (wc := usS cI cO us rg g ga ((nI (x_))) ((nI (z_))) G ++ (stW cI h a S)) (suf := [(lb, .inl (cI, 96, .inl B))]) (kVN (As := [.ref (h)]) (rest := []) F (c_X1_save l D cI cO _ us rg g ga G ((nI (z_))) h a S x_ hx4 z_ hz rfl) ywX1_save (nk3 hC) qw151 qs2 ⟨rfl, rfl⟩ ⟨Nat.le_of_ble_eq_true rfl, Nat.le_of_ble_eq_true rfl⟩ (preV (preW (va_pl0 (x := usS cI cO us rg g ga ((nI (x_))) ((nI (z_))) G ++ (stW cI h a S)) (y := [(lb, .inl (cI, 96, .inl B))]) (by simpa only [List.append_assoc] using (va_pr0 hP))) hC (va_dl (x := usS cI cO us rg g ga ((nI (x_))) ((nI (z_))) G ++ (stW cI h a S)) (y := [(lb, .inl (cI, 96, .inl B))]) (by simpa only [List.append_assoc] using (va_dr hD)))) hC hP (ci := 1) (q0 := 1) rfl rfl rfl) rfl hl.1 rfl (Nat.le_of_ble_eq_true rfl) dX2_acknowledge_36 ⟨Nat.zero_le _, Nat.zero_le _⟩) (by simpa only [List.append_assoc, List.nil_append, List.append_nil] using hP) (by simpa only [List.append_assoc, List.nil_append, List.append_nil] using hD) hS hA (fun u_1 H locs h_36 hP hD hS => ?_)
        obtain ⟨G_1, nx_1, sz_1⟩ := u_1
        replace hP : va_P D vwCl ([(o, .inr (2, [.ref (h), .ref (us), .ref (lb), .int e0, .int e1, .int e2]))] ++ (usS cI cO us rg g ga nx_1 sz_1 G_1 ++ (stW cI h a S ++ ([(lb, .inl (cI, 96, .inl B))])))) H := by simpa only [List.append_assoc, List.nil_append, List.append_nil] using hP
        replace hD : va_D A ([(o, .inr (2, [.ref (h), .ref (us), .ref (lb), .int e0, .int e1, .int e2]))] ++ (usS cI cO us rg g ga nx_1 sz_1 G_1 ++ (stW cI h a S ++ ([(lb, .inl (cI, 96, .inl B))])))) := by simpa only [List.append_assoc, List.nil_append, List.append_nil] using hD
        refine lv_aload_n hx hb dX2_acknowledge_39 rfl (lv_at hl 0 rfl) ?_
        refine gt2 hx hb hts hown hC.1 hP 0 rfl 0 (by decide) qw118 rfl dX2_acknowledge_40 ?_
        refine lv_iload_n hx hb dX2_acknowledge_43 rfl (lv_at hl 1 rfl) ?_
        refine lv_iload_n hx hb dX2_acknowledge_44 rfl (lv_at hl 2 rfl) ?_
        refine goR (kS (As := [.int (nI (i)), .int (nI (l_))]) (rest := [.ref (h)]) F (c_X2_linkPlace l D cI cO (i) (l_)) ywX2_linkPlace qw256 qw196  ⟨rfl, rfl⟩ ⟨Nat.le_of_ble_eq_true rfl, Nat.le_of_ble_eq_true rfl⟩ (preR (fun k q h => by simp at h) hC) rfl hl.1 rfl (Nat.le_of_ble_eq_true rfl) dX2_acknowledge_45 ⟨Nat.zero_le _, Nat.zero_le _⟩) (fun r_45 h_45 => ?_)
        subst h_45
        refine lv_iload_n hx hb dX2_acknowledge_48 rfl (lv_at hl 3 rfl) ?_
        refine goWi (pre := [(o, .inr (2, [.ref (h), .ref (us), .ref (lb), .int e0, .int e1, .int e2]))] ++ (usS cI cO us rg g ga nx_1 sz_1 G_1)) (wc := stW cI h a S) (suf := [(lb, .inl (cI, 96, .inl B))]) (kVN (As := [.int (nI (i * 4 + l_)), .int (nI (q_))]) (rest := []) F (c_X0_deliverOldest l D cI cO _ h a S w c0 hR (i * 4 + l_) (q_) hc (by omega) (by omega)) ywX0_deliverOldest (nk16 hC) qw259 qs18 ⟨rfl, rfl⟩ ⟨Nat.le_of_ble_eq_true rfl, Nat.le_of_ble_eq_true rfl⟩ (preV (preW (va_pl0 (va_pr0 (va_pr0 hP))) hC (va_dl (va_dr (va_dr hD)))) hC hP (ci := 0) (q0 := 43) rfl rfl rfl) rfl hl.1 rfl (Nat.le_of_ble_eq_true rfl) dX2_acknowledge_49 ⟨Nat.zero_le _, Nat.zero_le _⟩) (by simpa only [List.append_assoc, List.nil_append, List.append_nil] using hP) (by simpa only [List.append_assoc, List.nil_append, List.append_nil] using hD) hS hA (fun r_49 T_1 H locs h_49 hP hD hS => ?_)
        replace hP : va_P D vwCl ([(o, .inr (2, [.ref (h), .ref (us), .ref (lb), .int e0, .int e1, .int e2]))] ++ (usS cI cO us rg g ga nx_1 sz_1 G_1 ++ (stW cI h a T_1 ++ ([(lb, .inl (cI, 96, .inl B))])))) H := by simpa only [List.append_assoc, List.nil_append, List.append_nil] using hP
        replace hD : va_D A ([(o, .inr (2, [.ref (h), .ref (us), .ref (lb), .int e0, .int e1, .int e2]))] ++ (usS cI cO us rg g ga nx_1 sz_1 G_1 ++ (stW cI h a T_1 ++ ([(lb, .inl (cI, 96, .inl B))])))) := by simpa only [List.append_assoc, List.nil_append, List.append_nil] using hD
        obtain ⟨h_49, k_49⟩ := h_49
        subst h_49
        exact hret _ (((e0, e1, e2), T_1, B, nx_1, sz_1, G_1)) _ ls _ _ (⟨(by rw [hop, hVe]), nxC_1 hop (by rw [hVe] at k_49; exact k_49.mono (by omega)) hR h_36⟩) hP hD hS dX2_acknowledge_52
      · have hop : oAck w (nI i) (nI l_) z = (-2, 2, w) := itc_f (fun q => c_20 q.2.2)
        refine lv_aload_n hx hb dX2_acknowledge_23 rfl (lv_at hl 0 rfl) ?_
        refine goWi (pre := []) (wc := [(o, .inr (2, [.ref (h), .ref (us), .ref (lb), .int e0, .int e1, .int e2]))]) (suf := usS cI cO us rg g ga ((nI (x_))) ((nI (z_))) G ++ (stW cI h a S ++ ([(lb, .inl (cI, 96, .inl B))]))) (kV (As := []) (rest := []) F (c_X2_invalid l D cI cO _ o h us lb e0 e1 e2) ywX2_invalid qw141 qw143 qs0 ⟨rfl, rfl⟩ ⟨Nat.le_of_ble_eq_true rfl, Nat.le_of_ble_eq_true rfl⟩ (preV (preW (va_pl0 hP) hC (va_dl hD)) hC hP (ci := 2) (q0 := 0) rfl rfl rfl) rfl hl.1 rfl (Nat.le_of_ble_eq_true rfl) dX2_acknowledge_24 ⟨Nat.zero_le _, Nat.zero_le _⟩) (by simpa only [List.append_assoc, List.nil_append, List.append_nil] using hP) (by simpa only [List.append_assoc, List.nil_append, List.append_nil] using hD) hS hA (fun r_24 e_2 H locs h_24 hP hD hS => ?_)
        replace hP : va_P D vwCl ([(o, .inr (2, [.ref (h), .ref (us), .ref (lb), .int e_2, .int e1, .int e2]))] ++ (usS cI cO us rg g ga ((nI (x_))) ((nI (z_))) G ++ (stW cI h a S ++ ([(lb, .inl (cI, 96, .inl B))])))) H := by simpa only [List.append_assoc, List.nil_append, List.append_nil] using hP
        replace hD : va_D A ([(o, .inr (2, [.ref (h), .ref (us), .ref (lb), .int e_2, .int e1, .int e2]))] ++ (usS cI cO us rg g ga ((nI (x_))) ((nI (z_))) G ++ (stW cI h a S ++ ([(lb, .inl (cI, 96, .inl B))])))) := by simpa only [List.append_assoc, List.nil_append, List.append_nil] using hD
        obtain ⟨h_24, k_24⟩ := h_24
        subst h_24
        exact hret _ (((e_2, e1, e2), S, B, (nI (x_)), (nI (z_)), G)) _ ls _ _ (⟨(congrArg Prod.fst hop).symm, nxC_e (e := 0) hop (by rw [k_24]; rfl) hR rfl rfl⟩) hP hD hS dX2_acknowledge_27
  · have hop : oAck w x y z = (-2, 2, w) := itc_f (fun q => h_6 q.1)
    refine n_if_eq (tgt := 23) hx hb dX2_acknowledge_9 (by decide) (by omega) (fun _ => ?_) (fun h => absurd h (by decide))
    refine lv_aload_n hx hb dX2_acknowledge_23 rfl (lv_at hl 0 rfl) ?_
    refine goWi (pre := []) (wc := [(o, .inr (2, [.ref (h), .ref (us), .ref (lb), .int e0, .int e1, .int e2]))]) (suf := usS cI cO us rg g ga ((nI (x_))) ((nI (z_))) G ++ (stW cI h a S ++ ([(lb, .inl (cI, 96, .inl B))]))) (kV (As := []) (rest := []) F (c_X2_invalid l D cI cO _ o h us lb e0 e1 e2) ywX2_invalid qw141 qw143 qs0 ⟨rfl, rfl⟩ ⟨Nat.le_of_ble_eq_true rfl, Nat.le_of_ble_eq_true rfl⟩ (preV (preW (va_pl0 hP) hC (va_dl hD)) hC hP (ci := 2) (q0 := 0) rfl rfl rfl) rfl hl.1 rfl (Nat.le_of_ble_eq_true rfl) dX2_acknowledge_24 ⟨Nat.zero_le _, Nat.zero_le _⟩) (by simpa only [List.append_assoc, List.nil_append, List.append_nil] using hP) (by simpa only [List.append_assoc, List.nil_append, List.append_nil] using hD) hS hA (fun r_24 e_3 H locs h_24 hP hD hS => ?_)
    replace hP : va_P D vwCl ([(o, .inr (2, [.ref (h), .ref (us), .ref (lb), .int e_3, .int e1, .int e2]))] ++ (usS cI cO us rg g ga ((nI (x_))) ((nI (z_))) G ++ (stW cI h a S ++ ([(lb, .inl (cI, 96, .inl B))])))) H := by simpa only [List.append_assoc, List.nil_append, List.append_nil] using hP
    replace hD : va_D A ([(o, .inr (2, [.ref (h), .ref (us), .ref (lb), .int e_3, .int e1, .int e2]))] ++ (usS cI cO us rg g ga ((nI (x_))) ((nI (z_))) G ++ (stW cI h a S ++ ([(lb, .inl (cI, 96, .inl B))])))) := by simpa only [List.append_assoc, List.nil_append, List.append_nil] using hD
    obtain ⟨h_24, k_24⟩ := h_24
    subst h_24
    exact hret _ (((e_3, e1, e2), S, B, (nI (x_)), (nI (z_)), G)) _ ls _ _ (⟨(congrArg Prod.fst hop).symm, nxC_e (e := 0) hop (by rw [k_24]; rfl) hR rfl rfl⟩) hP hD hS dX2_acknowledge_27

set_option maxHeartbeats 4000000 in
set_option maxRecDepth 100000 in
theorem c_X2_send (l : Launch) (D : va_G) (cI cO : ClassId) (sz : Nat) (o us rg : Nat) (g : Nat → Nat) (ga : Nat → Nat → Nat) (h : Nat) (a : Nat → Nat) (lb : Nat) (e0 e1 e2 : Int32) (G : Nat → Nat → Nat → Int32) (S : Nat → Nat → Int32) (B : Nat → Int32) (w : Nat → Int32) (c0 : Nat) (hR : RC c0 S w) (x_ z_ : Nat) (hx4 : x_ < 4) (hz : z_ ≤ 4) (hc9 : c0 < 900) (x y z : Int32) : Met l yX2_send (Cond.code yX2_send cX2_send 4 (some .int) :: WL) ({ frames := 6, cells := 0, slots := 0, locals := 140 } : Room) (va_Pc [.ref (o), .int (x), .int (y), .int (z)] (PW D cI cO ([(o, .inr (2, [.ref (h), .ref (us), .ref (lb), .int e0, .int e1, .int e2]))] ++ (usS cI cO us rg g ga ((nI (x_))) ((nI (z_))) G ++ (stW cI h a S ++ ([(lb, .inl (cI, 96, .inl B))])))) sz)) (va_Qi (fun (r : Int32) (u : CV) => r = (oSnd w x y z).1 ∧ nxC c0 x_ z_ (e0, e1, e2) G w (oSnd w x y z) u) (QB D ([(o, .inr (2, [.ref (h), .ref (us), .ref (lb), .int e0, .int e1, .int e2]))] ++ (usS cI cO us rg g ga ((nI (x_))) ((nI (z_))) G ++ (stW cI h a S ++ ([(lb, .inl (cI, 96, .inl B))])))) sz (fun (u : CV) => cvU cI cO o us rg g ga h a lb u)) (va_A ([(o, .inr (2, [.ref (h), .ref (us), .ref (lb), .int e0, .int e1, .int e2]))] ++ (usS cI cO us rg g ga ((nI (x_))) ((nI (z_))) G ++ (stW cI h a S ++ ([(lb, .inl (cI, 96, .inl B))])))) sz)) 0 0 (va_A ([(o, .inr (2, [.ref (h), .ref (us), .ref (lb), .int e0, .int e1, .int e2]))] ++ (usS cI cO us rg g ga ((nI (x_))) ((nI (z_))) G ++ (stW cI h a S ++ ([(lb, .inl (cI, 96, .inl B))])))) sz) := by
  refine wr_int (by decide) (Nat.le_of_ble_eq_true rfl) ?_
  intro p e s m args below meth c Q ls A F hP hC hD hA hret hl
  have hx := F.1
  have hb := F.2.1
  have hml := F.2.2.1
  have hown := F.2.2.2.1
  have hts := F.2.2.2.2
  replace hl : lv_has ls 4 [(0, .ref (o)), (1, .int (x)), (2, .int (y)), (3, .int (z))] := hl
  have hS : va_S A s.heap s.heap [] := va_S.rf
  have hn4 := hR.wf.n.2
  have hc : c0 < 1000 := by omega
  refine lv_iload_n hx hb dX2_send_0 rfl (lv_at hl 1 rfl) ?_
  refine lv_iload_n hx hb dX2_send_1 rfl (lv_at hl 2 rfl) ?_
  refine goR (kS (As := [.int (x), .int (y)]) (rest := []) F (c_X2_isStream l D cI cO (x) (y)) ywX2_isStream qw326 qw327  ⟨rfl, rfl⟩ ⟨Nat.le_of_ble_eq_true rfl, Nat.le_of_ble_eq_true rfl⟩ (preR (fun k q h => by simp at h) hC) rfl hl.1 rfl (Nat.le_of_ble_eq_true rfl) dX2_send_2 ⟨Nat.zero_le _, Nat.zero_le _⟩) (fun r_2 h_2 => ?_)
  rcases h_2 with ⟨rfl, h_2⟩ | ⟨rfl, h_2⟩
  · obtain ⟨⟨d_, hd6, rfl⟩, s_, hs16, rfl⟩ := id h_2
    refine n_if_eq (tgt := 17) hx hb dX2_send_5 (by decide) (by omega) (fun h => absurd h (by decide)) (fun _ => ?_)
    refine lv_iload_n hx hb dX2_send_8 rfl (lv_at hl 3 rfl) ?_
    refine lv_if_lt (tgt := 17) hx hb dX2_send_9 (by decide)  (fun c_9 => ?_) (fun c_9 => ?_)
    · have hop : oSnd w (nI d_) (nI s_) z = (-2, 2, w) := itc_f (fun q => Int32.not_lt.mpr q.2.1 c_9)
      refine lv_aload_n hx hb dX2_send_17 rfl (lv_at hl 0 rfl) ?_
      refine goWi (pre := []) (wc := [(o, .inr (2, [.ref (h), .ref (us), .ref (lb), .int e0, .int e1, .int e2]))]) (suf := usS cI cO us rg g ga ((nI (x_))) ((nI (z_))) G ++ (stW cI h a S ++ ([(lb, .inl (cI, 96, .inl B))]))) (kV (As := []) (rest := []) F (c_X2_invalid l D cI cO _ o h us lb e0 e1 e2) ywX2_invalid qw141 qw143 qs0 ⟨rfl, rfl⟩ ⟨Nat.le_of_ble_eq_true rfl, Nat.le_of_ble_eq_true rfl⟩ (preV (preW (va_pl0 hP) hC (va_dl hD)) hC hP (ci := 2) (q0 := 0) rfl rfl rfl) rfl hl.1 rfl (Nat.le_of_ble_eq_true rfl) dX2_send_18 ⟨Nat.zero_le _, Nat.zero_le _⟩) (by simpa only [List.append_assoc, List.nil_append, List.append_nil] using hP) (by simpa only [List.append_assoc, List.nil_append, List.append_nil] using hD) hS hA (fun r_18 e_1 H locs h_18 hP hD hS => ?_)
      replace hP : va_P D vwCl ([(o, .inr (2, [.ref (h), .ref (us), .ref (lb), .int e_1, .int e1, .int e2]))] ++ (usS cI cO us rg g ga ((nI (x_))) ((nI (z_))) G ++ (stW cI h a S ++ ([(lb, .inl (cI, 96, .inl B))])))) H := by simpa only [List.append_assoc, List.nil_append, List.append_nil] using hP
      replace hD : va_D A ([(o, .inr (2, [.ref (h), .ref (us), .ref (lb), .int e_1, .int e1, .int e2]))] ++ (usS cI cO us rg g ga ((nI (x_))) ((nI (z_))) G ++ (stW cI h a S ++ ([(lb, .inl (cI, 96, .inl B))])))) := by simpa only [List.append_assoc, List.nil_append, List.append_nil] using hD
      obtain ⟨h_18, k_18⟩ := h_18
      subst h_18
      exact hret _ (((e_1, e1, e2), S, B, (nI (x_)), (nI (z_)), G)) _ ls _ _ (⟨(congrArg Prod.fst hop).symm, nxC_e (e := 0) hop (by rw [k_18]; rfl) hR rfl rfl⟩) hP hD hS dX2_send_21
    · refine lv_iload_n hx hb dX2_send_12 rfl (lv_at hl 3 rfl) ?_
      refine lv_iconst (v := (nI (3))) hx hb dX2_send_13 (by decide) ?_
      refine lv_icmp_le (tgt := 22) hx hb dX2_send_14 (by decide)  (fun c_14 => ?_) (fun c_14 => ?_)
      · have hv9 : nI 0 ≤ z ∧ z ≤ nI 3 := ⟨Int32.not_lt.mp c_9, c_14⟩
        obtain ⟨q_, -, hq3, rfl⟩ := in_ab (by decide) (id hv9) (by decide)
        have hop : oSnd w (nI d_) (nI s_) (nI q_) = (nI (sn w), 1, sndR w (d_ * 16 + s_) q_) := by unfold oSnd; rw [itc_t ⟨h_2, hv9⟩, nv_nI (by omega), nv_nI (by omega), nv_nI (by omega)]
        refine lv_aload_n hx hb dX2_send_22 rfl (lv_at hl 0 rfl) ?_
        refine gt2 hx hb hts hown hC.1 hP 0 rfl 1 (by decide) qw119 rfl dX2_send_23 ?_
        refine lv_aload_n hx hb dX2_send_26 rfl (lv_at hl 0 rfl) ?_
        refine gt2 hx hb hts hown hC.1 hP 0 rfl 0 (by decide) qw118 rfl dX2_send_27 ?_
        refine goWv (pre := [(o, .inr (2, [.ref (h), .ref (us), .ref (lb), .int e0, .int e1, .int e2]))]) (wc := usS cI cO us rg g ga ((nI (x_))) ((nI (z_))) G ++ (stW cI h a S)) (suf := [(lb, .inl (cI, 96, .inl B))]) (kVN (As := [.ref (h)]) (rest := []) F (c_X1_save l D cI cO _ us rg g ga G ((nI (z_))) h a S x_ hx4 z_ hz rfl) ywX1_save (nk3 hC) qw151 qs2 ⟨rfl, rfl⟩ ⟨Nat.le_of_ble_eq_true rfl, Nat.le_of_ble_eq_true rfl⟩ (preV (preW (va_pl0 (x := usS cI cO us rg g ga ((nI (x_))) ((nI (z_))) G ++ (stW cI h a S)) (y := [(lb, .inl (cI, 96, .inl B))]) (by simpa only [List.append_assoc] using (va_pr0 hP))) hC (va_dl (x := usS cI cO us rg g ga ((nI (x_))) ((nI (z_))) G ++ (stW cI h a S)) (y := [(lb, .inl (cI, 96, .inl B))]) (by simpa only [List.append_assoc] using (va_dr hD)))) hC hP (ci := 1) (q0 := 1) rfl rfl rfl) rfl hl.1 rfl (Nat.le_of_ble_eq_true rfl) dX2_send_30 ⟨Nat.zero_le _, Nat.zero_le _⟩) (by simpa only [List.append_assoc, List.nil_append, List.append_nil] using hP) (by simpa only [List.append_assoc, List.nil_append, List.append_nil] using hD) hS hA (fun u_1 H locs h_30 hP hD hS => ?_)
        obtain ⟨G_1, nx_1, sz_1⟩ := u_1
        replace hP : va_P D vwCl ([(o, .inr (2, [.ref (h), .ref (us), .ref (lb), .int e0, .int e1, .int e2]))] ++ (usS cI cO us rg g ga nx_1 sz_1 G_1 ++ (stW cI h a S ++ ([(lb, .inl (cI, 96, .inl B))])))) H := by simpa only [List.append_assoc, List.nil_append, List.append_nil] using hP
        replace hD : va_D A ([(o, .inr (2, [.ref (h), .ref (us), .ref (lb), .int e0, .int e1, .int e2]))] ++ (usS cI cO us rg g ga nx_1 sz_1 G_1 ++ (stW cI h a S ++ ([(lb, .inl (cI, 96, .inl B))])))) := by simpa only [List.append_assoc, List.nil_append, List.append_nil] using hD
        refine lv_aload_n hx hb dX2_send_33 rfl (lv_at hl 0 rfl) ?_
        refine gt2 hx hb hts hown hC.1 hP 0 rfl 0 (by decide) qw118 rfl dX2_send_34 ?_
        refine lv_iload_n hx hb dX2_send_37 rfl (lv_at hl 1 rfl) ?_
        refine lv_iload_n hx hb dX2_send_38 rfl (lv_at hl 2 rfl) ?_
        refine lv_iload_n hx hb dX2_send_39 rfl (lv_at hl 3 rfl) ?_
        refine goWi (pre := [(o, .inr (2, [.ref (h), .ref (us), .ref (lb), .int e0, .int e1, .int e2]))] ++ (usS cI cO us rg g ga nx_1 sz_1 G_1)) (wc := stW cI h a S) (suf := [(lb, .inl (cI, 96, .inl B))]) (kVN (As := [.int (nI (d_)), .int (nI (s_)), .int (nI (q_))]) (rest := []) F (c_X0_accept l D cI cO _ h a S w c0 hR (d_) (s_) (q_) (by omega) (by omega) (by omega) (by omega)) ywX0_accept (nk23 hC) qw336 qs22 ⟨rfl, rfl⟩ ⟨Nat.le_of_ble_eq_true rfl, Nat.le_of_ble_eq_true rfl⟩ (preV (preW (va_pl0 (va_pr0 (va_pr0 hP))) hC (va_dl (va_dr (va_dr hD)))) hC hP (ci := 0) (q0 := 43) rfl rfl rfl) rfl hl.1 rfl (Nat.le_of_ble_eq_true rfl) dX2_send_40 ⟨Nat.zero_le _, Nat.zero_le _⟩) (by simpa only [List.append_assoc, List.nil_append, List.append_nil] using hP) (by simpa only [List.append_assoc, List.nil_append, List.append_nil] using hD) hS hA (fun r_40 T_1 H locs h_40 hP hD hS => ?_)
        replace hP : va_P D vwCl ([(o, .inr (2, [.ref (h), .ref (us), .ref (lb), .int e0, .int e1, .int e2]))] ++ (usS cI cO us rg g ga nx_1 sz_1 G_1 ++ (stW cI h a T_1 ++ ([(lb, .inl (cI, 96, .inl B))])))) H := by simpa only [List.append_assoc, List.nil_append, List.append_nil] using hP
        replace hD : va_D A ([(o, .inr (2, [.ref (h), .ref (us), .ref (lb), .int e0, .int e1, .int e2]))] ++ (usS cI cO us rg g ga nx_1 sz_1 G_1 ++ (stW cI h a T_1 ++ ([(lb, .inl (cI, 96, .inl B))])))) := by simpa only [List.append_assoc, List.nil_append, List.append_nil] using hD
        obtain ⟨h_40, k_40⟩ := h_40
        subst h_40
        exact hret _ (((e0, e1, e2), T_1, B, nx_1, sz_1, G_1)) _ ls _ _ (⟨(congrArg Prod.fst hop).symm, nxC_1 hop (k_40) hR h_30⟩) hP hD hS dX2_send_43
      · have hop : oSnd w (nI d_) (nI s_) z = (-2, 2, w) := itc_f (fun q => c_14 q.2.2)
        refine lv_aload_n hx hb dX2_send_17 rfl (lv_at hl 0 rfl) ?_
        refine goWi (pre := []) (wc := [(o, .inr (2, [.ref (h), .ref (us), .ref (lb), .int e0, .int e1, .int e2]))]) (suf := usS cI cO us rg g ga ((nI (x_))) ((nI (z_))) G ++ (stW cI h a S ++ ([(lb, .inl (cI, 96, .inl B))]))) (kV (As := []) (rest := []) F (c_X2_invalid l D cI cO _ o h us lb e0 e1 e2) ywX2_invalid qw141 qw143 qs0 ⟨rfl, rfl⟩ ⟨Nat.le_of_ble_eq_true rfl, Nat.le_of_ble_eq_true rfl⟩ (preV (preW (va_pl0 hP) hC (va_dl hD)) hC hP (ci := 2) (q0 := 0) rfl rfl rfl) rfl hl.1 rfl (Nat.le_of_ble_eq_true rfl) dX2_send_18 ⟨Nat.zero_le _, Nat.zero_le _⟩) (by simpa only [List.append_assoc, List.nil_append, List.append_nil] using hP) (by simpa only [List.append_assoc, List.nil_append, List.append_nil] using hD) hS hA (fun r_18 e_2 H locs h_18 hP hD hS => ?_)
        replace hP : va_P D vwCl ([(o, .inr (2, [.ref (h), .ref (us), .ref (lb), .int e_2, .int e1, .int e2]))] ++ (usS cI cO us rg g ga ((nI (x_))) ((nI (z_))) G ++ (stW cI h a S ++ ([(lb, .inl (cI, 96, .inl B))])))) H := by simpa only [List.append_assoc, List.nil_append, List.append_nil] using hP
        replace hD : va_D A ([(o, .inr (2, [.ref (h), .ref (us), .ref (lb), .int e_2, .int e1, .int e2]))] ++ (usS cI cO us rg g ga ((nI (x_))) ((nI (z_))) G ++ (stW cI h a S ++ ([(lb, .inl (cI, 96, .inl B))])))) := by simpa only [List.append_assoc, List.nil_append, List.append_nil] using hD
        obtain ⟨h_18, k_18⟩ := h_18
        subst h_18
        exact hret _ (((e_2, e1, e2), S, B, (nI (x_)), (nI (z_)), G)) _ ls _ _ (⟨(congrArg Prod.fst hop).symm, nxC_e (e := 0) hop (by rw [k_18]; rfl) hR rfl rfl⟩) hP hD hS dX2_send_21
  · have hop : oSnd w x y z = (-2, 2, w) := itc_f (fun q => h_2 q.1)
    refine n_if_eq (tgt := 17) hx hb dX2_send_5 (by decide) (by omega) (fun _ => ?_) (fun h => absurd h (by decide))
    refine lv_aload_n hx hb dX2_send_17 rfl (lv_at hl 0 rfl) ?_
    refine goWi (pre := []) (wc := [(o, .inr (2, [.ref (h), .ref (us), .ref (lb), .int e0, .int e1, .int e2]))]) (suf := usS cI cO us rg g ga ((nI (x_))) ((nI (z_))) G ++ (stW cI h a S ++ ([(lb, .inl (cI, 96, .inl B))]))) (kV (As := []) (rest := []) F (c_X2_invalid l D cI cO _ o h us lb e0 e1 e2) ywX2_invalid qw141 qw143 qs0 ⟨rfl, rfl⟩ ⟨Nat.le_of_ble_eq_true rfl, Nat.le_of_ble_eq_true rfl⟩ (preV (preW (va_pl0 hP) hC (va_dl hD)) hC hP (ci := 2) (q0 := 0) rfl rfl rfl) rfl hl.1 rfl (Nat.le_of_ble_eq_true rfl) dX2_send_18 ⟨Nat.zero_le _, Nat.zero_le _⟩) (by simpa only [List.append_assoc, List.nil_append, List.append_nil] using hP) (by simpa only [List.append_assoc, List.nil_append, List.append_nil] using hD) hS hA (fun r_18 e_3 H locs h_18 hP hD hS => ?_)
    replace hP : va_P D vwCl ([(o, .inr (2, [.ref (h), .ref (us), .ref (lb), .int e_3, .int e1, .int e2]))] ++ (usS cI cO us rg g ga ((nI (x_))) ((nI (z_))) G ++ (stW cI h a S ++ ([(lb, .inl (cI, 96, .inl B))])))) H := by simpa only [List.append_assoc, List.nil_append, List.append_nil] using hP
    replace hD : va_D A ([(o, .inr (2, [.ref (h), .ref (us), .ref (lb), .int e_3, .int e1, .int e2]))] ++ (usS cI cO us rg g ga ((nI (x_))) ((nI (z_))) G ++ (stW cI h a S ++ ([(lb, .inl (cI, 96, .inl B))])))) := by simpa only [List.append_assoc, List.nil_append, List.append_nil] using hD
    obtain ⟨h_18, k_18⟩ := h_18
    subst h_18
    exact hret _ (((e_3, e1, e2), S, B, (nI (x_)), (nI (z_)), G)) _ ls _ _ (⟨(congrArg Prod.fst hop).symm, nxC_e (e := 0) hop (by rw [k_18]; rfl) hR rfl rfl⟩) hP hD hS dX2_send_21

set_option maxHeartbeats 4000000 in
set_option maxRecDepth 100000 in
theorem c_X2_setHoldTime (l : Launch) (D : va_G) (cI cO : ClassId) (sz : Nat) (o us rg : Nat) (g : Nat → Nat) (ga : Nat → Nat → Nat) (h : Nat) (a : Nat → Nat) (lb : Nat) (e0 e1 e2 : Int32) (G : Nat → Nat → Nat → Int32) (S : Nat → Nat → Int32) (B : Nat → Int32) (w : Nat → Int32) (c0 : Nat) (hR : RC c0 S w) (x_ z_ : Nat) (hx4 : x_ < 4) (hz : z_ ≤ 4) (hc9 : c0 < 900) (x : Int32) : Met l yX2_setHoldTime (Cond.code yX2_setHoldTime cX2_setHoldTime 3 (some .int) :: WL) ({ frames := 4, cells := 0, slots := 0, locals := 103 } : Room) (va_Pc [.ref (o), .int (x)] (PW D cI cO ([(o, .inr (2, [.ref (h), .ref (us), .ref (lb), .int e0, .int e1, .int e2]))] ++ (usS cI cO us rg g ga ((nI (x_))) ((nI (z_))) G ++ (stW cI h a S ++ ([(lb, .inl (cI, 96, .inl B))])))) sz)) (va_Qi (fun (r : Int32) (u : CV) => r = (oHt w x).1 ∧ nxC c0 x_ z_ (e0, e1, e2) G w (oHt w x) u) (QB D ([(o, .inr (2, [.ref (h), .ref (us), .ref (lb), .int e0, .int e1, .int e2]))] ++ (usS cI cO us rg g ga ((nI (x_))) ((nI (z_))) G ++ (stW cI h a S ++ ([(lb, .inl (cI, 96, .inl B))])))) sz (fun (u : CV) => cvU cI cO o us rg g ga h a lb u)) (va_A ([(o, .inr (2, [.ref (h), .ref (us), .ref (lb), .int e0, .int e1, .int e2]))] ++ (usS cI cO us rg g ga ((nI (x_))) ((nI (z_))) G ++ (stW cI h a S ++ ([(lb, .inl (cI, 96, .inl B))])))) sz)) 0 0 (va_A ([(o, .inr (2, [.ref (h), .ref (us), .ref (lb), .int e0, .int e1, .int e2]))] ++ (usS cI cO us rg g ga ((nI (x_))) ((nI (z_))) G ++ (stW cI h a S ++ ([(lb, .inl (cI, 96, .inl B))])))) sz) := by
  refine wr_int (by decide) (Nat.le_of_ble_eq_true rfl) ?_
  intro p e s m args below meth c Q ls A F hP hC hD hA hret hl
  have hx := F.1
  have hb := F.2.1
  have hml := F.2.2.1
  have hown := F.2.2.2.1
  have hts := F.2.2.2.2
  replace hl : lv_has ls 3 [(0, .ref (o)), (1, .int (x))] := hl
  have hS : va_S A s.heap s.heap [] := va_S.rf
  have hn4 := hR.wf.n.2
  have hc : c0 < 1000 := by omega
  refine lv_iload_n hx hb dX2_setHoldTime_0 rfl (lv_at hl 1 rfl) ?_
  refine lv_if_lt (tgt := 10) hx hb dX2_setHoldTime_1 (by decide)  (fun c_1 => ?_) (fun c_1 => ?_)
  · have hop : oHt w x = (-2, 2, w) := itc_f (fun q => Int32.not_lt.mpr q.1 c_1)
    refine lv_aload_n hx hb dX2_setHoldTime_10 rfl (lv_at hl 0 rfl) ?_
    refine goWi (pre := []) (wc := [(o, .inr (2, [.ref (h), .ref (us), .ref (lb), .int e0, .int e1, .int e2]))]) (suf := usS cI cO us rg g ga ((nI (x_))) ((nI (z_))) G ++ (stW cI h a S ++ ([(lb, .inl (cI, 96, .inl B))]))) (kV (As := []) (rest := []) F (c_X2_invalid l D cI cO _ o h us lb e0 e1 e2) ywX2_invalid qw141 qw143 qs0 ⟨rfl, rfl⟩ ⟨Nat.le_of_ble_eq_true rfl, Nat.le_of_ble_eq_true rfl⟩ (preV (preW (va_pl0 hP) hC (va_dl hD)) hC hP (ci := 2) (q0 := 0) rfl rfl rfl) rfl hl.1 rfl (Nat.le_of_ble_eq_true rfl) dX2_setHoldTime_11 ⟨Nat.zero_le _, Nat.zero_le _⟩) (by simpa only [List.append_assoc, List.nil_append, List.append_nil] using hP) (by simpa only [List.append_assoc, List.nil_append, List.append_nil] using hD) hS hA (fun r_11 e_1 H locs h_11 hP hD hS => ?_)
    replace hP : va_P D vwCl ([(o, .inr (2, [.ref (h), .ref (us), .ref (lb), .int e_1, .int e1, .int e2]))] ++ (usS cI cO us rg g ga ((nI (x_))) ((nI (z_))) G ++ (stW cI h a S ++ ([(lb, .inl (cI, 96, .inl B))])))) H := by simpa only [List.append_assoc, List.nil_append, List.append_nil] using hP
    replace hD : va_D A ([(o, .inr (2, [.ref (h), .ref (us), .ref (lb), .int e_1, .int e1, .int e2]))] ++ (usS cI cO us rg g ga ((nI (x_))) ((nI (z_))) G ++ (stW cI h a S ++ ([(lb, .inl (cI, 96, .inl B))])))) := by simpa only [List.append_assoc, List.nil_append, List.append_nil] using hD
    obtain ⟨h_11, k_11⟩ := h_11
    subst h_11
    exact hret _ (((e_1, e1, e2), S, B, (nI (x_)), (nI (z_)), G)) _ ls _ _ (⟨(congrArg Prod.fst hop).symm, nxC_e (e := 0) hop (by rw [k_11]; rfl) hR rfl rfl⟩) hP hD hS dX2_setHoldTime_14
  · refine lv_iload_n hx hb dX2_setHoldTime_4 rfl (lv_at hl 1 rfl) ?_
    refine lv_bipush (v := (nI (9))) hx hb dX2_setHoldTime_5 (by decide) ?_
    refine lv_icmp_le (tgt := 15) hx hb dX2_setHoldTime_7 (by decide)  (fun c_7 => ?_) (fun c_7 => ?_)
    · have hv9 : nI 0 ≤ x ∧ x ≤ nI 9 := ⟨Int32.not_lt.mp c_1, c_7⟩
      have hop0 : oHt w x = (w 463, 1, upd w 463 x) := itc_t hv9
      obtain ⟨q_, -, hq9, rfl⟩ := in_ab (by decide) (id hv9) (by decide)
      have hop := hop0
      refine lv_aload_n hx hb dX2_setHoldTime_15 rfl (lv_at hl 0 rfl) ?_
      refine gt2 hx hb hts hown hC.1 hP 0 rfl 1 (by decide) qw119 rfl dX2_setHoldTime_16 ?_
      refine lv_aload_n hx hb dX2_setHoldTime_19 rfl (lv_at hl 0 rfl) ?_
      refine gt2 hx hb hts hown hC.1 hP 0 rfl 0 (by decide) qw118 rfl dX2_setHoldTime_20 ?_
      refine goWv (pre := [(o, .inr (2, [.ref (h), .ref (us), .ref (lb), .int e0, .int e1, .int e2]))]) (wc := usS cI cO us rg g ga ((nI (x_))) ((nI (z_))) G ++ (stW cI h a S)) (suf := [(lb, .inl (cI, 96, .inl B))]) (kVN (As := [.ref (h)]) (rest := []) F (c_X1_save l D cI cO _ us rg g ga G ((nI (z_))) h a S x_ hx4 z_ hz rfl) ywX1_save (nk3 hC) qw151 qs2 ⟨rfl, rfl⟩ ⟨Nat.le_of_ble_eq_true rfl, Nat.le_of_ble_eq_true rfl⟩ (preV (preW (va_pl0 (x := usS cI cO us rg g ga ((nI (x_))) ((nI (z_))) G ++ (stW cI h a S)) (y := [(lb, .inl (cI, 96, .inl B))]) (by simpa only [List.append_assoc] using (va_pr0 hP))) hC (va_dl (x := usS cI cO us rg g ga ((nI (x_))) ((nI (z_))) G ++ (stW cI h a S)) (y := [(lb, .inl (cI, 96, .inl B))]) (by simpa only [List.append_assoc] using (va_dr hD)))) hC hP (ci := 1) (q0 := 1) rfl rfl rfl) rfl hl.1 rfl (Nat.le_of_ble_eq_true rfl) dX2_setHoldTime_23 ⟨Nat.zero_le _, Nat.zero_le _⟩) (by simpa only [List.append_assoc, List.nil_append, List.append_nil] using hP) (by simpa only [List.append_assoc, List.nil_append, List.append_nil] using hD) hS hA (fun u_1 H locs h_23 hP hD hS => ?_)
      obtain ⟨G_1, nx_1, sz_1⟩ := u_1
      replace hP : va_P D vwCl ([(o, .inr (2, [.ref (h), .ref (us), .ref (lb), .int e0, .int e1, .int e2]))] ++ (usS cI cO us rg g ga nx_1 sz_1 G_1 ++ (stW cI h a S ++ ([(lb, .inl (cI, 96, .inl B))])))) H := by simpa only [List.append_assoc, List.nil_append, List.append_nil] using hP
      replace hD : va_D A ([(o, .inr (2, [.ref (h), .ref (us), .ref (lb), .int e0, .int e1, .int e2]))] ++ (usS cI cO us rg g ga nx_1 sz_1 G_1 ++ (stW cI h a S ++ ([(lb, .inl (cI, 96, .inl B))])))) := by simpa only [List.append_assoc, List.nil_append, List.append_nil] using hD
      refine lv_aload_n hx hb dX2_setHoldTime_26 rfl (lv_at hl 0 rfl) ?_
      refine gt2 hx hb hts hown hC.1 hP 0 rfl 0 (by decide) qw118 rfl dX2_setHoldTime_27 ?_
      refine gtN0 hx hb hts hown hC.1 hP 43 rfl 1 (by decide) (nf1 hC) rfl dX2_setHoldTime_30 ?_
      refine w_cv (y := (w 463)) hR.i.2.1 ?_
      refine lv_istore_n (lv' := [(2, .int (w 463)), (0, .ref (o)), (1, .int (nI (q_)))]) hx hb dX2_setHoldTime_33 rfl hl (by decide) rfl (fun ls hl => ?_)
      refine lv_aload_n hx hb dX2_setHoldTime_34 rfl (lv_at hl 1 rfl) ?_
      refine gt2 hx hb hts hown hC.1 hP 0 rfl 0 (by decide) qw118 rfl dX2_setHoldTime_35 ?_
      refine lv_iload_n hx hb dX2_setHoldTime_38 rfl (lv_at hl 2 rfl) ?_
      refine ptN0 (ty := .int) hx hb hts hown hC.1 hP hD hS 43 rfl 1 (by decide) (nf1 hC) rfl (by decide +kernel) rfl rfl (Nat.le_of_ble_eq_true rfl) dX2_setHoldTime_39 (fun H locs hP hD hS => ?_)
      obtain ⟨S_1, hS_1⟩ : ∃ z : Nat → Nat → Int32, z = va_up S 1 (fun _ => (nI (q_))) := ⟨_, rfl⟩
      replace hP : va_P D vwCl ([(o, .inr (2, [.ref (h), .ref (us), .ref (lb), .int e0, .int e1, .int e2]))] ++ (usS cI cO us rg g ga nx_1 sz_1 G_1 ++ (stW cI h a S_1 ++ ([(lb, .inl (cI, 96, .inl B))])))) H := by rw [hS_1]; exact hP
      replace hD : va_D A ([(o, .inr (2, [.ref (h), .ref (us), .ref (lb), .int e0, .int e1, .int e2]))] ++ (usS cI cO us rg g ga nx_1 sz_1 G_1 ++ (stW cI h a S_1 ++ ([(lb, .inl (cI, 96, .inl B))])))) := by rw [hS_1]; exact hD
      refine lv_iload_n hx hb dX2_setHoldTime_42 rfl (lv_at hl 0 rfl) ?_
      exact hret _ (((e0, e1, e2), S_1, B, nx_1, sz_1, G_1)) _ ls _ _ (⟨(congrArg Prod.fst hop).symm, nxC_1 hop (by rw [hS_1]; exact (RC_ht hq9 hR).mono (by omega)) hR h_23⟩) hP hD hS dX2_setHoldTime_43
    · have hop : oHt w x = (-2, 2, w) := itc_f (fun q => c_7 q.2)
      refine lv_aload_n hx hb dX2_setHoldTime_10 rfl (lv_at hl 0 rfl) ?_
      refine goWi (pre := []) (wc := [(o, .inr (2, [.ref (h), .ref (us), .ref (lb), .int e0, .int e1, .int e2]))]) (suf := usS cI cO us rg g ga ((nI (x_))) ((nI (z_))) G ++ (stW cI h a S ++ ([(lb, .inl (cI, 96, .inl B))]))) (kV (As := []) (rest := []) F (c_X2_invalid l D cI cO _ o h us lb e0 e1 e2) ywX2_invalid qw141 qw143 qs0 ⟨rfl, rfl⟩ ⟨Nat.le_of_ble_eq_true rfl, Nat.le_of_ble_eq_true rfl⟩ (preV (preW (va_pl0 hP) hC (va_dl hD)) hC hP (ci := 2) (q0 := 0) rfl rfl rfl) rfl hl.1 rfl (Nat.le_of_ble_eq_true rfl) dX2_setHoldTime_11 ⟨Nat.zero_le _, Nat.zero_le _⟩) (by simpa only [List.append_assoc, List.nil_append, List.append_nil] using hP) (by simpa only [List.append_assoc, List.nil_append, List.append_nil] using hD) hS hA (fun r_11 e_2 H locs h_11 hP hD hS => ?_)
      replace hP : va_P D vwCl ([(o, .inr (2, [.ref (h), .ref (us), .ref (lb), .int e_2, .int e1, .int e2]))] ++ (usS cI cO us rg g ga ((nI (x_))) ((nI (z_))) G ++ (stW cI h a S ++ ([(lb, .inl (cI, 96, .inl B))])))) H := by simpa only [List.append_assoc, List.nil_append, List.append_nil] using hP
      replace hD : va_D A ([(o, .inr (2, [.ref (h), .ref (us), .ref (lb), .int e_2, .int e1, .int e2]))] ++ (usS cI cO us rg g ga ((nI (x_))) ((nI (z_))) G ++ (stW cI h a S ++ ([(lb, .inl (cI, 96, .inl B))])))) := by simpa only [List.append_assoc, List.nil_append, List.append_nil] using hD
      obtain ⟨h_11, k_11⟩ := h_11
      subst h_11
      exact hret _ (((e_2, e1, e2), S, B, (nI (x_)), (nI (z_)), G)) _ ls _ _ (⟨(congrArg Prod.fst hop).symm, nxC_e (e := 0) hop (by rw [k_11]; rfl) hR rfl rfl⟩) hP hD hS dX2_setHoldTime_14

set_option maxHeartbeats 4000000 in
set_option maxRecDepth 100000 in
theorem c_X2_removeRoute (l : Launch) (D : va_G) (cI cO : ClassId) (sz : Nat) (o us rg : Nat) (g : Nat → Nat) (ga : Nat → Nat → Nat) (h : Nat) (a : Nat → Nat) (lb : Nat) (e0 e1 e2 : Int32) (G : Nat → Nat → Nat → Int32) (S : Nat → Nat → Int32) (B : Nat → Int32) (w : Nat → Int32) (c0 : Nat) (hR : RC c0 S w) (x_ z_ : Nat) (hx4 : x_ < 4) (hz : z_ ≤ 4) (hc9 : c0 < 900) (x y : Int32) : Met l yX2_removeRoute (Cond.code yX2_removeRoute cX2_removeRoute 5 (some .int) :: WL) ({ frames := 4, cells := 0, slots := 0, locals := 103 } : Room) (va_Pc [.ref (o), .int (x), .int (y)] (PW D cI cO ([(o, .inr (2, [.ref (h), .ref (us), .ref (lb), .int e0, .int e1, .int e2]))] ++ (usS cI cO us rg g ga ((nI (x_))) ((nI (z_))) G ++ (stW cI h a S ++ ([(lb, .inl (cI, 96, .inl B))])))) sz)) (va_Qi (fun (r : Int32) (u : CV) => r = (oRr w x y).1 ∧ nxC c0 x_ z_ (e0, e1, e2) G w (oRr w x y) u) (QB D ([(o, .inr (2, [.ref (h), .ref (us), .ref (lb), .int e0, .int e1, .int e2]))] ++ (usS cI cO us rg g ga ((nI (x_))) ((nI (z_))) G ++ (stW cI h a S ++ ([(lb, .inl (cI, 96, .inl B))])))) sz (fun (u : CV) => cvU cI cO o us rg g ga h a lb u)) (va_A ([(o, .inr (2, [.ref (h), .ref (us), .ref (lb), .int e0, .int e1, .int e2]))] ++ (usS cI cO us rg g ga ((nI (x_))) ((nI (z_))) G ++ (stW cI h a S ++ ([(lb, .inl (cI, 96, .inl B))])))) sz)) 0 0 (va_A ([(o, .inr (2, [.ref (h), .ref (us), .ref (lb), .int e0, .int e1, .int e2]))] ++ (usS cI cO us rg g ga ((nI (x_))) ((nI (z_))) G ++ (stW cI h a S ++ ([(lb, .inl (cI, 96, .inl B))])))) sz) := by
  refine wr_int (by decide) (Nat.le_of_ble_eq_true rfl) ?_
  intro p e s m args below meth c Q ls A F hP hC hD hA hret hl
  have hx := F.1
  have hb := F.2.1
  have hml := F.2.2.1
  have hown := F.2.2.2.1
  have hts := F.2.2.2.2
  replace hl : lv_has ls 5 [(0, .ref (o)), (1, .int (x)), (2, .int (y))] := hl
  have hS : va_S A s.heap s.heap [] := va_S.rf
  have hn4 := hR.wf.n.2
  have hc : c0 < 1000 := by omega
  refine lv_aload_n hx hb dX2_removeRoute_0 rfl (lv_at hl 0 rfl) ?_
  refine gt2 hx hb hts hown hC.1 hP 0 rfl 0 (by decide) qw118 rfl dX2_removeRoute_1 ?_
  refine lv_iload_n hx hb dX2_removeRoute_4 rfl (lv_at hl 1 rfl) ?_
  refine lv_iload_n hx hb dX2_removeRoute_5 rfl (lv_at hl 2 rfl) ?_
  refine goR (kVN (As := [.int (x), .int (y)]) (rest := []) F (c_X0_canHaveRoute l D cI cO h a S w c0 hR (x) (y)) ywX0_canHaveRoute (nk19 hC) qw298 qs21 ⟨rfl, rfl⟩ ⟨Nat.le_of_ble_eq_true rfl, Nat.le_of_ble_eq_true rfl⟩ (preV (preR (va_pl0 (va_pr0 (va_pr0 hP))) hC) hC hP (ci := 0) (q0 := 43) rfl rfl rfl) rfl hl.1 rfl (Nat.le_of_ble_eq_true rfl) dX2_removeRoute_6 ⟨Nat.zero_le _, Nat.zero_le _⟩) (fun r_6 h_6 => ?_)
  rcases h_6 with ⟨rfl, h_6⟩ | ⟨rfl, h_6⟩
  · obtain ⟨⟨d_, hd6, rfl⟩, i, hi, rfl⟩ := id h_6
    have hi4 : i < 4 := by omega
    have hsx : sx (nI d_) (nI i) = 197 + 4 * d_ + i := sx_nI (by omega) (by omega)
    have hpx : px (nI d_) (nI i) = 221 + 4 * d_ + i := px_nI (by omega) (by omega)
    refine n_if_ne (tgt := 17) hx hb dX2_removeRoute_9 (by decide) (by omega) (fun _ => ?_) (fun h => absurd h (by decide))
    refine lv_iload_n hx hb dX2_removeRoute_17 rfl (lv_at hl 1 rfl) ?_
    refine lv_iload_n hx hb dX2_removeRoute_18 rfl (lv_at hl 2 rfl) ?_
    refine goR (kS (As := [.int (nI (d_)), .int (nI (i))]) (rest := []) F (c_X2_routePlace l D cI cO (d_) (i)) ywX2_routePlace qw303 qw221  ⟨rfl, rfl⟩ ⟨Nat.le_of_ble_eq_true rfl, Nat.le_of_ble_eq_true rfl⟩ (preR (fun k q h => by simp at h) hC) rfl hl.1 rfl (Nat.le_of_ble_eq_true rfl) dX2_removeRoute_19 ⟨Nat.zero_le _, Nat.zero_le _⟩) (fun r_19 h_19 => ?_)
    subst h_19
    refine lv_istore_n (lv' := [(3, .int (nI (d_ * 4 + i))), (0, .ref (o)), (1, .int (nI (d_))), (2, .int (nI (i)))]) hx hb dX2_removeRoute_22 rfl hl (by decide) rfl (fun ls hl => ?_)
    refine lv_aload_n hx hb dX2_removeRoute_23 rfl (lv_at hl 1 rfl) ?_
    refine gt2 hx hb hts hown hC.1 hP 0 rfl 0 (by decide) qw118 rfl dX2_removeRoute_24 ?_
    refine gtN0 hx hb hts hown hC.1 hP 43 rfl 14 (by decide) (nf11 hC) rfl dX2_removeRoute_27 ?_
    refine lv_iload_n hx hb dX2_removeRoute_30 rfl (lv_at hl 0 rfl) ?_
    refine n_iald hx hb hC.1 hP 48 0 rfl rfl (by omega) (by decide) dX2_removeRoute_31 ?_
    refine w_cv (y := (w (197 + 4 * d_ + i))) (hR.s d_ hd6 i hi4) ?_
    refine lv_istore (lv' := [(4, .int (w (197 + 4 * d_ + i))), (3, .int (nI (d_ * 4 + i))), (0, .ref (o)), (1, .int (nI (d_))), (2, .int (nI (i)))]) hx hb dX2_removeRoute_32 hl (by decide) rfl (fun ls hl => ?_)
    refine lv_iload hx hb dX2_removeRoute_34 (lv_at hl 0 rfl) ?_
    refine lv_iconst (v := (-1)) hx hb dX2_removeRoute_36 (by decide) ?_
    refine lv_icmp_ne (tgt := 45) hx hb dX2_removeRoute_37 (by decide)  (fun c_37 => ?_) (fun c_37 => ?_)
    · have hop : oRr w (nI d_) (nI i) = (w (197 + 4 * d_ + i), 1, upd (upd w (197 + 4 * d_ + i) (-1)) (221 + 4 * d_ + i) (-1)) := by unfold oRr; rw [itc_t h_6, hsx, hpx, if_neg c_37]
      refine lv_aload_n hx hb dX2_removeRoute_45 rfl (lv_at hl 2 rfl) ?_
      refine gt2 hx hb hts hown hC.1 hP 0 rfl 1 (by decide) qw119 rfl dX2_removeRoute_46 ?_
      refine lv_aload_n hx hb dX2_removeRoute_49 rfl (lv_at hl 2 rfl) ?_
      refine gt2 hx hb hts hown hC.1 hP 0 rfl 0 (by decide) qw118 rfl dX2_removeRoute_50 ?_
      refine goWv (pre := [(o, .inr (2, [.ref (h), .ref (us), .ref (lb), .int e0, .int e1, .int e2]))]) (wc := usS cI cO us rg g ga ((nI (x_))) ((nI (z_))) G ++ (stW cI h a S)) (suf := [(lb, .inl (cI, 96, .inl B))]) (kVN (As := [.ref (h)]) (rest := []) F (c_X1_save l D cI cO _ us rg g ga G ((nI (z_))) h a S x_ hx4 z_ hz rfl) ywX1_save (nk3 hC) qw151 qs2 ⟨rfl, rfl⟩ ⟨Nat.le_of_ble_eq_true rfl, Nat.le_of_ble_eq_true rfl⟩ (preV (preW (va_pl0 (x := usS cI cO us rg g ga ((nI (x_))) ((nI (z_))) G ++ (stW cI h a S)) (y := [(lb, .inl (cI, 96, .inl B))]) (by simpa only [List.append_assoc] using (va_pr0 hP))) hC (va_dl (x := usS cI cO us rg g ga ((nI (x_))) ((nI (z_))) G ++ (stW cI h a S)) (y := [(lb, .inl (cI, 96, .inl B))]) (by simpa only [List.append_assoc] using (va_dr hD)))) hC hP (ci := 1) (q0 := 1) rfl rfl rfl) rfl hl.1 rfl (Nat.le_of_ble_eq_true rfl) dX2_removeRoute_53 ⟨Nat.zero_le _, Nat.zero_le _⟩) (by simpa only [List.append_assoc, List.nil_append, List.append_nil] using hP) (by simpa only [List.append_assoc, List.nil_append, List.append_nil] using hD) hS hA (fun u_1 H locs h_53 hP hD hS => ?_)
      obtain ⟨G_1, nx_1, sz_1⟩ := u_1
      replace hP : va_P D vwCl ([(o, .inr (2, [.ref (h), .ref (us), .ref (lb), .int e0, .int e1, .int e2]))] ++ (usS cI cO us rg g ga nx_1 sz_1 G_1 ++ (stW cI h a S ++ ([(lb, .inl (cI, 96, .inl B))])))) H := by simpa only [List.append_assoc, List.nil_append, List.append_nil] using hP
      replace hD : va_D A ([(o, .inr (2, [.ref (h), .ref (us), .ref (lb), .int e0, .int e1, .int e2]))] ++ (usS cI cO us rg g ga nx_1 sz_1 G_1 ++ (stW cI h a S ++ ([(lb, .inl (cI, 96, .inl B))])))) := by simpa only [List.append_assoc, List.nil_append, List.append_nil] using hD
      refine lv_aload_n hx hb dX2_removeRoute_56 rfl (lv_at hl 2 rfl) ?_
      refine gt2 hx hb hts hown hC.1 hP 0 rfl 0 (by decide) qw118 rfl dX2_removeRoute_57 ?_
      refine gtN0 hx hb hts hown hC.1 hP 43 rfl 14 (by decide) (nf11 hC) rfl dX2_removeRoute_60 ?_
      refine lv_iload_n hx hb dX2_removeRoute_63 rfl (lv_at hl 1 rfl) ?_
      refine lv_iconst (v := (-1)) hx hb dX2_removeRoute_64 (by decide) ?_
      refine n_iast hx hb hC.1 hP hD hS 48 0 rfl rfl (by omega) (by decide) dX2_removeRoute_65 (fun H locs hP hD hS => ?_)
      obtain ⟨S_1, hS_1⟩ : ∃ z : Nat → Nat → Int32, z = va_up S 14 (upd (S 14) (d_ * 4 + i) (-1)) := ⟨_, rfl⟩
      replace hP : va_P D vwCl ([(o, .inr (2, [.ref (h), .ref (us), .ref (lb), .int e0, .int e1, .int e2]))] ++ (usS cI cO us rg g ga nx_1 sz_1 G_1 ++ (stW cI h a S_1 ++ ([(lb, .inl (cI, 96, .inl B))])))) H := by rw [hS_1]; exact hP
      replace hD : va_D A ([(o, .inr (2, [.ref (h), .ref (us), .ref (lb), .int e0, .int e1, .int e2]))] ++ (usS cI cO us rg g ga nx_1 sz_1 G_1 ++ (stW cI h a S_1 ++ ([(lb, .inl (cI, 96, .inl B))])))) := by rw [hS_1]; exact hD
      refine lv_aload_n hx hb dX2_removeRoute_66 rfl (lv_at hl 2 rfl) ?_
      refine gt2 hx hb hts hown hC.1 hP 0 rfl 0 (by decide) qw118 rfl dX2_removeRoute_67 ?_
      refine gtN0 hx hb hts hown hC.1 hP 43 rfl 15 (by decide) (nf12 hC) rfl dX2_removeRoute_70 ?_
      refine lv_iload_n hx hb dX2_removeRoute_73 rfl (lv_at hl 1 rfl) ?_
      refine lv_iconst (v := (-1)) hx hb dX2_removeRoute_74 (by decide) ?_
      refine n_iast hx hb hC.1 hP hD hS 49 0 rfl rfl (by omega) (by decide) dX2_removeRoute_75 (fun H locs hP hD hS => ?_)
      obtain ⟨S_2, hS_2⟩ : ∃ z : Nat → Nat → Int32, z = va_up S_1 15 (upd (S_1 15) (d_ * 4 + i) (-1)) := ⟨_, rfl⟩
      replace hP : va_P D vwCl ([(o, .inr (2, [.ref (h), .ref (us), .ref (lb), .int e0, .int e1, .int e2]))] ++ (usS cI cO us rg g ga nx_1 sz_1 G_1 ++ (stW cI h a S_2 ++ ([(lb, .inl (cI, 96, .inl B))])))) H := by rw [hS_2]; exact hP
      replace hD : va_D A ([(o, .inr (2, [.ref (h), .ref (us), .ref (lb), .int e0, .int e1, .int e2]))] ++ (usS cI cO us rg g ga nx_1 sz_1 G_1 ++ (stW cI h a S_2 ++ ([(lb, .inl (cI, 96, .inl B))])))) := by rw [hS_2]; exact hD
      refine lv_iload hx hb dX2_removeRoute_76 (lv_at hl 0 rfl) ?_
      exact hret _ (((e0, e1, e2), S_2, B, nx_1, sz_1, G_1)) _ ls _ _ (⟨(congrArg Prod.fst hop).symm, nxC_1 hop (by subst hS_2; subst hS_1; exact (RC_rpr (x := -1) hd6 hi4 (fun e9 => absurd (by rw [upd_eq]) e9) (RC_rst (x := -1) hd6 hi4 (Or.inl rfl) (fun e9 => absurd rfl e9) hR)).mono (by omega)) hR h_53⟩) hP hD hS dX2_removeRoute_78
    · have hop : oRr w (nI d_) (nI i) = (-3, 3, w) := by unfold oRr; rw [itc_t h_6, hsx, if_pos c_37]; rfl
      refine lv_aload_n hx hb dX2_removeRoute_40 rfl (lv_at hl 2 rfl) ?_
      refine goWi (pre := []) (wc := [(o, .inr (2, [.ref (h), .ref (us), .ref (lb), .int e0, .int e1, .int e2]))]) (suf := usS cI cO us rg g ga ((nI (x_))) ((nI (z_))) G ++ (stW cI h a S ++ ([(lb, .inl (cI, 96, .inl B))]))) (kV (As := []) (rest := []) F (c_X2_rejected l D cI cO _ o h us lb e0 e1 e2) ywX2_rejected qw187 qw189 qs8 ⟨rfl, rfl⟩ ⟨Nat.le_of_ble_eq_true rfl, Nat.le_of_ble_eq_true rfl⟩ (preV (preW (va_pl0 hP) hC (va_dl hD)) hC hP (ci := 2) (q0 := 0) rfl rfl rfl) rfl hl.1 rfl (Nat.le_of_ble_eq_true rfl) dX2_removeRoute_41 ⟨Nat.zero_le _, Nat.zero_le _⟩) (by simpa only [List.append_assoc, List.nil_append, List.append_nil] using hP) (by simpa only [List.append_assoc, List.nil_append, List.append_nil] using hD) hS hA (fun r_41 e_1 H locs h_41 hP hD hS => ?_)
      replace hP : va_P D vwCl ([(o, .inr (2, [.ref (h), .ref (us), .ref (lb), .int e0, .int e_1, .int e2]))] ++ (usS cI cO us rg g ga ((nI (x_))) ((nI (z_))) G ++ (stW cI h a S ++ ([(lb, .inl (cI, 96, .inl B))])))) H := by simpa only [List.append_assoc, List.nil_append, List.append_nil] using hP
      replace hD : va_D A ([(o, .inr (2, [.ref (h), .ref (us), .ref (lb), .int e0, .int e_1, .int e2]))] ++ (usS cI cO us rg g ga ((nI (x_))) ((nI (z_))) G ++ (stW cI h a S ++ ([(lb, .inl (cI, 96, .inl B))])))) := by simpa only [List.append_assoc, List.nil_append, List.append_nil] using hD
      obtain ⟨h_41, k_41⟩ := h_41
      subst h_41
      exact hret _ (((e0, e_1, e2), S, B, (nI (x_)), (nI (z_)), G)) _ ls _ _ (⟨(congrArg Prod.fst hop).symm, nxC_e (e := 1) hop (by rw [k_41]; rfl) hR rfl rfl⟩) hP hD hS dX2_removeRoute_44
  · have hop : oRr w x y = (-2, 2, w) := itc_f (fun q => h_6 ⟨q.1, q.2⟩)
    refine n_if_ne (tgt := 17) hx hb dX2_removeRoute_9 (by decide) (by omega) (fun h => absurd h (by decide)) (fun _ => ?_)
    refine lv_aload_n hx hb dX2_removeRoute_12 rfl (lv_at hl 0 rfl) ?_
    refine goWi (pre := []) (wc := [(o, .inr (2, [.ref (h), .ref (us), .ref (lb), .int e0, .int e1, .int e2]))]) (suf := usS cI cO us rg g ga ((nI (x_))) ((nI (z_))) G ++ (stW cI h a S ++ ([(lb, .inl (cI, 96, .inl B))]))) (kV (As := []) (rest := []) F (c_X2_invalid l D cI cO _ o h us lb e0 e1 e2) ywX2_invalid qw141 qw143 qs0 ⟨rfl, rfl⟩ ⟨Nat.le_of_ble_eq_true rfl, Nat.le_of_ble_eq_true rfl⟩ (preV (preW (va_pl0 hP) hC (va_dl hD)) hC hP (ci := 2) (q0 := 0) rfl rfl rfl) rfl hl.1 rfl (Nat.le_of_ble_eq_true rfl) dX2_removeRoute_13 ⟨Nat.zero_le _, Nat.zero_le _⟩) (by simpa only [List.append_assoc, List.nil_append, List.append_nil] using hP) (by simpa only [List.append_assoc, List.nil_append, List.append_nil] using hD) hS hA (fun r_13 e_2 H locs h_13 hP hD hS => ?_)
    replace hP : va_P D vwCl ([(o, .inr (2, [.ref (h), .ref (us), .ref (lb), .int e_2, .int e1, .int e2]))] ++ (usS cI cO us rg g ga ((nI (x_))) ((nI (z_))) G ++ (stW cI h a S ++ ([(lb, .inl (cI, 96, .inl B))])))) H := by simpa only [List.append_assoc, List.nil_append, List.append_nil] using hP
    replace hD : va_D A ([(o, .inr (2, [.ref (h), .ref (us), .ref (lb), .int e_2, .int e1, .int e2]))] ++ (usS cI cO us rg g ga ((nI (x_))) ((nI (z_))) G ++ (stW cI h a S ++ ([(lb, .inl (cI, 96, .inl B))])))) := by simpa only [List.append_assoc, List.nil_append, List.append_nil] using hD
    obtain ⟨h_13, k_13⟩ := h_13
    subst h_13
    exact hret _ (((e_2, e1, e2), S, B, (nI (x_)), (nI (z_)), G)) _ ls _ _ (⟨(congrArg Prod.fst hop).symm, nxC_e (e := 0) hop (by rw [k_13]; rfl) hR rfl rfl⟩) hP hD hS dX2_removeRoute_16
