set_option maxHeartbeats 4000000 in
set_option maxRecDepth 100000 in
theorem c_X3_queueLength (l : Launch) (D : va_G) (cI cO : ClassId) (sz : Nat) (h : Nat) (b : Nat → Nat) (w past er bf tk : Nat → Int32) (sv : Int32) (hs : Int64) (c0 : Nat) (hW : WF c0 w)  (n_ : Nat) (hc9 : c0 < 900) (hn_ : n_ ≤ 4) (hsv : sv = nI n_) (x y : Int32) : Met l yX3_queueLength (Cond.code yX3_queueLength cX3_queueLength 3 (some .int) :: WL) ({ frames := 3, cells := 0, slots := 0, locals := 65 } : Room) (va_Pc [.ref (h), .int (x), .int (y)] (PW D cI cO (mdW cI h b w past er bf tk sv hs) sz)) (va_Qi (fun (r : Int32) (u : MV) => r = (oQl w x y).1 ∧ nxM n_ w past er (oQl w x y) u) (QB D (mdW cI h b w past er bf tk sv hs) sz (fun (u : MV) => mdU cI h b u)) (va_A (mdW cI h b w past er bf tk sv hs) sz)) 0 0 (va_A (mdW cI h b w past er bf tk sv hs) sz) := by
  refine wr_int (by decide) (Nat.le_of_ble_eq_true rfl) ?_
  intro p e s m args below meth c Q ls A F hP hC hD hA hret hl
  have hx := F.1
  have hb := F.2.1
  have hml := F.2.2.1
  have hown := F.2.2.2.1
  have hts := F.2.2.2.2
  replace hl : lv_has ls 3 [(0, .ref (h)), (1, .int (x)), (2, .int (y))] := hl
  have hS : va_S A s.heap s.heap [] := va_S.rf
  have hn4 := hW.n.2
  have hc : c0 < 1000 := by omega
  refine lv_aload_n hx hb dX3_queueLength_0 rfl (lv_at hl 0 rfl) ?_
  refine lv_iload_n hx hb dX3_queueLength_1 rfl (lv_at hl 1 rfl) ?_
  refine lv_iload_n hx hb dX3_queueLength_2 rfl (lv_at hl 2 rfl) ?_
  refine goR (kV (As := [.int (x), .int (y)]) (rest := []) F (c_X3_isLink l D cI cO h b w past er bf tk sv hs c0 hW (x) (y)) ywX3_isLink qw501 qw503 qs35 ⟨rfl, rfl⟩ ⟨Nat.le_of_ble_eq_true rfl, Nat.le_of_ble_eq_true rfl⟩ (preV (preR hP hC) hC hP (ci := 3) (q0 := 0) rfl rfl rfl) rfl hl.1 rfl (Nat.le_of_ble_eq_true rfl) dX3_queueLength_3 ⟨Nat.zero_le _, Nat.zero_le _⟩) (fun r_3 h_3 => ?_)
  rcases h_3 with ⟨rfl, h_3⟩ | ⟨rfl, h_3⟩
  · obtain ⟨i, hi, rfl, l_, hl_, rfl⟩ := id h_3
    have hi4 : i < 4 := by omega
    have hm4 := (hW.m i hi4).2
    have hpl : pl (nI i) (nI l_) = 4 * i + l_ := pl_nI (by omega) (by omega)
    have hv : (4 * i + l_) < 16 := by omega
    have hl10 := (hW.l (4 * i + l_) hv).2
    have hop : oQl w (nI i) (nI l_) = (nI (le w (4 * i + l_)), 0, w) := by unfold oQl; rw [itc_t h_3, hpl]
    refine n_if_eq (tgt := 25) hx hb dX3_queueLength_6 (by decide) (by omega) (fun h => absurd h (by decide)) (fun _ => ?_)
    refine lv_aload_n hx hb dX3_queueLength_9 rfl (lv_at hl 0 rfl) ?_
    refine gt3 hx hb hts hown hC.1 hP 0 rfl 0 (by decide) qw456 rfl dX3_queueLength_10 ?_
    refine lv_bipush (v := (nI (21))) hx hb dX3_queueLength_13 (by decide) ?_
    refine lv_iconst (v := (nI (4))) hx hb dX3_queueLength_15 (by decide) ?_
    refine lv_iload_n hx hb dX3_queueLength_16 rfl (lv_at hl 1 rfl) ?_
    refine n_imul hx hb dX3_queueLength_17  ?_
    refine n_iadd hx hb dX3_queueLength_18  ?_
    refine lv_iload_n hx hb dX3_queueLength_19 rfl (lv_at hl 2 rfl) ?_
    refine n_iadd hx hb dX3_queueLength_20  ?_
    refine n_iald hx hb hC.1 hP 1 0 rfl rfl (by omega) (by decide) dX3_queueLength_21 ?_
    refine w_cv (y := (nI (le w (4 * i + l_)))) ((congrArg w (by omega)).trans (hW.l (4 * i + l_) hv).1) ?_
    refine lv_goto (tgt := 31) hx hb dX3_queueLength_22 (by decide) ?_
    exact hret _ (w, past, er, bf, tk, sv, hs) _ ls _ _ (⟨(congrArg Prod.fst hop).symm, nxM_0 hop hsv⟩) hP hD hS dX3_queueLength_31
  · have hop : oQl w x y = (-2, 2, w) := itc_f h_3
    refine n_if_eq (tgt := 25) hx hb dX3_queueLength_6 (by decide) (by omega) (fun _ => ?_) (fun h => absurd h (by decide))
    refine lv_aload_n hx hb dX3_queueLength_25 rfl (lv_at hl 0 rfl) ?_
    refine lv_bipush (v := (-2)) hx hb dX3_queueLength_26 (by decide) ?_
    refine goWi (pre := []) (wc := mdW cI h b w past er bf tk sv hs) (suf := []) (kV (As := [.int (-2)]) (rest := []) F (c_X3_fails l D cI cO _ h b w past er bf tk sv hs c0 hW 0 (by decide)) ywX3_fails qw482 qw484 qs33 ⟨rfl, rfl⟩ ⟨Nat.le_of_ble_eq_true rfl, Nat.le_of_ble_eq_true rfl⟩ (preV (preW hP hC hD) hC hP (ci := 3) (q0 := 0) rfl rfl rfl) rfl hl.1 rfl (Nat.le_of_ble_eq_true rfl) dX3_queueLength_28 ⟨Nat.zero_le _, Nat.zero_le _⟩) (by simpa only [List.append_assoc, List.nil_append, List.append_nil] using hP) (by simpa only [List.append_assoc, List.nil_append, List.append_nil] using hD) hS hA (fun r_28 er_1 H locs h_28 hP hD hS => ?_)
    replace hP : va_P D vwCl (mdW cI h b w past er_1 bf tk sv hs) H := by simpa only [List.append_assoc, List.nil_append, List.append_nil] using hP
    replace hD : va_D A (mdW cI h b w past er_1 bf tk sv hs) := by simpa only [List.append_assoc, List.nil_append, List.append_nil] using hD
    obtain ⟨h_28, k_28⟩ := h_28
    subst h_28
    exact hret _ (w, past, er_1, bf, tk, sv, hs) _ ls _ _ (⟨(congrArg Prod.fst hop).symm, nxM_e (e := 0) hop k_28 hsv⟩) hP hD hS dX3_queueLength_31

set_option maxHeartbeats 4000000 in
set_option maxRecDepth 100000 in
theorem c_X3_congestion (l : Launch) (D : va_G) (cI cO : ClassId) (sz : Nat) (h : Nat) (b : Nat → Nat) (w past er bf tk : Nat → Int32) (sv : Int32) (hs : Int64) (c0 : Nat) (hW : WF c0 w)  (n_ : Nat) (hc9 : c0 < 900) (hn_ : n_ ≤ 4) (hsv : sv = nI n_) (x y : Int32) : Met l yX3_congestion (Cond.code yX3_congestion cX3_congestion 3 (some .int) :: WL) ({ frames := 3, cells := 0, slots := 0, locals := 65 } : Room) (va_Pc [.ref (h), .int (x), .int (y)] (PW D cI cO (mdW cI h b w past er bf tk sv hs) sz)) (va_Qi (fun (r : Int32) (u : MV) => r = (oCg w x y).1 ∧ nxM n_ w past er (oCg w x y) u) (QB D (mdW cI h b w past er bf tk sv hs) sz (fun (u : MV) => mdU cI h b u)) (va_A (mdW cI h b w past er bf tk sv hs) sz)) 0 0 (va_A (mdW cI h b w past er bf tk sv hs) sz) := by
  refine wr_int (by decide) (Nat.le_of_ble_eq_true rfl) ?_
  intro p e s m args below meth c Q ls A F hP hC hD hA hret hl
  have hx := F.1
  have hb := F.2.1
  have hml := F.2.2.1
  have hown := F.2.2.2.1
  have hts := F.2.2.2.2
  replace hl : lv_has ls 3 [(0, .ref (h)), (1, .int (x)), (2, .int (y))] := hl
  have hS : va_S A s.heap s.heap [] := va_S.rf
  have hn4 := hW.n.2
  have hc : c0 < 1000 := by omega
  refine lv_aload_n hx hb dX3_congestion_0 rfl (lv_at hl 0 rfl) ?_
  refine lv_iload_n hx hb dX3_congestion_1 rfl (lv_at hl 1 rfl) ?_
  refine lv_iload_n hx hb dX3_congestion_2 rfl (lv_at hl 2 rfl) ?_
  refine goR (kV (As := [.int (x), .int (y)]) (rest := []) F (c_X3_isLink l D cI cO h b w past er bf tk sv hs c0 hW (x) (y)) ywX3_isLink qw501 qw503 qs35 ⟨rfl, rfl⟩ ⟨Nat.le_of_ble_eq_true rfl, Nat.le_of_ble_eq_true rfl⟩ (preV (preR hP hC) hC hP (ci := 3) (q0 := 0) rfl rfl rfl) rfl hl.1 rfl (Nat.le_of_ble_eq_true rfl) dX3_congestion_3 ⟨Nat.zero_le _, Nat.zero_le _⟩) (fun r_3 h_3 => ?_)
  rcases h_3 with ⟨rfl, h_3⟩ | ⟨rfl, h_3⟩
  · obtain ⟨i, hi, rfl, l_, hl_, rfl⟩ := id h_3
    have hi4 : i < 4 := by omega
    have hm4 := (hW.m i hi4).2
    have hpl : pl (nI i) (nI l_) = 4 * i + l_ := pl_nI (by omega) (by omega)
    have hv : (4 * i + l_) < 16 := by omega
    have hl10 := (hW.l (4 * i + l_) hv).2
    have hop : oCg w (nI i) (nI l_) = (nI (lvl (le w (4 * i + l_))), 0, w) := by unfold oCg; rw [itc_t h_3, hpl]
    refine n_if_eq (tgt := 21) hx hb dX3_congestion_6 (by decide) (by omega) (fun h => absurd h (by decide)) (fun _ => ?_)
    refine lv_aload_n hx hb dX3_congestion_9 rfl (lv_at hl 0 rfl) ?_
    refine lv_iconst (v := (nI (4))) hx hb dX3_congestion_10 (by decide) ?_
    refine lv_iload_n hx hb dX3_congestion_11 rfl (lv_at hl 1 rfl) ?_
    refine n_imul hx hb dX3_congestion_12  ?_
    refine lv_iload_n hx hb dX3_congestion_13 rfl (lv_at hl 2 rfl) ?_
    refine n_iadd hx hb dX3_congestion_14  ?_
    refine goR (kV (As := [.int (nI ((4 * i) + l_))]) (rest := []) F (c_X3_levelOf l D cI cO h b w past er bf tk sv hs c0 hW ((4 * i) + l_) (by omega)) ywX3_levelOf qw564 qw566 qs45 ⟨rfl, rfl⟩ ⟨Nat.le_of_ble_eq_true rfl, Nat.le_of_ble_eq_true rfl⟩ (preV (preR hP hC) hC hP (ci := 3) (q0 := 0) rfl rfl rfl) rfl hl.1 rfl (Nat.le_of_ble_eq_true rfl) dX3_congestion_15 ⟨Nat.zero_le _, Nat.zero_le _⟩) (fun r_15 h_15 => ?_)
    subst h_15
    refine lv_goto (tgt := 27) hx hb dX3_congestion_18 (by decide) ?_
    exact hret _ (w, past, er, bf, tk, sv, hs) _ ls _ _ (⟨(congrArg Prod.fst hop).symm, nxM_0 hop hsv⟩) hP hD hS dX3_congestion_27
  · have hop : oCg w x y = (-2, 2, w) := itc_f h_3
    refine n_if_eq (tgt := 21) hx hb dX3_congestion_6 (by decide) (by omega) (fun _ => ?_) (fun h => absurd h (by decide))
    refine lv_aload_n hx hb dX3_congestion_21 rfl (lv_at hl 0 rfl) ?_
    refine lv_bipush (v := (-2)) hx hb dX3_congestion_22 (by decide) ?_
    refine goWi (pre := []) (wc := mdW cI h b w past er bf tk sv hs) (suf := []) (kV (As := [.int (-2)]) (rest := []) F (c_X3_fails l D cI cO _ h b w past er bf tk sv hs c0 hW 0 (by decide)) ywX3_fails qw482 qw484 qs33 ⟨rfl, rfl⟩ ⟨Nat.le_of_ble_eq_true rfl, Nat.le_of_ble_eq_true rfl⟩ (preV (preW hP hC hD) hC hP (ci := 3) (q0 := 0) rfl rfl rfl) rfl hl.1 rfl (Nat.le_of_ble_eq_true rfl) dX3_congestion_24 ⟨Nat.zero_le _, Nat.zero_le _⟩) (by simpa only [List.append_assoc, List.nil_append, List.append_nil] using hP) (by simpa only [List.append_assoc, List.nil_append, List.append_nil] using hD) hS hA (fun r_24 er_1 H locs h_24 hP hD hS => ?_)
    replace hP : va_P D vwCl (mdW cI h b w past er_1 bf tk sv hs) H := by simpa only [List.append_assoc, List.nil_append, List.append_nil] using hP
    replace hD : va_D A (mdW cI h b w past er_1 bf tk sv hs) := by simpa only [List.append_assoc, List.nil_append, List.append_nil] using hD
    obtain ⟨h_24, k_24⟩ := h_24
    subst h_24
    exact hret _ (w, past, er_1, bf, tk, sv, hs) _ ls _ _ (⟨(congrArg Prod.fst hop).symm, nxM_e (e := 0) hop k_24 hsv⟩) hP hD hS dX3_congestion_27

set_option maxHeartbeats 4000000 in
set_option maxRecDepth 100000 in
theorem c_X3_isActive (l : Launch) (D : va_G) (cI cO : ClassId) (sz : Nat) (h : Nat) (b : Nat → Nat) (w past er bf tk : Nat → Int32) (sv : Int32) (hs : Int64) (c0 : Nat) (hW : WF c0 w)  (n_ : Nat) (hc9 : c0 < 900) (hn_ : n_ ≤ 4) (hsv : sv = nI n_) (x y : Int32) : Met l yX3_isActive (Cond.code yX3_isActive cX3_isActive 3 (some .int) :: WL) ({ frames := 3, cells := 0, slots := 0, locals := 65 } : Room) (va_Pc [.ref (h), .int (x), .int (y)] (PW D cI cO (mdW cI h b w past er bf tk sv hs) sz)) (va_Qi (fun (r : Int32) (u : MV) => r = (oAc w x y).1 ∧ nxM n_ w past er (oAc w x y) u) (QB D (mdW cI h b w past er bf tk sv hs) sz (fun (u : MV) => mdU cI h b u)) (va_A (mdW cI h b w past er bf tk sv hs) sz)) 0 0 (va_A (mdW cI h b w past er bf tk sv hs) sz) := by
  refine wr_int (by decide) (Nat.le_of_ble_eq_true rfl) ?_
  intro p e s m args below meth c Q ls A F hP hC hD hA hret hl
  have hx := F.1
  have hb := F.2.1
  have hml := F.2.2.1
  have hown := F.2.2.2.1
  have hts := F.2.2.2.2
  replace hl : lv_has ls 3 [(0, .ref (h)), (1, .int (x)), (2, .int (y))] := hl
  have hS : va_S A s.heap s.heap [] := va_S.rf
  have hn4 := hW.n.2
  have hc : c0 < 1000 := by omega
  refine lv_aload_n hx hb dX3_isActive_0 rfl (lv_at hl 0 rfl) ?_
  refine lv_iload_n hx hb dX3_isActive_1 rfl (lv_at hl 1 rfl) ?_
  refine lv_iload_n hx hb dX3_isActive_2 rfl (lv_at hl 2 rfl) ?_
  refine goR (kV (As := [.int (x), .int (y)]) (rest := []) F (c_X3_isLink l D cI cO h b w past er bf tk sv hs c0 hW (x) (y)) ywX3_isLink qw501 qw503 qs35 ⟨rfl, rfl⟩ ⟨Nat.le_of_ble_eq_true rfl, Nat.le_of_ble_eq_true rfl⟩ (preV (preR hP hC) hC hP (ci := 3) (q0 := 0) rfl rfl rfl) rfl hl.1 rfl (Nat.le_of_ble_eq_true rfl) dX3_isActive_3 ⟨Nat.zero_le _, Nat.zero_le _⟩) (fun r_3 h_3 => ?_)
  rcases h_3 with ⟨rfl, h_3⟩ | ⟨rfl, h_3⟩
  · obtain ⟨i, hi, rfl, l_, hl_, rfl⟩ := id h_3
    have hi4 : i < 4 := by omega
    have hm4 := (hW.m i hi4).2
    have hpl : pl (nI i) (nI l_) = 4 * i + l_ := pl_nI (by omega) (by omega)
    have hv : (4 * i + l_) < 16 := by omega
    have hl10 := (hW.l (4 * i + l_) hv).2
    have hop : oAc w (nI i) (nI l_) = (nI (ac w (4 * i + l_)), 0, w) := by unfold oAc; rw [itc_t h_3, hpl]
    refine n_if_eq (tgt := 24) hx hb dX3_isActive_6 (by decide) (by omega) (fun h => absurd h (by decide)) (fun _ => ?_)
    refine lv_aload_n hx hb dX3_isActive_9 rfl (lv_at hl 0 rfl) ?_
    refine gt3 hx hb hts hown hC.1 hP 0 rfl 0 (by decide) qw456 rfl dX3_isActive_10 ?_
    refine lv_iconst (v := (nI (5))) hx hb dX3_isActive_13 (by decide) ?_
    refine lv_iconst (v := (nI (4))) hx hb dX3_isActive_14 (by decide) ?_
    refine lv_iload_n hx hb dX3_isActive_15 rfl (lv_at hl 1 rfl) ?_
    refine n_imul hx hb dX3_isActive_16  ?_
    refine n_iadd hx hb dX3_isActive_17  ?_
    refine lv_iload_n hx hb dX3_isActive_18 rfl (lv_at hl 2 rfl) ?_
    refine n_iadd hx hb dX3_isActive_19  ?_
    refine n_iald hx hb hC.1 hP 1 0 rfl rfl (by omega) (by decide) dX3_isActive_20 ?_
    refine w_cv (y := (nI (ac w (4 * i + l_)))) ((congrArg w (by omega)).trans (hW.a (4 * i + l_) hv).1) ?_
    refine lv_goto (tgt := 30) hx hb dX3_isActive_21 (by decide) ?_
    exact hret _ (w, past, er, bf, tk, sv, hs) _ ls _ _ (⟨(congrArg Prod.fst hop).symm, nxM_0 hop hsv⟩) hP hD hS dX3_isActive_30
  · have hop : oAc w x y = (-2, 2, w) := itc_f h_3
    refine n_if_eq (tgt := 24) hx hb dX3_isActive_6 (by decide) (by omega) (fun _ => ?_) (fun h => absurd h (by decide))
    refine lv_aload_n hx hb dX3_isActive_24 rfl (lv_at hl 0 rfl) ?_
    refine lv_bipush (v := (-2)) hx hb dX3_isActive_25 (by decide) ?_
    refine goWi (pre := []) (wc := mdW cI h b w past er bf tk sv hs) (suf := []) (kV (As := [.int (-2)]) (rest := []) F (c_X3_fails l D cI cO _ h b w past er bf tk sv hs c0 hW 0 (by decide)) ywX3_fails qw482 qw484 qs33 ⟨rfl, rfl⟩ ⟨Nat.le_of_ble_eq_true rfl, Nat.le_of_ble_eq_true rfl⟩ (preV (preW hP hC hD) hC hP (ci := 3) (q0 := 0) rfl rfl rfl) rfl hl.1 rfl (Nat.le_of_ble_eq_true rfl) dX3_isActive_27 ⟨Nat.zero_le _, Nat.zero_le _⟩) (by simpa only [List.append_assoc, List.nil_append, List.append_nil] using hP) (by simpa only [List.append_assoc, List.nil_append, List.append_nil] using hD) hS hA (fun r_27 er_1 H locs h_27 hP hD hS => ?_)
    replace hP : va_P D vwCl (mdW cI h b w past er_1 bf tk sv hs) H := by simpa only [List.append_assoc, List.nil_append, List.append_nil] using hP
    replace hD : va_D A (mdW cI h b w past er_1 bf tk sv hs) := by simpa only [List.append_assoc, List.nil_append, List.append_nil] using hD
    obtain ⟨h_27, k_27⟩ := h_27
    subst h_27
    exact hret _ (w, past, er_1, bf, tk, sv, hs) _ ls _ _ (⟨(congrArg Prod.fst hop).symm, nxM_e (e := 0) hop k_27 hsv⟩) hP hD hS dX3_isActive_30

set_option maxHeartbeats 4000000 in
set_option maxRecDepth 100000 in
theorem c_X3_routeState (l : Launch) (D : va_G) (cI cO : ClassId) (sz : Nat) (h : Nat) (b : Nat → Nat) (w past er bf tk : Nat → Int32) (sv : Int32) (hs : Int64) (c0 : Nat) (hW : WF c0 w)  (n_ : Nat) (hc9 : c0 < 900) (hn_ : n_ ≤ 4) (hsv : sv = nI n_) (x y : Int32) : Met l yX3_routeState (Cond.code yX3_routeState cX3_routeState 3 (some .int) :: WL) ({ frames := 2, cells := 0, slots := 0, locals := 43 } : Room) (va_Pc [.ref (h), .int (x), .int (y)] (PW D cI cO (mdW cI h b w past er bf tk sv hs) sz)) (va_Qi (fun (r : Int32) (u : MV) => r = (oRs w x y).1 ∧ nxM n_ w past er (oRs w x y) u) (QB D (mdW cI h b w past er bf tk sv hs) sz (fun (u : MV) => mdU cI h b u)) (va_A (mdW cI h b w past er bf tk sv hs) sz)) 0 0 (va_A (mdW cI h b w past er bf tk sv hs) sz) := by
  refine wr_int (by decide) (Nat.le_of_ble_eq_true rfl) ?_
  intro p e s m args below meth c Q ls A F hP hC hD hA hret hl
  have hx := F.1
  have hb := F.2.1
  have hml := F.2.2.1
  have hown := F.2.2.2.1
  have hts := F.2.2.2.2
  replace hl : lv_has ls 3 [(0, .ref (h)), (1, .int (x)), (2, .int (y))] := hl
  have hS : va_S A s.heap s.heap [] := va_S.rf
  have hn4 := hW.n.2
  have hc : c0 < 1000 := by omega
  refine lv_iload_n hx hb dX3_routeState_0 rfl (lv_at hl 1 rfl) ?_
  refine goR (kS (As := [.int (x)]) (rest := []) F (c_X3_isDestination l D cI cO (x)) ywX3_isDestination qw576 qw577  ⟨rfl, rfl⟩ ⟨Nat.le_of_ble_eq_true rfl, Nat.le_of_ble_eq_true rfl⟩ (preR (fun k q h => by simp at h) hC) rfl hl.1 rfl (Nat.le_of_ble_eq_true rfl) dX3_routeState_1 ⟨Nat.zero_le _, Nat.zero_le _⟩) (fun r_1 h_1 => ?_)
  rcases h_1 with ⟨rfl, h_1⟩ | ⟨rfl, h_1⟩
  · obtain ⟨d_, hd6, rfl⟩ := id h_1
    refine n_if_eq (tgt := 32) hx hb dX3_routeState_4 (by decide) (by omega) (fun h => absurd h (by decide)) (fun _ => ?_)
    refine lv_aload_n hx hb dX3_routeState_7 rfl (lv_at hl 0 rfl) ?_
    refine lv_iload_n hx hb dX3_routeState_8 rfl (lv_at hl 2 rfl) ?_
    refine goR (kV (As := [.int (y)]) (rest := []) F (c_X3_isSet l D cI cO h b w past er bf tk sv hs c0 hW (y)) ywX3_isSet qw505 qw507 qs36 ⟨rfl, rfl⟩ ⟨Nat.le_of_ble_eq_true rfl, Nat.le_of_ble_eq_true rfl⟩ (preV (preR hP hC) hC hP (ci := 3) (q0 := 0) rfl rfl rfl) rfl hl.1 rfl (Nat.le_of_ble_eq_true rfl) dX3_routeState_9 ⟨Nat.zero_le _, Nat.zero_le _⟩) (fun r_9 h_9 => ?_)
    rcases h_9 with ⟨rfl, h_9⟩ | ⟨rfl, h_9⟩
    · obtain ⟨i, hi, rfl⟩ := id h_9
      have hi4 : i < 4 := by omega
      have hsx : sx (nI d_) (nI i) = 197 + 4 * d_ + i := sx_nI (by omega) (by omega)
      have hpx : px (nI d_) (nI i) = 221 + 4 * d_ + i := px_nI (by omega) (by omega)
      have hop : oRs w (nI d_) (nI i) = (w (197 + 4 * d_ + i), 0, w) := by unfold oRs; rw [itc_t ⟨h_1, h_9⟩, hsx]
      refine n_if_eq (tgt := 32) hx hb dX3_routeState_12 (by decide) (by omega) (fun h => absurd h (by decide)) (fun _ => ?_)
      refine lv_aload_n hx hb dX3_routeState_15 rfl (lv_at hl 0 rfl) ?_
      refine gt3 hx hb hts hown hC.1 hP 0 rfl 0 (by decide) qw456 rfl dX3_routeState_16 ?_
      refine lv_sipush (v := (nI (197))) hx hb dX3_routeState_19 (by decide) ?_
      refine lv_iconst (v := (nI (4))) hx hb dX3_routeState_22 (by decide) ?_
      refine lv_iload_n hx hb dX3_routeState_23 rfl (lv_at hl 1 rfl) ?_
      refine n_imul hx hb dX3_routeState_24  ?_
      refine n_iadd hx hb dX3_routeState_25  ?_
      refine lv_iload_n hx hb dX3_routeState_26 rfl (lv_at hl 2 rfl) ?_
      refine n_iadd hx hb dX3_routeState_27  ?_
      refine n_iald hx hb hC.1 hP 1 0 rfl rfl (by omega) (by decide) dX3_routeState_28 ?_
      refine lv_goto (tgt := 38) hx hb dX3_routeState_29 (by decide) ?_
      exact hret _ (w, past, er, bf, tk, sv, hs) _ ls _ _ (⟨(congrArg Prod.fst hop).symm, nxM_0 hop hsv⟩) hP hD hS dX3_routeState_38
    · have hop : oRs w (nI d_) y = (-2, 2, w) := itc_f (fun q => h_9 q.2)
      refine n_if_eq (tgt := 32) hx hb dX3_routeState_12 (by decide) (by omega) (fun _ => ?_) (fun h => absurd h (by decide))
      refine lv_aload_n hx hb dX3_routeState_32 rfl (lv_at hl 0 rfl) ?_
      refine lv_bipush (v := (-2)) hx hb dX3_routeState_33 (by decide) ?_
      refine goWi (pre := []) (wc := mdW cI h b w past er bf tk sv hs) (suf := []) (kV (As := [.int (-2)]) (rest := []) F (c_X3_fails l D cI cO _ h b w past er bf tk sv hs c0 hW 0 (by decide)) ywX3_fails qw482 qw484 qs33 ⟨rfl, rfl⟩ ⟨Nat.le_of_ble_eq_true rfl, Nat.le_of_ble_eq_true rfl⟩ (preV (preW hP hC hD) hC hP (ci := 3) (q0 := 0) rfl rfl rfl) rfl hl.1 rfl (Nat.le_of_ble_eq_true rfl) dX3_routeState_35 ⟨Nat.zero_le _, Nat.zero_le _⟩) (by simpa only [List.append_assoc, List.nil_append, List.append_nil] using hP) (by simpa only [List.append_assoc, List.nil_append, List.append_nil] using hD) hS hA (fun r_35 er_1 H locs h_35 hP hD hS => ?_)
      replace hP : va_P D vwCl (mdW cI h b w past er_1 bf tk sv hs) H := by simpa only [List.append_assoc, List.nil_append, List.append_nil] using hP
      replace hD : va_D A (mdW cI h b w past er_1 bf tk sv hs) := by simpa only [List.append_assoc, List.nil_append, List.append_nil] using hD
      obtain ⟨h_35, k_35⟩ := h_35
      subst h_35
      exact hret _ (w, past, er_1, bf, tk, sv, hs) _ ls _ _ (⟨(congrArg Prod.fst hop).symm, nxM_e (e := 0) hop k_35 hsv⟩) hP hD hS dX3_routeState_38
  · have hop : oRs w x y = (-2, 2, w) := itc_f (fun q => h_1 q.1)
    refine n_if_eq (tgt := 32) hx hb dX3_routeState_4 (by decide) (by omega) (fun _ => ?_) (fun h => absurd h (by decide))
    refine lv_aload_n hx hb dX3_routeState_32 rfl (lv_at hl 0 rfl) ?_
    refine lv_bipush (v := (-2)) hx hb dX3_routeState_33 (by decide) ?_
    refine goWi (pre := []) (wc := mdW cI h b w past er bf tk sv hs) (suf := []) (kV (As := [.int (-2)]) (rest := []) F (c_X3_fails l D cI cO _ h b w past er bf tk sv hs c0 hW 0 (by decide)) ywX3_fails qw482 qw484 qs33 ⟨rfl, rfl⟩ ⟨Nat.le_of_ble_eq_true rfl, Nat.le_of_ble_eq_true rfl⟩ (preV (preW hP hC hD) hC hP (ci := 3) (q0 := 0) rfl rfl rfl) rfl hl.1 rfl (Nat.le_of_ble_eq_true rfl) dX3_routeState_35 ⟨Nat.zero_le _, Nat.zero_le _⟩) (by simpa only [List.append_assoc, List.nil_append, List.append_nil] using hP) (by simpa only [List.append_assoc, List.nil_append, List.append_nil] using hD) hS hA (fun r_35 er_2 H locs h_35 hP hD hS => ?_)
    replace hP : va_P D vwCl (mdW cI h b w past er_2 bf tk sv hs) H := by simpa only [List.append_assoc, List.nil_append, List.append_nil] using hP
    replace hD : va_D A (mdW cI h b w past er_2 bf tk sv hs) := by simpa only [List.append_assoc, List.nil_append, List.append_nil] using hD
    obtain ⟨h_35, k_35⟩ := h_35
    subst h_35
    exact hret _ (w, past, er_2, bf, tk, sv, hs) _ ls _ _ (⟨(congrArg Prod.fst hop).symm, nxM_e (e := 0) hop k_35 hsv⟩) hP hD hS dX3_routeState_38

set_option maxHeartbeats 4000000 in
set_option maxRecDepth 100000 in
theorem c_X3_currentRoutes (l : Launch) (D : va_G) (cI cO : ClassId) (sz : Nat) (h : Nat) (b : Nat → Nat) (w past er bf tk : Nat → Int32) (sv : Int32) (hs : Int64) (c0 : Nat) (hW : WF c0 w)  (n_ : Nat) (hc9 : c0 < 900) (hn_ : n_ ≤ 4) (hsv : sv = nI n_) (x : Int32) : Met l yX3_currentRoutes (Cond.code yX3_currentRoutes cX3_currentRoutes 2 (some .int) :: WL) ({ frames := 3, cells := 0, slots := 0, locals := 71 } : Room) (va_Pc [.ref (h), .int (x)] (PW D cI cO (mdW cI h b w past er bf tk sv hs) sz)) (va_Qi (fun (r : Int32) (u : MV) => r = (oCr w x).1 ∧ nxM n_ w past er (oCr w x) u) (QB D (mdW cI h b w past er bf tk sv hs) sz (fun (u : MV) => mdU cI h b u)) (va_A (mdW cI h b w past er bf tk sv hs) sz)) 0 0 (va_A (mdW cI h b w past er bf tk sv hs) sz) := by
  refine wr_int (by decide) (Nat.le_of_ble_eq_true rfl) ?_
  intro p e s m args below meth c Q ls A F hP hC hD hA hret hl
  have hx := F.1
  have hb := F.2.1
  have hml := F.2.2.1
  have hown := F.2.2.2.1
  have hts := F.2.2.2.2
  replace hl : lv_has ls 2 [(0, .ref (h)), (1, .int (x))] := hl
  have hS : va_S A s.heap s.heap [] := va_S.rf
  have hn4 := hW.n.2
  have hc : c0 < 1000 := by omega
  refine lv_iload_n hx hb dX3_currentRoutes_0 rfl (lv_at hl 1 rfl) ?_
  refine goR (kS (As := [.int (x)]) (rest := []) F (c_X3_isDestination l D cI cO (x)) ywX3_isDestination qw576 qw577  ⟨rfl, rfl⟩ ⟨Nat.le_of_ble_eq_true rfl, Nat.le_of_ble_eq_true rfl⟩ (preR (fun k q h => by simp at h) hC) rfl hl.1 rfl (Nat.le_of_ble_eq_true rfl) dX3_currentRoutes_1 ⟨Nat.zero_le _, Nat.zero_le _⟩) (fun r_1 h_1 => ?_)
  rcases h_1 with ⟨rfl, h_1⟩ | ⟨rfl, h_1⟩
  · obtain ⟨d_, hd6, rfl⟩ := id h_1
    have hop : oCr w (nI d_) = (nI (rts w d_), 0, w) := by unfold oCr; rw [itc_t h_1, nv_nI (by omega)]
    refine n_if_eq (tgt := 15) hx hb dX3_currentRoutes_4 (by decide) (by omega) (fun h => absurd h (by decide)) (fun _ => ?_)
    refine lv_aload_n hx hb dX3_currentRoutes_7 rfl (lv_at hl 0 rfl) ?_
    refine lv_iload_n hx hb dX3_currentRoutes_8 rfl (lv_at hl 1 rfl) ?_
    refine goR (kV (As := [.int (nI (d_))]) (rest := []) F (c_X3_routesOf l D cI cO h b w past er bf tk sv hs c0 hW (d_) (by omega)) ywX3_routesOf qw517 qw519 qs39 ⟨rfl, rfl⟩ ⟨Nat.le_of_ble_eq_true rfl, Nat.le_of_ble_eq_true rfl⟩ (preV (preR hP hC) hC hP (ci := 3) (q0 := 0) rfl rfl rfl) rfl hl.1 rfl (Nat.le_of_ble_eq_true rfl) dX3_currentRoutes_9 ⟨Nat.zero_le _, Nat.zero_le _⟩) (fun r_9 h_9 => ?_)
    subst h_9
    refine lv_goto (tgt := 21) hx hb dX3_currentRoutes_12 (by decide) ?_
    exact hret _ (w, past, er, bf, tk, sv, hs) _ ls _ _ (⟨(congrArg Prod.fst hop).symm, nxM_0 hop hsv⟩) hP hD hS dX3_currentRoutes_21
  · have hop : oCr w x = (-2, 2, w) := itc_f h_1
    refine n_if_eq (tgt := 15) hx hb dX3_currentRoutes_4 (by decide) (by omega) (fun _ => ?_) (fun h => absurd h (by decide))
    refine lv_aload_n hx hb dX3_currentRoutes_15 rfl (lv_at hl 0 rfl) ?_
    refine lv_bipush (v := (-2)) hx hb dX3_currentRoutes_16 (by decide) ?_
    refine goWi (pre := []) (wc := mdW cI h b w past er bf tk sv hs) (suf := []) (kV (As := [.int (-2)]) (rest := []) F (c_X3_fails l D cI cO _ h b w past er bf tk sv hs c0 hW 0 (by decide)) ywX3_fails qw482 qw484 qs33 ⟨rfl, rfl⟩ ⟨Nat.le_of_ble_eq_true rfl, Nat.le_of_ble_eq_true rfl⟩ (preV (preW hP hC hD) hC hP (ci := 3) (q0 := 0) rfl rfl rfl) rfl hl.1 rfl (Nat.le_of_ble_eq_true rfl) dX3_currentRoutes_18 ⟨Nat.zero_le _, Nat.zero_le _⟩) (by simpa only [List.append_assoc, List.nil_append, List.append_nil] using hP) (by simpa only [List.append_assoc, List.nil_append, List.append_nil] using hD) hS hA (fun r_18 er_1 H locs h_18 hP hD hS => ?_)
    replace hP : va_P D vwCl (mdW cI h b w past er_1 bf tk sv hs) H := by simpa only [List.append_assoc, List.nil_append, List.append_nil] using hP
    replace hD : va_D A (mdW cI h b w past er_1 bf tk sv hs) := by simpa only [List.append_assoc, List.nil_append, List.append_nil] using hD
    obtain ⟨h_18, k_18⟩ := h_18
    subst h_18
    exact hret _ (w, past, er_1, bf, tk, sv, hs) _ ls _ _ (⟨(congrArg Prod.fst hop).symm, nxM_e (e := 0) hop k_18 hsv⟩) hP hD hS dX3_currentRoutes_21

set_option maxHeartbeats 4000000 in
set_option maxRecDepth 100000 in
theorem c_X3_currentLink (l : Launch) (D : va_G) (cI cO : ClassId) (sz : Nat) (h : Nat) (b : Nat → Nat) (w past er bf tk : Nat → Int32) (sv : Int32) (hs : Int64) (c0 : Nat) (hW : WF c0 w)  (n_ : Nat) (hc9 : c0 < 900) (hn_ : n_ ≤ 4) (hsv : sv = nI n_) (x y : Int32) : Met l yX3_currentLink (Cond.code yX3_currentLink cX3_currentLink 3 (some .int) :: WL) ({ frames := 4, cells := 0, slots := 0, locals := 97 } : Room) (va_Pc [.ref (h), .int (x), .int (y)] (PW D cI cO (mdW cI h b w past er bf tk sv hs) sz)) (va_Qi (fun (r : Int32) (u : MV) => r = (oCl w x y).1 ∧ nxM n_ w past er (oCl w x y) u) (QB D (mdW cI h b w past er bf tk sv hs) sz (fun (u : MV) => mdU cI h b u)) (va_A (mdW cI h b w past er bf tk sv hs) sz)) 0 0 (va_A (mdW cI h b w past er bf tk sv hs) sz) := by
  refine wr_int (by decide) (Nat.le_of_ble_eq_true rfl) ?_
  intro p e s m args below meth c Q ls A F hP hC hD hA hret hl
  have hx := F.1
  have hb := F.2.1
  have hml := F.2.2.1
  have hown := F.2.2.2.1
  have hts := F.2.2.2.2
  replace hl : lv_has ls 3 [(0, .ref (h)), (1, .int (x)), (2, .int (y))] := hl
  have hS : va_S A s.heap s.heap [] := va_S.rf
  have hn4 := hW.n.2
  have hc : c0 < 1000 := by omega
  refine lv_iload_n hx hb dX3_currentLink_0 rfl (lv_at hl 1 rfl) ?_
  refine lv_iload_n hx hb dX3_currentLink_1 rfl (lv_at hl 2 rfl) ?_
  refine goR (kS (As := [.int (x), .int (y)]) (rest := []) F (c_X3_isStream l D cI cO (x) (y)) ywX3_isStream qw599 qw600  ⟨rfl, rfl⟩ ⟨Nat.le_of_ble_eq_true rfl, Nat.le_of_ble_eq_true rfl⟩ (preR (fun k q h => by simp at h) hC) rfl hl.1 rfl (Nat.le_of_ble_eq_true rfl) dX3_currentLink_2 ⟨Nat.zero_le _, Nat.zero_le _⟩) (fun r_2 h_2 => ?_)
  rcases h_2 with ⟨rfl, h_2⟩ | ⟨rfl, h_2⟩
  · obtain ⟨⟨d_, hd6, rfl⟩, s_, hs16, rfl⟩ := id h_2
    have hop : oCl w (nI d_) (nI s_) = (lk w (d_ * 16 + s_), 0, w) := by unfold oCl; rw [itc_t h_2, nv_nI (by omega), nv_nI (by omega)]
    refine n_if_eq (tgt := 21) hx hb dX3_currentLink_5 (by decide) (by omega) (fun h => absurd h (by decide)) (fun _ => ?_)
    refine lv_aload_n hx hb dX3_currentLink_8 rfl (lv_at hl 0 rfl) ?_
    refine lv_bipush (v := (nI (16))) hx hb dX3_currentLink_9 (by decide) ?_
    refine lv_iload_n hx hb dX3_currentLink_11 rfl (lv_at hl 1 rfl) ?_
    refine n_imul hx hb dX3_currentLink_12  ?_
    refine lv_iload_n hx hb dX3_currentLink_13 rfl (lv_at hl 2 rfl) ?_
    refine n_iadd hx hb dX3_currentLink_14  ?_
    refine goR (kV (As := [.int (nI ((16 * d_) + s_))]) (rest := []) F (c_X3_linkOf l D cI cO h b w past er bf tk sv hs c0 hW ((16 * d_) + s_) (by omega)) ywX3_linkOf qw513 qw515 qs38 ⟨rfl, rfl⟩ ⟨Nat.le_of_ble_eq_true rfl, Nat.le_of_ble_eq_true rfl⟩ (preV (preR hP hC) hC hP (ci := 3) (q0 := 0) rfl rfl rfl) rfl hl.1 rfl (Nat.le_of_ble_eq_true rfl) dX3_currentLink_15 ⟨Nat.zero_le _, Nat.zero_le _⟩) (fun r_15 h_15 => ?_)
    subst h_15
    refine w_cv (y := (lk w (d_ * 16 + s_))) (congrArg (lk w) (by omega)) ?_
    refine lv_goto (tgt := 27) hx hb dX3_currentLink_18 (by decide) ?_
    exact hret _ (w, past, er, bf, tk, sv, hs) _ ls _ _ (⟨(congrArg Prod.fst hop).symm, nxM_0 hop hsv⟩) hP hD hS dX3_currentLink_27
  · have hop : oCl w x y = (-2, 2, w) := itc_f h_2
    refine n_if_eq (tgt := 21) hx hb dX3_currentLink_5 (by decide) (by omega) (fun _ => ?_) (fun h => absurd h (by decide))
    refine lv_aload_n hx hb dX3_currentLink_21 rfl (lv_at hl 0 rfl) ?_
    refine lv_bipush (v := (-2)) hx hb dX3_currentLink_22 (by decide) ?_
    refine goWi (pre := []) (wc := mdW cI h b w past er bf tk sv hs) (suf := []) (kV (As := [.int (-2)]) (rest := []) F (c_X3_fails l D cI cO _ h b w past er bf tk sv hs c0 hW 0 (by decide)) ywX3_fails qw482 qw484 qs33 ⟨rfl, rfl⟩ ⟨Nat.le_of_ble_eq_true rfl, Nat.le_of_ble_eq_true rfl⟩ (preV (preW hP hC hD) hC hP (ci := 3) (q0 := 0) rfl rfl rfl) rfl hl.1 rfl (Nat.le_of_ble_eq_true rfl) dX3_currentLink_24 ⟨Nat.zero_le _, Nat.zero_le _⟩) (by simpa only [List.append_assoc, List.nil_append, List.append_nil] using hP) (by simpa only [List.append_assoc, List.nil_append, List.append_nil] using hD) hS hA (fun r_24 er_1 H locs h_24 hP hD hS => ?_)
    replace hP : va_P D vwCl (mdW cI h b w past er_1 bf tk sv hs) H := by simpa only [List.append_assoc, List.nil_append, List.append_nil] using hP
    replace hD : va_D A (mdW cI h b w past er_1 bf tk sv hs) := by simpa only [List.append_assoc, List.nil_append, List.append_nil] using hD
    obtain ⟨h_24, k_24⟩ := h_24
    subst h_24
    exact hret _ (w, past, er_1, bf, tk, sv, hs) _ ls _ _ (⟨(congrArg Prod.fst hop).symm, nxM_e (e := 0) hop k_24 hsv⟩) hP hD hS dX3_currentLink_27

set_option maxHeartbeats 4000000 in
set_option maxRecDepth 100000 in
theorem c_X3_isHeld (l : Launch) (D : va_G) (cI cO : ClassId) (sz : Nat) (h : Nat) (b : Nat → Nat) (w past er bf tk : Nat → Int32) (sv : Int32) (hs : Int64) (c0 : Nat) (hW : WF c0 w)  (n_ : Nat) (hc9 : c0 < 900) (hn_ : n_ ≤ 4) (hsv : sv = nI n_) (x y : Int32) : Met l yX3_isHeld (Cond.code yX3_isHeld cX3_isHeld 3 (some .int) :: WL) ({ frames := 3, cells := 0, slots := 0, locals := 63 } : Room) (va_Pc [.ref (h), .int (x), .int (y)] (PW D cI cO (mdW cI h b w past er bf tk sv hs) sz)) (va_Qi (fun (r : Int32) (u : MV) => r = (oIh w x y).1 ∧ nxM n_ w past er (oIh w x y) u) (QB D (mdW cI h b w past er bf tk sv hs) sz (fun (u : MV) => mdU cI h b u)) (va_A (mdW cI h b w past er bf tk sv hs) sz)) 0 0 (va_A (mdW cI h b w past er bf tk sv hs) sz) := by
  refine wr_int (by decide) (Nat.le_of_ble_eq_true rfl) ?_
  intro p e s m args below meth c Q ls A F hP hC hD hA hret hl
  have hx := F.1
  have hb := F.2.1
  have hml := F.2.2.1
  have hown := F.2.2.2.1
  have hts := F.2.2.2.2
  replace hl : lv_has ls 3 [(0, .ref (h)), (1, .int (x)), (2, .int (y))] := hl
  have hS : va_S A s.heap s.heap [] := va_S.rf
  have hn4 := hW.n.2
  have hc : c0 < 1000 := by omega
  refine lv_iload_n hx hb dX3_isHeld_0 rfl (lv_at hl 1 rfl) ?_
  refine lv_iload_n hx hb dX3_isHeld_1 rfl (lv_at hl 2 rfl) ?_
  refine goR (kS (As := [.int (x), .int (y)]) (rest := []) F (c_X3_isStream l D cI cO (x) (y)) ywX3_isStream qw599 qw600  ⟨rfl, rfl⟩ ⟨Nat.le_of_ble_eq_true rfl, Nat.le_of_ble_eq_true rfl⟩ (preR (fun k q h => by simp at h) hC) rfl hl.1 rfl (Nat.le_of_ble_eq_true rfl) dX3_isHeld_2 ⟨Nat.zero_le _, Nat.zero_le _⟩) (fun r_2 h_2 => ?_)
  rcases h_2 with ⟨rfl, h_2⟩ | ⟨rfl, h_2⟩
  · obtain ⟨⟨d_, hd6, rfl⟩, s_, hs16, rfl⟩ := id h_2
    have hop0 : oIh w (nI d_) (nI s_) = (if un w (d_ * 16 + s_) = 0 then nI 0 else nI 1, 0, w) := by unfold oIh; rw [itc_t h_2, nv_nI (by omega), nv_nI (by omega)]
    have hu9 := (hW.u (d_ * 16 + s_) (by omega)).2.1
    refine n_if_eq (tgt := 34) hx hb dX3_isHeld_5 (by decide) (by omega) (fun h => absurd h (by decide)) (fun _ => ?_)
    refine lv_aload_n hx hb dX3_isHeld_8 rfl (lv_at hl 0 rfl) ?_
    refine gt3 hx hb hts hown hC.1 hP 0 rfl 0 (by decide) qw456 rfl dX3_isHeld_9 ?_
    refine lv_sipush (v := (nI (245))) hx hb dX3_isHeld_12 (by decide) ?_
    refine lv_bipush (v := (nI (16))) hx hb dX3_isHeld_15 (by decide) ?_
    refine lv_iload_n hx hb dX3_isHeld_17 rfl (lv_at hl 1 rfl) ?_
    refine n_imul hx hb dX3_isHeld_18  ?_
    refine n_iadd hx hb dX3_isHeld_19  ?_
    refine lv_iload_n hx hb dX3_isHeld_20 rfl (lv_at hl 2 rfl) ?_
    refine n_iadd hx hb dX3_isHeld_21  ?_
    refine n_iald hx hb hC.1 hP 1 0 rfl rfl (by omega) (by decide) dX3_isHeld_22 ?_
    refine w_cv (y := (nI (un w (d_ * 16 + s_)))) ((congrArg w (by omega)).trans (hW.u (d_ * 16 + s_) (by omega)).1) ?_
    refine n_if_le (tgt := 30) hx hb dX3_isHeld_23 (by decide) (by omega) (fun c_23 => ?_) (fun c_23 => ?_)
    · have hop := hop0
      rw [if_pos (by omega)] at hop
      refine lv_iconst (v := (nI (0))) hx hb dX3_isHeld_30 (by decide) ?_
      refine lv_goto (tgt := 40) hx hb dX3_isHeld_31 (by decide) ?_
      exact hret _ (w, past, er, bf, tk, sv, hs) _ ls _ _ (⟨(congrArg Prod.fst hop).symm, nxM_0 hop hsv⟩) hP hD hS dX3_isHeld_40
    · have hop := hop0
      rw [if_neg (by omega)] at hop
      refine lv_iconst (v := (nI (1))) hx hb dX3_isHeld_26 (by decide) ?_
      refine lv_goto (tgt := 40) hx hb dX3_isHeld_27 (by decide) ?_
      exact hret _ (w, past, er, bf, tk, sv, hs) _ ls _ _ (⟨(congrArg Prod.fst hop).symm, nxM_0 hop hsv⟩) hP hD hS dX3_isHeld_40
  · have hop : oIh w x y = (-2, 2, w) := itc_f h_2
    refine n_if_eq (tgt := 34) hx hb dX3_isHeld_5 (by decide) (by omega) (fun _ => ?_) (fun h => absurd h (by decide))
    refine lv_aload_n hx hb dX3_isHeld_34 rfl (lv_at hl 0 rfl) ?_
    refine lv_bipush (v := (-2)) hx hb dX3_isHeld_35 (by decide) ?_
    refine goWi (pre := []) (wc := mdW cI h b w past er bf tk sv hs) (suf := []) (kV (As := [.int (-2)]) (rest := []) F (c_X3_fails l D cI cO _ h b w past er bf tk sv hs c0 hW 0 (by decide)) ywX3_fails qw482 qw484 qs33 ⟨rfl, rfl⟩ ⟨Nat.le_of_ble_eq_true rfl, Nat.le_of_ble_eq_true rfl⟩ (preV (preW hP hC hD) hC hP (ci := 3) (q0 := 0) rfl rfl rfl) rfl hl.1 rfl (Nat.le_of_ble_eq_true rfl) dX3_isHeld_37 ⟨Nat.zero_le _, Nat.zero_le _⟩) (by simpa only [List.append_assoc, List.nil_append, List.append_nil] using hP) (by simpa only [List.append_assoc, List.nil_append, List.append_nil] using hD) hS hA (fun r_37 er_1 H locs h_37 hP hD hS => ?_)
    replace hP : va_P D vwCl (mdW cI h b w past er_1 bf tk sv hs) H := by simpa only [List.append_assoc, List.nil_append, List.append_nil] using hP
    replace hD : va_D A (mdW cI h b w past er_1 bf tk sv hs) := by simpa only [List.append_assoc, List.nil_append, List.append_nil] using hD
    obtain ⟨h_37, k_37⟩ := h_37
    subst h_37
    exact hret _ (w, past, er_1, bf, tk, sv, hs) _ ls _ _ (⟨(congrArg Prod.fst hop).symm, nxM_e (e := 0) hop k_37 hsv⟩) hP hD hS dX3_isHeld_40

set_option maxHeartbeats 4000000 in
set_option maxRecDepth 100000 in
theorem c_X3_time (l : Launch) (D : va_G) (cI cO : ClassId) (sz : Nat) (h : Nat) (b : Nat → Nat) (w past er bf tk : Nat → Int32) (sv : Int32) (hs : Int64) (c0 : Nat) (hW : WF c0 w)  (n_ : Nat) (hc9 : c0 < 900) (hn_ : n_ ≤ 4) (hsv : sv = nI n_) : Met l yX3_time (Cond.code yX3_time cX3_time 1 (some .int) :: WL) ({ frames := 0, cells := 0, slots := 0, locals := 0 } : Room) (va_Pc [.ref (h)] (PW D cI cO (mdW cI h b w past er bf tk sv hs) sz)) (va_Qi (fun (r : Int32) (u : MV) => r = (oGet w 462).1 ∧ nxM n_ w past er (oGet w 462) u) (QB D (mdW cI h b w past er bf tk sv hs) sz (fun (u : MV) => mdU cI h b u)) (va_A (mdW cI h b w past er bf tk sv hs) sz)) 0 0 (va_A (mdW cI h b w past er bf tk sv hs) sz) := by
  refine wr_int (by decide) (Nat.le_of_ble_eq_true rfl) ?_
  intro p e s m args below meth c Q ls A F hP hC hD hA hret hl
  have hx := F.1
  have hb := F.2.1
  have hml := F.2.2.1
  have hown := F.2.2.2.1
  have hts := F.2.2.2.2
  replace hl : lv_has ls 1 [(0, .ref (h))] := hl
  have hS : va_S A s.heap s.heap [] := va_S.rf
  have hn4 := hW.n.2
  have hc : c0 < 1000 := by omega
  have hop : oGet w 462 = (w 462, 0, w) := rfl
  refine lv_aload_n hx hb dX3_time_0 rfl (lv_at hl 0 rfl) ?_
  refine gt3 hx hb hts hown hC.1 hP 0 rfl 0 (by decide) qw456 rfl dX3_time_1 ?_
  refine lv_sipush (v := (nI (462))) hx hb dX3_time_4 (by decide) ?_
  refine n_iald hx hb hC.1 hP 1 0 rfl rfl (by omega) (by decide) dX3_time_7 ?_
  exact hret _ (w, past, er, bf, tk, sv, hs) _ ls _ _ (⟨(congrArg Prod.fst hop).symm, nxM_0 hop hsv⟩) hP hD hS dX3_time_8

set_option maxHeartbeats 4000000 in
set_option maxRecDepth 100000 in
theorem c_X3_heldMessages (l : Launch) (D : va_G) (cI cO : ClassId) (sz : Nat) (h : Nat) (b : Nat → Nat) (w past er bf tk : Nat → Int32) (sv : Int32) (hs : Int64) (c0 : Nat) (hW : WF c0 w)  (n_ : Nat) (hc9 : c0 < 900) (hn_ : n_ ≤ 4) (hsv : sv = nI n_) : Met l yX3_heldMessages (Cond.code yX3_heldMessages cX3_heldMessages 1 (some .int) :: WL) ({ frames := 0, cells := 0, slots := 0, locals := 0 } : Room) (va_Pc [.ref (h)] (PW D cI cO (mdW cI h b w past er bf tk sv hs) sz)) (va_Qi (fun (r : Int32) (u : MV) => r = (oGet w 341).1 ∧ nxM n_ w past er (oGet w 341) u) (QB D (mdW cI h b w past er bf tk sv hs) sz (fun (u : MV) => mdU cI h b u)) (va_A (mdW cI h b w past er bf tk sv hs) sz)) 0 0 (va_A (mdW cI h b w past er bf tk sv hs) sz) := by
  refine wr_int (by decide) (Nat.le_of_ble_eq_true rfl) ?_
  intro p e s m args below meth c Q ls A F hP hC hD hA hret hl
  have hx := F.1
  have hb := F.2.1
  have hml := F.2.2.1
  have hown := F.2.2.2.1
  have hts := F.2.2.2.2
  replace hl : lv_has ls 1 [(0, .ref (h))] := hl
  have hS : va_S A s.heap s.heap [] := va_S.rf
  have hn4 := hW.n.2
  have hc : c0 < 1000 := by omega
  have hop : oGet w 341 = (w 341, 0, w) := rfl
  refine lv_aload_n hx hb dX3_heldMessages_0 rfl (lv_at hl 0 rfl) ?_
  refine gt3 hx hb hts hown hC.1 hP 0 rfl 0 (by decide) qw456 rfl dX3_heldMessages_1 ?_
  refine lv_sipush (v := (nI (341))) hx hb dX3_heldMessages_4 (by decide) ?_
  refine n_iald hx hb hC.1 hP 1 0 rfl rfl (by omega) (by decide) dX3_heldMessages_7 ?_
  exact hret _ (w, past, er, bf, tk, sv, hs) _ ls _ _ (⟨(congrArg Prod.fst hop).symm, nxM_0 hop hsv⟩) hP hD hS dX3_heldMessages_8

set_option maxHeartbeats 4000000 in
set_option maxRecDepth 100000 in
theorem c_X3_delivered (l : Launch) (D : va_G) (cI cO : ClassId) (sz : Nat) (h : Nat) (b : Nat → Nat) (w past er bf tk : Nat → Int32) (sv : Int32) (hs : Int64) (c0 : Nat) (hW : WF c0 w)  (n_ : Nat) (hc9 : c0 < 900) (hn_ : n_ ≤ 4) (hsv : sv = nI n_) : Met l yX3_delivered (Cond.code yX3_delivered cX3_delivered 1 (some .int) :: WL) ({ frames := 0, cells := 0, slots := 0, locals := 0 } : Room) (va_Pc [.ref (h)] (PW D cI cO (mdW cI h b w past er bf tk sv hs) sz)) (va_Qi (fun (r : Int32) (u : MV) => r = (oGet w 465).1 ∧ nxM n_ w past er (oGet w 465) u) (QB D (mdW cI h b w past er bf tk sv hs) sz (fun (u : MV) => mdU cI h b u)) (va_A (mdW cI h b w past er bf tk sv hs) sz)) 0 0 (va_A (mdW cI h b w past er bf tk sv hs) sz) := by
  refine wr_int (by decide) (Nat.le_of_ble_eq_true rfl) ?_
  intro p e s m args below meth c Q ls A F hP hC hD hA hret hl
  have hx := F.1
  have hb := F.2.1
  have hml := F.2.2.1
  have hown := F.2.2.2.1
  have hts := F.2.2.2.2
  replace hl : lv_has ls 1 [(0, .ref (h))] := hl
  have hS : va_S A s.heap s.heap [] := va_S.rf
  have hn4 := hW.n.2
  have hc : c0 < 1000 := by omega
  have hop : oGet w 465 = (w 465, 0, w) := rfl
  refine lv_aload_n hx hb dX3_delivered_0 rfl (lv_at hl 0 rfl) ?_
  refine gt3 hx hb hts hown hC.1 hP 0 rfl 0 (by decide) qw456 rfl dX3_delivered_1 ?_
  refine lv_sipush (v := (nI (465))) hx hb dX3_delivered_4 (by decide) ?_
  refine n_iald hx hb hC.1 hP 1 0 rfl rfl (by omega) (by decide) dX3_delivered_7 ?_
  exact hret _ (w, past, er, bf, tk, sv, hs) _ ls _ _ (⟨(congrArg Prod.fst hop).symm, nxM_0 hop hsv⟩) hP hD hS dX3_delivered_8

set_option maxHeartbeats 4000000 in
set_option maxRecDepth 100000 in
theorem c_X3_overtaken (l : Launch) (D : va_G) (cI cO : ClassId) (sz : Nat) (h : Nat) (b : Nat → Nat) (w past er bf tk : Nat → Int32) (sv : Int32) (hs : Int64) (c0 : Nat) (hW : WF c0 w)  (n_ : Nat) (hc9 : c0 < 900) (hn_ : n_ ≤ 4) (hsv : sv = nI n_) : Met l yX3_overtaken (Cond.code yX3_overtaken cX3_overtaken 1 (some .int) :: WL) ({ frames := 0, cells := 0, slots := 0, locals := 0 } : Room) (va_Pc [.ref (h)] (PW D cI cO (mdW cI h b w past er bf tk sv hs) sz)) (va_Qi (fun (r : Int32) (u : MV) => r = (oGet w 466).1 ∧ nxM n_ w past er (oGet w 466) u) (QB D (mdW cI h b w past er bf tk sv hs) sz (fun (u : MV) => mdU cI h b u)) (va_A (mdW cI h b w past er bf tk sv hs) sz)) 0 0 (va_A (mdW cI h b w past er bf tk sv hs) sz) := by
  refine wr_int (by decide) (Nat.le_of_ble_eq_true rfl) ?_
  intro p e s m args below meth c Q ls A F hP hC hD hA hret hl
  have hx := F.1
  have hb := F.2.1
  have hml := F.2.2.1
  have hown := F.2.2.2.1
  have hts := F.2.2.2.2
  replace hl : lv_has ls 1 [(0, .ref (h))] := hl
  have hS : va_S A s.heap s.heap [] := va_S.rf
  have hn4 := hW.n.2
  have hc : c0 < 1000 := by omega
  have hop : oGet w 466 = (w 466, 0, w) := rfl
  refine lv_aload_n hx hb dX3_overtaken_0 rfl (lv_at hl 0 rfl) ?_
  refine gt3 hx hb hts hown hC.1 hP 0 rfl 0 (by decide) qw456 rfl dX3_overtaken_1 ?_
  refine lv_sipush (v := (nI (466))) hx hb dX3_overtaken_4 (by decide) ?_
  refine n_iald hx hb hC.1 hP 1 0 rfl rfl (by omega) (by decide) dX3_overtaken_7 ?_
  exact hret _ (w, past, er, bf, tk, sv, hs) _ ls _ _ (⟨(congrArg Prod.fst hop).symm, nxM_0 hop hsv⟩) hP hD hS dX3_overtaken_8

set_option maxHeartbeats 4000000 in
set_option maxRecDepth 100000 in
theorem c_X3_unreachable (l : Launch) (D : va_G) (cI cO : ClassId) (sz : Nat) (h : Nat) (b : Nat → Nat) (w past er bf tk : Nat → Int32) (sv : Int32) (hs : Int64) (c0 : Nat) (hW : WF c0 w)  (n_ : Nat) (hc9 : c0 < 900) (hn_ : n_ ≤ 4) (hsv : sv = nI n_) : Met l yX3_unreachable (Cond.code yX3_unreachable cX3_unreachable 1 (some .int) :: WL) ({ frames := 0, cells := 0, slots := 0, locals := 0 } : Room) (va_Pc [.ref (h)] (PW D cI cO (mdW cI h b w past er bf tk sv hs) sz)) (va_Qi (fun (r : Int32) (u : MV) => r = (oGet w 467).1 ∧ nxM n_ w past er (oGet w 467) u) (QB D (mdW cI h b w past er bf tk sv hs) sz (fun (u : MV) => mdU cI h b u)) (va_A (mdW cI h b w past er bf tk sv hs) sz)) 0 0 (va_A (mdW cI h b w past er bf tk sv hs) sz) := by
  refine wr_int (by decide) (Nat.le_of_ble_eq_true rfl) ?_
  intro p e s m args below meth c Q ls A F hP hC hD hA hret hl
  have hx := F.1
  have hb := F.2.1
  have hml := F.2.2.1
  have hown := F.2.2.2.1
  have hts := F.2.2.2.2
  replace hl : lv_has ls 1 [(0, .ref (h))] := hl
  have hS : va_S A s.heap s.heap [] := va_S.rf
  have hn4 := hW.n.2
  have hc : c0 < 1000 := by omega
  have hop : oGet w 467 = (w 467, 0, w) := rfl
  refine lv_aload_n hx hb dX3_unreachable_0 rfl (lv_at hl 0 rfl) ?_
  refine gt3 hx hb hts hown hC.1 hP 0 rfl 0 (by decide) qw456 rfl dX3_unreachable_1 ?_
  refine lv_sipush (v := (nI (467))) hx hb dX3_unreachable_4 (by decide) ?_
  refine n_iald hx hb hC.1 hP 1 0 rfl rfl (by omega) (by decide) dX3_unreachable_7 ?_
  exact hret _ (w, past, er, bf, tk, sv, hs) _ ls _ _ (⟨(congrArg Prod.fst hop).symm, nxM_0 hop hsv⟩) hP hD hS dX3_unreachable_8

set_option maxHeartbeats 4000000 in
set_option maxRecDepth 100000 in
theorem c_X3_congested (l : Launch) (D : va_G) (cI cO : ClassId) (sz : Nat) (h : Nat) (b : Nat → Nat) (w past er bf tk : Nat → Int32) (sv : Int32) (hs : Int64) (c0 : Nat) (hW : WF c0 w)  (n_ : Nat) (hc9 : c0 < 900) (hn_ : n_ ≤ 4) (hsv : sv = nI n_) : Met l yX3_congested (Cond.code yX3_congested cX3_congested 1 (some .int) :: WL) ({ frames := 0, cells := 0, slots := 0, locals := 0 } : Room) (va_Pc [.ref (h)] (PW D cI cO (mdW cI h b w past er bf tk sv hs) sz)) (va_Qi (fun (r : Int32) (u : MV) => r = (oGet w 468).1 ∧ nxM n_ w past er (oGet w 468) u) (QB D (mdW cI h b w past er bf tk sv hs) sz (fun (u : MV) => mdU cI h b u)) (va_A (mdW cI h b w past er bf tk sv hs) sz)) 0 0 (va_A (mdW cI h b w past er bf tk sv hs) sz) := by
  refine wr_int (by decide) (Nat.le_of_ble_eq_true rfl) ?_
  intro p e s m args below meth c Q ls A F hP hC hD hA hret hl
  have hx := F.1
  have hb := F.2.1
  have hml := F.2.2.1
  have hown := F.2.2.2.1
  have hts := F.2.2.2.2
  replace hl : lv_has ls 1 [(0, .ref (h))] := hl
  have hS : va_S A s.heap s.heap [] := va_S.rf
  have hn4 := hW.n.2
  have hc : c0 < 1000 := by omega
  have hop : oGet w 468 = (w 468, 0, w) := rfl
  refine lv_aload_n hx hb dX3_congested_0 rfl (lv_at hl 0 rfl) ?_
  refine gt3 hx hb hts hown hC.1 hP 0 rfl 0 (by decide) qw456 rfl dX3_congested_1 ?_
  refine lv_sipush (v := (nI (468))) hx hb dX3_congested_4 (by decide) ?_
  refine n_iald hx hb hC.1 hP 1 0 rfl rfl (by omega) (by decide) dX3_congested_7 ?_
  exact hret _ (w, past, er, bf, tk, sv, hs) _ ls _ _ (⟨(congrArg Prod.fst hop).symm, nxM_0 hop hsv⟩) hP hD hS dX3_congested_8

set_option maxHeartbeats 4000000 in
set_option maxRecDepth 100000 in
theorem c_X3_lost (l : Launch) (D : va_G) (cI cO : ClassId) (sz : Nat) (h : Nat) (b : Nat → Nat) (w past er bf tk : Nat → Int32) (sv : Int32) (hs : Int64) (c0 : Nat) (hW : WF c0 w)  (n_ : Nat) (hc9 : c0 < 900) (hn_ : n_ ≤ 4) (hsv : sv = nI n_) : Met l yX3_lost (Cond.code yX3_lost cX3_lost 1 (some .int) :: WL) ({ frames := 0, cells := 0, slots := 0, locals := 0 } : Room) (va_Pc [.ref (h)] (PW D cI cO (mdW cI h b w past er bf tk sv hs) sz)) (va_Qi (fun (r : Int32) (u : MV) => r = (oGet w 469).1 ∧ nxM n_ w past er (oGet w 469) u) (QB D (mdW cI h b w past er bf tk sv hs) sz (fun (u : MV) => mdU cI h b u)) (va_A (mdW cI h b w past er bf tk sv hs) sz)) 0 0 (va_A (mdW cI h b w past er bf tk sv hs) sz) := by
  refine wr_int (by decide) (Nat.le_of_ble_eq_true rfl) ?_
  intro p e s m args below meth c Q ls A F hP hC hD hA hret hl
  have hx := F.1
  have hb := F.2.1
  have hml := F.2.2.1
  have hown := F.2.2.2.1
  have hts := F.2.2.2.2
  replace hl : lv_has ls 1 [(0, .ref (h))] := hl
  have hS : va_S A s.heap s.heap [] := va_S.rf
  have hn4 := hW.n.2
  have hc : c0 < 1000 := by omega
  have hop : oGet w 469 = (w 469, 0, w) := rfl
  refine lv_aload_n hx hb dX3_lost_0 rfl (lv_at hl 0 rfl) ?_
  refine gt3 hx hb hts hown hC.1 hP 0 rfl 0 (by decide) qw456 rfl dX3_lost_1 ?_
  refine lv_sipush (v := (nI (469))) hx hb dX3_lost_4 (by decide) ?_
  refine n_iald hx hb hC.1 hP 1 0 rfl rfl (by omega) (by decide) dX3_lost_7 ?_
  exact hret _ (w, past, er, bf, tk, sv, hs) _ ls _ _ (⟨(congrArg Prod.fst hop).symm, nxM_0 hop hsv⟩) hP hD hS dX3_lost_8

set_option maxHeartbeats 4000000 in
set_option maxRecDepth 100000 in
theorem c_X3_errorCount (l : Launch) (D : va_G) (cI cO : ClassId) (sz : Nat) (h : Nat) (b : Nat → Nat) (w past er bf tk : Nat → Int32) (sv : Int32) (hs : Int64) (c0 : Nat) (hW : WF c0 w)  (n_ : Nat) (hc9 : c0 < 900) (hn_ : n_ ≤ 4) (hsv : sv = nI n_) (x : Int32) : Met l yX3_errorCount (Cond.code yX3_errorCount cX3_errorCount 2 (some .int) :: WL) ({ frames := 1, cells := 0, slots := 0, locals := 22 } : Room) (va_Pc [.ref (h), .int (x)] (PW D cI cO (mdW cI h b w past er bf tk sv hs) sz)) (va_Qi (fun (r : Int32) (u : MV) => r = (oEc w er x).1 ∧ nxM n_ w past er (oEc w er x) u) (QB D (mdW cI h b w past er bf tk sv hs) sz (fun (u : MV) => mdU cI h b u)) (va_A (mdW cI h b w past er bf tk sv hs) sz)) 0 0 (va_A (mdW cI h b w past er bf tk sv hs) sz) := by
  refine wr_int (by decide) (Nat.le_of_ble_eq_true rfl) ?_
  intro p e s m args below meth c Q ls A F hP hC hD hA hret hl
  have hx := F.1
  have hb := F.2.1
  have hml := F.2.2.1
  have hown := F.2.2.2.1
  have hts := F.2.2.2.2
  replace hl : lv_has ls 2 [(0, .ref (h)), (1, .int (x))] := hl
  have hS : va_S A s.heap s.heap [] := va_S.rf
  have hn4 := hW.n.2
  have hc : c0 < 1000 := by omega
  refine lv_iload_n hx hb dX3_errorCount_0 rfl (lv_at hl 1 rfl) ?_
  refine lv_iconst (v := (nI (0))) hx hb dX3_errorCount_1 (by decide) ?_
  refine lv_iconst (v := (nI (2))) hx hb dX3_errorCount_2 (by decide) ?_
  refine goR (kS (As := [.int (x), .int (nI (0)), .int (nI (2))]) (rest := []) F (c_X3_within l D cI cO (x) (nI (0)) (nI (2))) ywX3_within qw490 qw491  ⟨rfl, rfl⟩ ⟨Nat.le_of_ble_eq_true rfl, Nat.le_of_ble_eq_true rfl⟩ (preR (fun k q h => by simp at h) hC) rfl hl.1 rfl (Nat.le_of_ble_eq_true rfl) dX3_errorCount_3 ⟨Nat.zero_le _, Nat.zero_le _⟩) (fun r_3 h_3 => ?_)
  rcases h_3 with ⟨rfl, h_3⟩ | ⟨rfl, h_3⟩
  · have hox := (okI_to (n := 2) (by decide)).mp h_3
    obtain ⟨d_, hd3, rfl⟩ := id hox
    have hop : oEc w er (nI d_) = (er d_, 0, w) := by unfold oEc; rw [itc_t hox, nv_nI (by omega)]
    refine n_if_eq (tgt := 18) hx hb dX3_errorCount_6 (by decide) (by omega) (fun h => absurd h (by decide)) (fun _ => ?_)
    refine lv_aload_n hx hb dX3_errorCount_9 rfl (lv_at hl 0 rfl) ?_
    refine gt3 hx hb hts hown hC.1 hP 0 rfl 3 (by decide) qw459 rfl dX3_errorCount_10 ?_
    refine lv_iload_n hx hb dX3_errorCount_13 rfl (lv_at hl 1 rfl) ?_
    refine n_iald hx hb hC.1 hP 3 0 rfl rfl (by omega) (by decide) dX3_errorCount_14 ?_
    refine lv_goto (tgt := 24) hx hb dX3_errorCount_15 (by decide) ?_
    exact hret _ (w, past, er, bf, tk, sv, hs) _ ls _ _ (⟨(congrArg Prod.fst hop).symm, nxM_0 hop hsv⟩) hP hD hS dX3_errorCount_24
  · have hop : oEc w er x = (-2, 2, w) := itc_f (fun q => h_3 ((okI_to (n := 2) (by decide)).mpr q))
    refine n_if_eq (tgt := 18) hx hb dX3_errorCount_6 (by decide) (by omega) (fun _ => ?_) (fun h => absurd h (by decide))
    refine lv_aload_n hx hb dX3_errorCount_18 rfl (lv_at hl 0 rfl) ?_
    refine lv_bipush (v := (-2)) hx hb dX3_errorCount_19 (by decide) ?_
    refine goWi (pre := []) (wc := mdW cI h b w past er bf tk sv hs) (suf := []) (kV (As := [.int (-2)]) (rest := []) F (c_X3_fails l D cI cO _ h b w past er bf tk sv hs c0 hW 0 (by decide)) ywX3_fails qw482 qw484 qs33 ⟨rfl, rfl⟩ ⟨Nat.le_of_ble_eq_true rfl, Nat.le_of_ble_eq_true rfl⟩ (preV (preW hP hC hD) hC hP (ci := 3) (q0 := 0) rfl rfl rfl) rfl hl.1 rfl (Nat.le_of_ble_eq_true rfl) dX3_errorCount_21 ⟨Nat.zero_le _, Nat.zero_le _⟩) (by simpa only [List.append_assoc, List.nil_append, List.append_nil] using hP) (by simpa only [List.append_assoc, List.nil_append, List.append_nil] using hD) hS hA (fun r_21 er_1 H locs h_21 hP hD hS => ?_)
    replace hP : va_P D vwCl (mdW cI h b w past er_1 bf tk sv hs) H := by simpa only [List.append_assoc, List.nil_append, List.append_nil] using hP
    replace hD : va_D A (mdW cI h b w past er_1 bf tk sv hs) := by simpa only [List.append_assoc, List.nil_append, List.append_nil] using hD
    obtain ⟨h_21, k_21⟩ := h_21
    subst h_21
    exact hret _ (w, past, er_1, bf, tk, sv, hs) _ ls _ _ (⟨(congrArg Prod.fst hop).symm, nxM_e (e := 0) hop k_21 hsv⟩) hP hD hS dX3_errorCount_24

set_option maxHeartbeats 4000000 in
set_option maxRecDepth 100000 in
theorem c_X3_setHoldTime (l : Launch) (D : va_G) (cI cO : ClassId) (sz : Nat) (h : Nat) (b : Nat → Nat) (w past er bf tk : Nat → Int32) (sv : Int32) (hs : Int64) (c0 : Nat) (hW : WF c0 w)  (n_ : Nat) (hc9 : c0 < 900) (hn_ : n_ ≤ 4) (hsv : sv = nI n_) (x : Int32) : Met l yX3_setHoldTime (Cond.code yX3_setHoldTime cX3_setHoldTime 3 (some .int) :: WL) ({ frames := 1, cells := 0, slots := 0, locals := 22 } : Room) (va_Pc [.ref (h), .int (x)] (PW D cI cO (mdW cI h b w past er bf tk sv hs) sz)) (va_Qi (fun (r : Int32) (u : MV) => r = (oHt w x).1 ∧ nxM n_ w past er (oHt w x) u) (QB D (mdW cI h b w past er bf tk sv hs) sz (fun (u : MV) => mdU cI h b u)) (va_A (mdW cI h b w past er bf tk sv hs) sz)) 0 0 (va_A (mdW cI h b w past er bf tk sv hs) sz) := by
  refine wr_int (by decide) (Nat.le_of_ble_eq_true rfl) ?_
  intro p e s m args below meth c Q ls A F hP hC hD hA hret hl
  have hx := F.1
  have hb := F.2.1
  have hml := F.2.2.1
  have hown := F.2.2.2.1
  have hts := F.2.2.2.2
  replace hl : lv_has ls 3 [(0, .ref (h)), (1, .int (x))] := hl
  have hS : va_S A s.heap s.heap [] := va_S.rf
  have hn4 := hW.n.2
  have hc : c0 < 1000 := by omega
  refine lv_iload_n hx hb dX3_setHoldTime_0 rfl (lv_at hl 1 rfl) ?_
  refine lv_iconst (v := (nI (0))) hx hb dX3_setHoldTime_1 (by decide) ?_
  refine lv_bipush (v := (nI (9))) hx hb dX3_setHoldTime_2 (by decide) ?_
  refine goR (kS (As := [.int (x), .int (nI (0)), .int (nI (9))]) (rest := []) F (c_X3_within l D cI cO (x) (nI (0)) (nI (9))) ywX3_within qw490 qw491  ⟨rfl, rfl⟩ ⟨Nat.le_of_ble_eq_true rfl, Nat.le_of_ble_eq_true rfl⟩ (preR (fun k q h => by simp at h) hC) rfl hl.1 rfl (Nat.le_of_ble_eq_true rfl) dX3_setHoldTime_4 ⟨Nat.zero_le _, Nat.zero_le _⟩) (fun r_4 h_4 => ?_)
  rcases h_4 with ⟨rfl, h_4⟩ | ⟨rfl, h_4⟩
  · have hop : oHt w x = (w 463, 1, upd w 463 x) := itc_t h_4
    refine n_if_ne (tgt := 17) hx hb dX3_setHoldTime_7 (by decide) (by omega) (fun _ => ?_) (fun h => absurd h (by decide))
    refine lv_aload_n hx hb dX3_setHoldTime_17 rfl (lv_at hl 0 rfl) ?_
    refine goWv (pre := []) (wc := mdW cI h b w past er bf tk sv hs) (suf := []) (kV (As := []) (rest := []) F (c_X3_saves l D cI cO _ h b w past er bf tk sv hs c0 hW n_ hn_ hsv) ywX3_saves qw493 qw495 qs34 ⟨rfl, rfl⟩ ⟨Nat.le_of_ble_eq_true rfl, Nat.le_of_ble_eq_true rfl⟩ (preV (preW hP hC hD) hC hP (ci := 3) (q0 := 0) rfl rfl rfl) rfl hl.1 rfl (Nat.le_of_ble_eq_true rfl) dX3_setHoldTime_18 ⟨Nat.zero_le _, Nat.zero_le _⟩) (by simpa only [List.append_assoc, List.nil_append, List.append_nil] using hP) (by simpa only [List.append_assoc, List.nil_append, List.append_nil] using hD) hS hA (fun u_1 H locs h_18 hP hD hS => ?_)
    obtain ⟨past_1, sv_1⟩ := u_1
    replace hP : va_P D vwCl (mdW cI h b w past_1 er bf tk sv_1 hs) H := by simpa only [List.append_assoc, List.nil_append, List.append_nil] using hP
    replace hD : va_D A (mdW cI h b w past_1 er bf tk sv_1 hs) := by simpa only [List.append_assoc, List.nil_append, List.append_nil] using hD
    refine lv_aload_n hx hb dX3_setHoldTime_21 rfl (lv_at hl 0 rfl) ?_
    refine gt3 hx hb hts hown hC.1 hP 0 rfl 0 (by decide) qw456 rfl dX3_setHoldTime_22 ?_
    refine lv_sipush (v := (nI (463))) hx hb dX3_setHoldTime_25 (by decide) ?_
    refine n_iald hx hb hC.1 hP 1 0 rfl rfl (by omega) (by decide) dX3_setHoldTime_28 ?_
    refine lv_istore_n (lv' := [(2, .int (w (463))), (0, .ref (h)), (1, .int (x))]) hx hb dX3_setHoldTime_29 rfl hl (by decide) rfl (fun ls hl => ?_)
    refine lv_aload_n hx hb dX3_setHoldTime_30 rfl (lv_at hl 1 rfl) ?_
    refine gt3 hx hb hts hown hC.1 hP 0 rfl 0 (by decide) qw456 rfl dX3_setHoldTime_31 ?_
    refine lv_sipush (v := (nI (463))) hx hb dX3_setHoldTime_34 (by decide) ?_
    refine lv_iload_n hx hb dX3_setHoldTime_37 rfl (lv_at hl 2 rfl) ?_
    refine n_iast hx hb hC.1 hP hD hS 1 0 rfl rfl (by omega) (by decide) dX3_setHoldTime_38 (fun H locs hP hD hS => ?_)
    obtain ⟨w_1, hw_1⟩ : ∃ z : Nat → Int32, z = upd w (463) (x) := ⟨_, rfl⟩
    replace hP : va_P D vwCl (mdW cI h b w_1 past_1 er bf tk sv_1 hs) H := by rw [hw_1]; exact hP
    replace hD : va_D A (mdW cI h b w_1 past_1 er bf tk sv_1 hs) := by rw [hw_1]; exact hD
    refine lv_iload_n hx hb dX3_setHoldTime_39 rfl (lv_at hl 0 rfl) ?_
    exact hret _ (w_1, past_1, er, bf, tk, sv_1, hs) _ ls _ _ (⟨(congrArg Prod.fst hop).symm, nxM_1 hop (hw_1) h_18⟩) hP hD hS dX3_setHoldTime_40
  · have hop : oHt w x = (-2, 2, w) := itc_f h_4
    refine n_if_ne (tgt := 17) hx hb dX3_setHoldTime_7 (by decide) (by omega) (fun h => absurd h (by decide)) (fun _ => ?_)
    refine lv_aload_n hx hb dX3_setHoldTime_10 rfl (lv_at hl 0 rfl) ?_
    refine lv_bipush (v := (-2)) hx hb dX3_setHoldTime_11 (by decide) ?_
    refine goWi (pre := []) (wc := mdW cI h b w past er bf tk sv hs) (suf := []) (kV (As := [.int (-2)]) (rest := []) F (c_X3_fails l D cI cO _ h b w past er bf tk sv hs c0 hW 0 (by decide)) ywX3_fails qw482 qw484 qs33 ⟨rfl, rfl⟩ ⟨Nat.le_of_ble_eq_true rfl, Nat.le_of_ble_eq_true rfl⟩ (preV (preW hP hC hD) hC hP (ci := 3) (q0 := 0) rfl rfl rfl) rfl hl.1 rfl (Nat.le_of_ble_eq_true rfl) dX3_setHoldTime_13 ⟨Nat.zero_le _, Nat.zero_le _⟩) (by simpa only [List.append_assoc, List.nil_append, List.append_nil] using hP) (by simpa only [List.append_assoc, List.nil_append, List.append_nil] using hD) hS hA (fun r_13 er_1 H locs h_13 hP hD hS => ?_)
    replace hP : va_P D vwCl (mdW cI h b w past er_1 bf tk sv hs) H := by simpa only [List.append_assoc, List.nil_append, List.append_nil] using hP
    replace hD : va_D A (mdW cI h b w past er_1 bf tk sv hs) := by simpa only [List.append_assoc, List.nil_append, List.append_nil] using hD
    obtain ⟨h_13, k_13⟩ := h_13
    subst h_13
    exact hret _ (w, past, er_1, bf, tk, sv, hs) _ ls _ _ (⟨(congrArg Prod.fst hop).symm, nxM_e (e := 0) hop k_13 hsv⟩) hP hD hS dX3_setHoldTime_16

set_option maxHeartbeats 4000000 in
set_option maxRecDepth 100000 in
theorem c_X3_removeRoute (l : Launch) (D : va_G) (cI cO : ClassId) (sz : Nat) (h : Nat) (b : Nat → Nat) (w past er bf tk : Nat → Int32) (sv : Int32) (hs : Int64) (c0 : Nat) (hW : WF c0 w)  (n_ : Nat) (hc9 : c0 < 900) (hn_ : n_ ≤ 4) (hsv : sv = nI n_) (x y : Int32) : Met l yX3_removeRoute (Cond.code yX3_removeRoute cX3_removeRoute 5 (some .int) :: WL) ({ frames := 2, cells := 0, slots := 0, locals := 43 } : Room) (va_Pc [.ref (h), .int (x), .int (y)] (PW D cI cO (mdW cI h b w past er bf tk sv hs) sz)) (va_Qi (fun (r : Int32) (u : MV) => r = (oRr w x y).1 ∧ nxM n_ w past er (oRr w x y) u) (QB D (mdW cI h b w past er bf tk sv hs) sz (fun (u : MV) => mdU cI h b u)) (va_A (mdW cI h b w past er bf tk sv hs) sz)) 0 0 (va_A (mdW cI h b w past er bf tk sv hs) sz) := by
  refine wr_int (by decide) (Nat.le_of_ble_eq_true rfl) ?_
  intro p e s m args below meth c Q ls A F hP hC hD hA hret hl
  have hx := F.1
  have hb := F.2.1
  have hml := F.2.2.1
  have hown := F.2.2.2.1
  have hts := F.2.2.2.2
  replace hl : lv_has ls 5 [(0, .ref (h)), (1, .int (x)), (2, .int (y))] := hl
  have hS : va_S A s.heap s.heap [] := va_S.rf
  have hn4 := hW.n.2
  have hc : c0 < 1000 := by omega
  refine lv_iload_n hx hb dX3_removeRoute_0 rfl (lv_at hl 1 rfl) ?_
  refine goR (kS (As := [.int (x)]) (rest := []) F (c_X3_isDestination l D cI cO (x)) ywX3_isDestination qw576 qw577  ⟨rfl, rfl⟩ ⟨Nat.le_of_ble_eq_true rfl, Nat.le_of_ble_eq_true rfl⟩ (preR (fun k q h => by simp at h) hC) rfl hl.1 rfl (Nat.le_of_ble_eq_true rfl) dX3_removeRoute_1 ⟨Nat.zero_le _, Nat.zero_le _⟩) (fun r_1 h_1 => ?_)
  rcases h_1 with ⟨rfl, h_1⟩ | ⟨rfl, h_1⟩
  · obtain ⟨d_, hd6, rfl⟩ := id h_1
    refine n_if_eq (tgt := 15) hx hb dX3_removeRoute_4 (by decide) (by omega) (fun h => absurd h (by decide)) (fun _ => ?_)
    refine lv_aload_n hx hb dX3_removeRoute_7 rfl (lv_at hl 0 rfl) ?_
    refine lv_iload_n hx hb dX3_removeRoute_8 rfl (lv_at hl 2 rfl) ?_
    refine goR (kV (As := [.int (y)]) (rest := []) F (c_X3_isSet l D cI cO h b w past er bf tk sv hs c0 hW (y)) ywX3_isSet qw505 qw507 qs36 ⟨rfl, rfl⟩ ⟨Nat.le_of_ble_eq_true rfl, Nat.le_of_ble_eq_true rfl⟩ (preV (preR hP hC) hC hP (ci := 3) (q0 := 0) rfl rfl rfl) rfl hl.1 rfl (Nat.le_of_ble_eq_true rfl) dX3_removeRoute_9 ⟨Nat.zero_le _, Nat.zero_le _⟩) (fun r_9 h_9 => ?_)
    rcases h_9 with ⟨rfl, h_9⟩ | ⟨rfl, h_9⟩
    · obtain ⟨i, hi, rfl⟩ := id h_9
      have hi4 : i < 4 := by omega
      have hsx : sx (nI d_) (nI i) = 197 + 4 * d_ + i := sx_nI (by omega) (by omega)
      have hpx : px (nI d_) (nI i) = 221 + 4 * d_ + i := px_nI (by omega) (by omega)
      refine n_if_ne (tgt := 22) hx hb dX3_removeRoute_12 (by decide) (by omega) (fun _ => ?_) (fun h => absurd h (by decide))
      refine lv_iconst (v := (nI (4))) hx hb dX3_removeRoute_22 (by decide) ?_
      refine lv_iload_n hx hb dX3_removeRoute_23 rfl (lv_at hl 1 rfl) ?_
      refine n_imul hx hb dX3_removeRoute_24  ?_
      refine lv_iload_n hx hb dX3_removeRoute_25 rfl (lv_at hl 2 rfl) ?_
      refine n_iadd hx hb dX3_removeRoute_26  ?_
      refine lv_istore_n (lv' := [(3, .int (nI ((4 * d_) + i))), (0, .ref (h)), (1, .int (nI (d_))), (2, .int (nI (i)))]) hx hb dX3_removeRoute_27 rfl hl (by decide) rfl (fun ls hl => ?_)
      refine lv_aload_n hx hb dX3_removeRoute_28 rfl (lv_at hl 1 rfl) ?_
      refine gt3 hx hb hts hown hC.1 hP 0 rfl 0 (by decide) qw456 rfl dX3_removeRoute_29 ?_
      refine lv_sipush (v := (nI (197))) hx hb dX3_removeRoute_32 (by decide) ?_
      refine lv_iload_n hx hb dX3_removeRoute_35 rfl (lv_at hl 0 rfl) ?_
      refine n_iadd hx hb dX3_removeRoute_36  ?_
      refine n_iald hx hb hC.1 hP 1 0 rfl rfl (by omega) (by decide) dX3_removeRoute_37 ?_
      refine w_cv (y := (w (197 + 4 * d_ + i))) (congrArg w (by omega)) ?_
      refine lv_istore (lv' := [(4, .int (w (197 + 4 * d_ + i))), (3, .int (nI ((4 * d_) + i))), (0, .ref (h)), (1, .int (nI (d_))), (2, .int (nI (i)))]) hx hb dX3_removeRoute_38 hl (by decide) rfl (fun ls hl => ?_)
      refine lv_iload hx hb dX3_removeRoute_40 (lv_at hl 0 rfl) ?_
      refine lv_iconst (v := (-1)) hx hb dX3_removeRoute_42 (by decide) ?_
      refine lv_icmp_ne (tgt := 53) hx hb dX3_removeRoute_43 (by decide)  (fun c_43 => ?_) (fun c_43 => ?_)
      · have hop : oRr w (nI d_) (nI i) = (w (197 + 4 * d_ + i), 1, upd (upd w (197 + 4 * d_ + i) (-1)) (221 + 4 * d_ + i) (-1)) := by unfold oRr; rw [itc_t ⟨h_1, h_9⟩, hsx, hpx, if_neg c_43]
        refine lv_aload_n hx hb dX3_removeRoute_53 rfl (lv_at hl 2 rfl) ?_
        refine goWv (pre := []) (wc := mdW cI h b w past er bf tk sv hs) (suf := []) (kV (As := []) (rest := []) F (c_X3_saves l D cI cO _ h b w past er bf tk sv hs c0 hW n_ hn_ hsv) ywX3_saves qw493 qw495 qs34 ⟨rfl, rfl⟩ ⟨Nat.le_of_ble_eq_true rfl, Nat.le_of_ble_eq_true rfl⟩ (preV (preW hP hC hD) hC hP (ci := 3) (q0 := 0) rfl rfl rfl) rfl hl.1 rfl (Nat.le_of_ble_eq_true rfl) dX3_removeRoute_54 ⟨Nat.zero_le _, Nat.zero_le _⟩) (by simpa only [List.append_assoc, List.nil_append, List.append_nil] using hP) (by simpa only [List.append_assoc, List.nil_append, List.append_nil] using hD) hS hA (fun u_1 H locs h_54 hP hD hS => ?_)
        obtain ⟨past_1, sv_1⟩ := u_1
        replace hP : va_P D vwCl (mdW cI h b w past_1 er bf tk sv_1 hs) H := by simpa only [List.append_assoc, List.nil_append, List.append_nil] using hP
        replace hD : va_D A (mdW cI h b w past_1 er bf tk sv_1 hs) := by simpa only [List.append_assoc, List.nil_append, List.append_nil] using hD
        refine lv_aload_n hx hb dX3_removeRoute_57 rfl (lv_at hl 2 rfl) ?_
        refine gt3 hx hb hts hown hC.1 hP 0 rfl 0 (by decide) qw456 rfl dX3_removeRoute_58 ?_
        refine lv_sipush (v := (nI (197))) hx hb dX3_removeRoute_61 (by decide) ?_
        refine lv_iload_n hx hb dX3_removeRoute_64 rfl (lv_at hl 1 rfl) ?_
        refine n_iadd hx hb dX3_removeRoute_65  ?_
        refine lv_iconst (v := (-1)) hx hb dX3_removeRoute_66 (by decide) ?_
        refine n_iast hx hb hC.1 hP hD hS 1 0 rfl rfl (by omega) (by decide) dX3_removeRoute_67 (fun H locs hP hD hS => ?_)
        obtain ⟨w_1, hw_1⟩ : ∃ z : Nat → Int32, z = upd w (197 + ((4 * d_) + i)) (-1) := ⟨_, rfl⟩
        replace hP : va_P D vwCl (mdW cI h b w_1 past_1 er bf tk sv_1 hs) H := by rw [hw_1]; exact hP
        replace hD : va_D A (mdW cI h b w_1 past_1 er bf tk sv_1 hs) := by rw [hw_1]; exact hD
        refine lv_aload_n hx hb dX3_removeRoute_68 rfl (lv_at hl 2 rfl) ?_
        refine gt3 hx hb hts hown hC.1 hP 0 rfl 0 (by decide) qw456 rfl dX3_removeRoute_69 ?_
        refine lv_sipush (v := (nI (221))) hx hb dX3_removeRoute_72 (by decide) ?_
        refine lv_iload_n hx hb dX3_removeRoute_75 rfl (lv_at hl 1 rfl) ?_
        refine n_iadd hx hb dX3_removeRoute_76  ?_
        refine lv_iconst (v := (-1)) hx hb dX3_removeRoute_77 (by decide) ?_
        refine n_iast hx hb hC.1 hP hD hS 1 0 rfl rfl (by omega) (by decide) dX3_removeRoute_78 (fun H locs hP hD hS => ?_)
        obtain ⟨w_2, hw_2⟩ : ∃ z : Nat → Int32, z = upd w_1 (221 + ((4 * d_) + i)) (-1) := ⟨_, rfl⟩
        replace hP : va_P D vwCl (mdW cI h b w_2 past_1 er bf tk sv_1 hs) H := by rw [hw_2]; exact hP
        replace hD : va_D A (mdW cI h b w_2 past_1 er bf tk sv_1 hs) := by rw [hw_2]; exact hD
        refine lv_iload hx hb dX3_removeRoute_79 (lv_at hl 0 rfl) ?_
        exact hret _ (w_2, past_1, er, bf, tk, sv_1, hs) _ ls _ _ (⟨(congrArg Prod.fst hop).symm, nxM_1 hop (by rw [hw_2, hw_1, show 197 + (4 * d_ + i) = 197 + 4 * d_ + i by omega, show 221 + (4 * d_ + i) = 221 + 4 * d_ + i by omega]) h_54⟩) hP hD hS dX3_removeRoute_81
      · have hop : oRr w (nI d_) (nI i) = (-3, 3, w) := by unfold oRr; rw [itc_t ⟨h_1, h_9⟩, hsx, if_pos c_43]; rfl
        refine lv_aload_n hx hb dX3_removeRoute_46 rfl (lv_at hl 2 rfl) ?_
        refine lv_bipush (v := (-3)) hx hb dX3_removeRoute_47 (by decide) ?_
        refine goWi (pre := []) (wc := mdW cI h b w past er bf tk sv hs) (suf := []) (kV (As := [.int (-3)]) (rest := []) F (c_X3_fails l D cI cO _ h b w past er bf tk sv hs c0 hW 1 (by decide)) ywX3_fails qw482 qw484 qs33 ⟨rfl, rfl⟩ ⟨Nat.le_of_ble_eq_true rfl, Nat.le_of_ble_eq_true rfl⟩ (preV (preW hP hC hD) hC hP (ci := 3) (q0 := 0) rfl rfl rfl) rfl hl.1 rfl (Nat.le_of_ble_eq_true rfl) dX3_removeRoute_49 ⟨Nat.zero_le _, Nat.zero_le _⟩) (by simpa only [List.append_assoc, List.nil_append, List.append_nil] using hP) (by simpa only [List.append_assoc, List.nil_append, List.append_nil] using hD) hS hA (fun r_49 er_1 H locs h_49 hP hD hS => ?_)
        replace hP : va_P D vwCl (mdW cI h b w past er_1 bf tk sv hs) H := by simpa only [List.append_assoc, List.nil_append, List.append_nil] using hP
        replace hD : va_D A (mdW cI h b w past er_1 bf tk sv hs) := by simpa only [List.append_assoc, List.nil_append, List.append_nil] using hD
        obtain ⟨h_49, k_49⟩ := h_49
        subst h_49
        exact hret _ (w, past, er_1, bf, tk, sv, hs) _ ls _ _ (⟨(congrArg Prod.fst hop).symm, nxM_e (e := 1) hop k_49 hsv⟩) hP hD hS dX3_removeRoute_52
    · have hop : oRr w (nI d_) y = (-2, 2, w) := itc_f (fun q => h_9 q.2)
      refine n_if_ne (tgt := 22) hx hb dX3_removeRoute_12 (by decide) (by omega) (fun h => absurd h (by decide)) (fun _ => ?_)
      refine lv_aload_n hx hb dX3_removeRoute_15 rfl (lv_at hl 0 rfl) ?_
      refine lv_bipush (v := (-2)) hx hb dX3_removeRoute_16 (by decide) ?_
      refine goWi (pre := []) (wc := mdW cI h b w past er bf tk sv hs) (suf := []) (kV (As := [.int (-2)]) (rest := []) F (c_X3_fails l D cI cO _ h b w past er bf tk sv hs c0 hW 0 (by decide)) ywX3_fails qw482 qw484 qs33 ⟨rfl, rfl⟩ ⟨Nat.le_of_ble_eq_true rfl, Nat.le_of_ble_eq_true rfl⟩ (preV (preW hP hC hD) hC hP (ci := 3) (q0 := 0) rfl rfl rfl) rfl hl.1 rfl (Nat.le_of_ble_eq_true rfl) dX3_removeRoute_18 ⟨Nat.zero_le _, Nat.zero_le _⟩) (by simpa only [List.append_assoc, List.nil_append, List.append_nil] using hP) (by simpa only [List.append_assoc, List.nil_append, List.append_nil] using hD) hS hA (fun r_18 er_2 H locs h_18 hP hD hS => ?_)
      replace hP : va_P D vwCl (mdW cI h b w past er_2 bf tk sv hs) H := by simpa only [List.append_assoc, List.nil_append, List.append_nil] using hP
      replace hD : va_D A (mdW cI h b w past er_2 bf tk sv hs) := by simpa only [List.append_assoc, List.nil_append, List.append_nil] using hD
      obtain ⟨h_18, k_18⟩ := h_18
      subst h_18
      exact hret _ (w, past, er_2, bf, tk, sv, hs) _ ls _ _ (⟨(congrArg Prod.fst hop).symm, nxM_e (e := 0) hop k_18 hsv⟩) hP hD hS dX3_removeRoute_21
  · have hop : oRr w x y = (-2, 2, w) := itc_f (fun q => h_1 q.1)
    refine n_if_eq (tgt := 15) hx hb dX3_removeRoute_4 (by decide) (by omega) (fun _ => ?_) (fun h => absurd h (by decide))
    refine lv_aload_n hx hb dX3_removeRoute_15 rfl (lv_at hl 0 rfl) ?_
    refine lv_bipush (v := (-2)) hx hb dX3_removeRoute_16 (by decide) ?_
    refine goWi (pre := []) (wc := mdW cI h b w past er bf tk sv hs) (suf := []) (kV (As := [.int (-2)]) (rest := []) F (c_X3_fails l D cI cO _ h b w past er bf tk sv hs c0 hW 0 (by decide)) ywX3_fails qw482 qw484 qs33 ⟨rfl, rfl⟩ ⟨Nat.le_of_ble_eq_true rfl, Nat.le_of_ble_eq_true rfl⟩ (preV (preW hP hC hD) hC hP (ci := 3) (q0 := 0) rfl rfl rfl) rfl hl.1 rfl (Nat.le_of_ble_eq_true rfl) dX3_removeRoute_18 ⟨Nat.zero_le _, Nat.zero_le _⟩) (by simpa only [List.append_assoc, List.nil_append, List.append_nil] using hP) (by simpa only [List.append_assoc, List.nil_append, List.append_nil] using hD) hS hA (fun r_18 er_3 H locs h_18 hP hD hS => ?_)
    replace hP : va_P D vwCl (mdW cI h b w past er_3 bf tk sv hs) H := by simpa only [List.append_assoc, List.nil_append, List.append_nil] using hP
    replace hD : va_D A (mdW cI h b w past er_3 bf tk sv hs) := by simpa only [List.append_assoc, List.nil_append, List.append_nil] using hD
    obtain ⟨h_18, k_18⟩ := h_18
    subst h_18
    exact hret _ (w, past, er_3, bf, tk, sv, hs) _ ls _ _ (⟨(congrArg Prod.fst hop).symm, nxM_e (e := 0) hop k_18 hsv⟩) hP hD hS dX3_removeRoute_21

set_option maxHeartbeats 4000000 in
set_option maxRecDepth 100000 in
theorem c_X3_queued (l : Launch) (D : va_G) (cI cO : ClassId) (sz : Nat) (h : Nat) (b : Nat → Nat) (w past er bf tk : Nat → Int32) (sv : Int32) (hs : Int64) (c0 : Nat) (hW : WF c0 w)  (n_ : Nat) (hc9 : c0 < 900) (hn_ : n_ ≤ 4) (hsv : sv = nI n_) (x y z : Int32) : Met l yX3_queued (Cond.code yX3_queued cX3_queued 5 (some .int) :: WL) ({ frames := 3, cells := 0, slots := 0, locals := 65 } : Room) (va_Pc [.ref (h), .int (x), .int (y), .int (z)] (PW D cI cO (mdW cI h b w past er bf tk sv hs) sz)) (va_Qi (fun (r : Int32) (u : MV) => r = (oQd w x y z).1 ∧ nxM n_ w past er (oQd w x y z) u) (QB D (mdW cI h b w past er bf tk sv hs) sz (fun (u : MV) => mdU cI h b u)) (va_A (mdW cI h b w past er bf tk sv hs) sz)) 0 0 (va_A (mdW cI h b w past er bf tk sv hs) sz) := by
  refine wr_int (by decide) (Nat.le_of_ble_eq_true rfl) ?_
  intro p e s m args below meth c Q ls A F hP hC hD hA hret hl
  have hx := F.1
  have hb := F.2.1
  have hml := F.2.2.1
  have hown := F.2.2.2.1
  have hts := F.2.2.2.2
  replace hl : lv_has ls 5 [(0, .ref (h)), (1, .int (x)), (2, .int (y)), (3, .int (z))] := hl
  have hS : va_S A s.heap s.heap [] := va_S.rf
  have hn4 := hW.n.2
  have hc : c0 < 1000 := by omega
  refine lv_aload_n hx hb dX3_queued_0 rfl (lv_at hl 0 rfl) ?_
  refine lv_iload_n hx hb dX3_queued_1 rfl (lv_at hl 1 rfl) ?_
  refine lv_iload_n hx hb dX3_queued_2 rfl (lv_at hl 2 rfl) ?_
  refine goR (kV (As := [.int (x), .int (y)]) (rest := []) F (c_X3_isLink l D cI cO h b w past er bf tk sv hs c0 hW (x) (y)) ywX3_isLink qw501 qw503 qs35 ⟨rfl, rfl⟩ ⟨Nat.le_of_ble_eq_true rfl, Nat.le_of_ble_eq_true rfl⟩ (preV (preR hP hC) hC hP (ci := 3) (q0 := 0) rfl rfl rfl) rfl hl.1 rfl (Nat.le_of_ble_eq_true rfl) dX3_queued_3 ⟨Nat.zero_le _, Nat.zero_le _⟩) (fun r_3 h_3 => ?_)
  rcases h_3 with ⟨rfl, h_3⟩ | ⟨rfl, h_3⟩
  · obtain ⟨i, hi, rfl, l_, hl_, rfl⟩ := id h_3
    have hi4 : i < 4 := by omega
    have hm4 := (hW.m i hi4).2
    have hpl : pl (nI i) (nI l_) = 4 * i + l_ := pl_nI (by omega) (by omega)
    have hv : (4 * i + l_) < 16 := by omega
    have hl10 := (hW.l (4 * i + l_) hv).2
    refine n_if_eq (tgt := 13) hx hb dX3_queued_6 (by decide) (by omega) (fun h => absurd h (by decide)) (fun _ => ?_)
    refine lv_iload_n hx hb dX3_queued_9 rfl (lv_at hl 3 rfl) ?_
    refine lv_if_ge (tgt := 20) hx hb dX3_queued_10 (by decide)  (fun c_10 => ?_) (fun c_10 => ?_)
    · have hop0 : oQd w (nI i) (nI l_) z = (if nI (le w (4 * i + l_)) ≤ z then -1 else nI (msg w (4 * i + l_) (nv z) / 128), 0, w) := by unfold oQd; rw [itc_t ⟨h_3, Int32.not_lt.mpr c_10⟩, hpl]
      refine lv_iconst (v := (nI (4))) hx hb dX3_queued_20 (by decide) ?_
      refine lv_iload_n hx hb dX3_queued_21 rfl (lv_at hl 1 rfl) ?_
      refine n_imul hx hb dX3_queued_22  ?_
      refine lv_iload_n hx hb dX3_queued_23 rfl (lv_at hl 2 rfl) ?_
      refine n_iadd hx hb dX3_queued_24  ?_
      refine lv_istore (lv' := [(4, .int (nI ((4 * i) + l_))), (0, .ref (h)), (1, .int (nI (i))), (2, .int (nI (l_))), (3, .int (z))]) hx hb dX3_queued_25 hl (by decide) rfl (fun ls hl => ?_)
      refine lv_iload_n hx hb dX3_queued_27 rfl (lv_at hl 4 rfl) ?_
      refine lv_aload_n hx hb dX3_queued_28 rfl (lv_at hl 1 rfl) ?_
      refine gt3 hx hb hts hown hC.1 hP 0 rfl 0 (by decide) qw456 rfl dX3_queued_29 ?_
      refine lv_bipush (v := (nI (21))) hx hb dX3_queued_32 (by decide) ?_
      refine lv_iload hx hb dX3_queued_34 (lv_at hl 0 rfl) ?_
      refine n_iadd hx hb dX3_queued_36  ?_
      refine n_iald hx hb hC.1 hP 1 0 rfl rfl (by omega) (by decide) dX3_queued_37 ?_
      refine w_cv (y := (nI (le w (4 * i + l_)))) (hW.l (4 * i + l_) hv).1 ?_
      refine lv_icmp_ge (tgt := 63) hx hb dX3_queued_38 (by decide)  (fun c_38 => ?_) (fun c_38 => ?_)
      · have hop := hop0
        rw [if_pos c_38] at hop
        refine lv_iconst (v := (-1)) hx hb dX3_queued_63 (by decide) ?_
        exact hret _ (w, past, er, bf, tk, sv, hs) _ ls _ _ (⟨(congrArg Prod.fst hop).symm, nxM_0 hop hsv⟩) hP hD hS dX3_queued_64
      · have hop := hop0
        rw [if_neg c_38] at hop
        obtain ⟨j_, hj_, rfl⟩ := okI_of (n := le w (4 * i + l_)) (by omega) (Int32.not_lt.mpr c_10) c_38
        rw [nv_nI (by omega)] at hop
        obtain ⟨b_, kk, hb0, hkk, hx_, hms⟩ := msg_ok hW hc hv (i := j_) hj_
        have hsn := hW.e.2
        refine lv_aload_n hx hb dX3_queued_41 rfl (lv_at hl 1 rfl) ?_
        refine gt3 hx hb hts hown hC.1 hP 0 rfl 0 (by decide) qw456 rfl dX3_queued_42 ?_
        refine lv_bipush (v := (nI (37))) hx hb dX3_queued_45 (by decide) ?_
        refine lv_bipush (v := (nI (10))) hx hb dX3_queued_47 (by decide) ?_
        refine lv_iload hx hb dX3_queued_49 (lv_at hl 0 rfl) ?_
        refine n_imul hx hb dX3_queued_51  ?_
        refine n_iadd hx hb dX3_queued_52  ?_
        refine lv_iload_n hx hb dX3_queued_53 rfl (lv_at hl 4 rfl) ?_
        refine n_iadd hx hb dX3_queued_54  ?_
        refine n_iald hx hb hC.1 hP 1 0 rfl rfl (by omega) (by decide) dX3_queued_55 ?_
        refine w_cv (y := (nI (msg w (4 * i + l_) j_))) (by rw [hx_, hms]) ?_
        refine lv_sipush (v := (nI (128))) hx hb dX3_queued_56 (by decide) ?_
        refine n_idiv hx hb dX3_queued_59 (by omega) (by omega) (by omega) ?_
        refine lv_goto (tgt := 64) hx hb dX3_queued_60 (by decide) ?_
        exact hret _ (w, past, er, bf, tk, sv, hs) _ ls _ _ (⟨(congrArg Prod.fst hop).symm, nxM_0 hop hsv⟩) hP hD hS dX3_queued_64
    · have hop : oQd w (nI i) (nI l_) z = (-2, 2, w) := itc_f (fun q => c_10 (Int32.not_lt.mp q.2))
      refine lv_aload_n hx hb dX3_queued_13 rfl (lv_at hl 0 rfl) ?_
      refine lv_bipush (v := (-2)) hx hb dX3_queued_14 (by decide) ?_
      refine goWi (pre := []) (wc := mdW cI h b w past er bf tk sv hs) (suf := []) (kV (As := [.int (-2)]) (rest := []) F (c_X3_fails l D cI cO _ h b w past er bf tk sv hs c0 hW 0 (by decide)) ywX3_fails qw482 qw484 qs33 ⟨rfl, rfl⟩ ⟨Nat.le_of_ble_eq_true rfl, Nat.le_of_ble_eq_true rfl⟩ (preV (preW hP hC hD) hC hP (ci := 3) (q0 := 0) rfl rfl rfl) rfl hl.1 rfl (Nat.le_of_ble_eq_true rfl) dX3_queued_16 ⟨Nat.zero_le _, Nat.zero_le _⟩) (by simpa only [List.append_assoc, List.nil_append, List.append_nil] using hP) (by simpa only [List.append_assoc, List.nil_append, List.append_nil] using hD) hS hA (fun r_16 er_1 H locs h_16 hP hD hS => ?_)
      replace hP : va_P D vwCl (mdW cI h b w past er_1 bf tk sv hs) H := by simpa only [List.append_assoc, List.nil_append, List.append_nil] using hP
      replace hD : va_D A (mdW cI h b w past er_1 bf tk sv hs) := by simpa only [List.append_assoc, List.nil_append, List.append_nil] using hD
      obtain ⟨h_16, k_16⟩ := h_16
      subst h_16
      exact hret _ (w, past, er_1, bf, tk, sv, hs) _ ls _ _ (⟨(congrArg Prod.fst hop).symm, nxM_e (e := 0) hop k_16 hsv⟩) hP hD hS dX3_queued_19
  · have hop : oQd w x y z = (-2, 2, w) := itc_f (fun q => h_3 q.1)
    refine n_if_eq (tgt := 13) hx hb dX3_queued_6 (by decide) (by omega) (fun _ => ?_) (fun h => absurd h (by decide))
    refine lv_aload_n hx hb dX3_queued_13 rfl (lv_at hl 0 rfl) ?_
    refine lv_bipush (v := (-2)) hx hb dX3_queued_14 (by decide) ?_
    refine goWi (pre := []) (wc := mdW cI h b w past er bf tk sv hs) (suf := []) (kV (As := [.int (-2)]) (rest := []) F (c_X3_fails l D cI cO _ h b w past er bf tk sv hs c0 hW 0 (by decide)) ywX3_fails qw482 qw484 qs33 ⟨rfl, rfl⟩ ⟨Nat.le_of_ble_eq_true rfl, Nat.le_of_ble_eq_true rfl⟩ (preV (preW hP hC hD) hC hP (ci := 3) (q0 := 0) rfl rfl rfl) rfl hl.1 rfl (Nat.le_of_ble_eq_true rfl) dX3_queued_16 ⟨Nat.zero_le _, Nat.zero_le _⟩) (by simpa only [List.append_assoc, List.nil_append, List.append_nil] using hP) (by simpa only [List.append_assoc, List.nil_append, List.append_nil] using hD) hS hA (fun r_16 er_2 H locs h_16 hP hD hS => ?_)
    replace hP : va_P D vwCl (mdW cI h b w past er_2 bf tk sv hs) H := by simpa only [List.append_assoc, List.nil_append, List.append_nil] using hP
    replace hD : va_D A (mdW cI h b w past er_2 bf tk sv hs) := by simpa only [List.append_assoc, List.nil_append, List.append_nil] using hD
    obtain ⟨h_16, k_16⟩ := h_16
    subst h_16
    exact hret _ (w, past, er_2, bf, tk, sv, hs) _ ls _ _ (⟨(congrArg Prod.fst hop).symm, nxM_e (e := 0) hop k_16 hsv⟩) hP hD hS dX3_queued_19
