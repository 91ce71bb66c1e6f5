set_option maxHeartbeats 4000000 in
set_option maxRecDepth 100000 in
theorem c_X3_addRoute (l : Launch) (D : va_G) (cI cO : ClassId) (sz : Nat) (h : Nat) (b : Nat → Nat) (w past er bf tk : Nat → Int32) (sv : Int32) (hs : Int64) (c0 : Nat) (hW : WF c0 w)  (n_ : Nat) (hc9 : c0 < 900) (hn_ : n_ ≤ 4) (hsv : sv = nI n_) (x y z : Int32) : Met l yX3_addRoute (Cond.code yX3_addRoute cX3_addRoute 5 (some .int) :: WL) ({ frames := 5, cells := 0, slots := 0, locals := 120 } : Room) (va_Pc [.ref (h), .int (x), .int (y), .int (z)] (PW D cI cO (mdW cI h b w past er bf tk sv hs) sz)) (va_Qi (fun (r : Int32) (u : MV) => r = (oAr w x y z).1 ∧ nxM n_ w past er (oAr w x y z) u) (QB D (mdW cI h b w past er bf tk sv hs) sz (fun (u : MV) => mdU cI h b u)) (va_A (mdW cI h b w past er bf tk sv hs) sz)) 0 0 (va_A (mdW cI h b w past er bf tk sv hs) sz) := by
  refine wr_int (by decide) (Nat.le_of_ble_eq_true rfl) ?_
  intro p e s m args below meth c Q ls A F hP hC hD hA hret hl
  have hx := F.1
  have hb := F.2.1
  have hml := F.2.2.1
  have hown := F.2.2.2.1
  have hts := F.2.2.2.2
  replace hl : lv_has ls 5 [(0, .ref (h)), (1, .int (x)), (2, .int (y)), (3, .int (z))] := hl
  have hS : va_S A s.heap s.heap [] := va_S.rf
  have hn4 := hW.n.2
  have hc : c0 < 1000 := by omega
  refine lv_iload_n hx hb dX3_addRoute_0 rfl (lv_at hl 1 rfl) ?_
  refine goR (kS (As := [.int (x)]) (rest := []) F (c_X3_isDestination l D cI cO (x)) ywX3_isDestination qw576 qw577  ⟨rfl, rfl⟩ ⟨Nat.le_of_ble_eq_true rfl, Nat.le_of_ble_eq_true rfl⟩ (preR (fun k q h => by simp at h) hC) rfl hl.1 rfl (Nat.le_of_ble_eq_true rfl) dX3_addRoute_1 ⟨Nat.zero_le _, Nat.zero_le _⟩) (fun r_1 h_1 => ?_)
  rcases h_1 with ⟨rfl, h_1⟩ | ⟨rfl, h_1⟩
  · obtain ⟨d_, hd6, rfl⟩ := id h_1
    refine n_if_eq (tgt := 24) hx hb dX3_addRoute_4 (by decide) (by omega) (fun h => absurd h (by decide)) (fun _ => ?_)
    refine lv_aload_n hx hb dX3_addRoute_7 rfl (lv_at hl 0 rfl) ?_
    refine lv_iload_n hx hb dX3_addRoute_8 rfl (lv_at hl 2 rfl) ?_
    refine goR (kV (As := [.int (y)]) (rest := []) F (c_X3_isSet l D cI cO h b w past er bf tk sv hs c0 hW (y)) ywX3_isSet qw505 qw507 qs36 ⟨rfl, rfl⟩ ⟨Nat.le_of_ble_eq_true rfl, Nat.le_of_ble_eq_true rfl⟩ (preV (preR hP hC) hC hP (ci := 3) (q0 := 0) rfl rfl rfl) rfl hl.1 rfl (Nat.le_of_ble_eq_true rfl) dX3_addRoute_9 ⟨Nat.zero_le _, Nat.zero_le _⟩) (fun r_9 h_9 => ?_)
    rcases h_9 with ⟨rfl, h_9⟩ | ⟨rfl, h_9⟩
    · obtain ⟨i, hi, rfl⟩ := id h_9
      have hi4 : i < 4 := by omega
      have hsx : sx (nI d_) (nI i) = 197 + 4 * d_ + i := sx_nI (by omega) (by omega)
      have hpx : px (nI d_) (nI i) = 221 + 4 * d_ + i := px_nI (by omega) (by omega)
      refine n_if_eq (tgt := 24) hx hb dX3_addRoute_12 (by decide) (by omega) (fun h => absurd h (by decide)) (fun _ => ?_)
      refine lv_iload_n hx hb dX3_addRoute_15 rfl (lv_at hl 3 rfl) ?_
      refine lv_iconst (v := (nI (0))) hx hb dX3_addRoute_16 (by decide) ?_
      refine lv_iconst (v := (nI (2))) hx hb dX3_addRoute_17 (by decide) ?_
      refine goR (kS (As := [.int (z), .int (nI (0)), .int (nI (2))]) (rest := []) F (c_X3_within l D cI cO (z) (nI (0)) (nI (2))) ywX3_within qw490 qw491  ⟨rfl, rfl⟩ ⟨Nat.le_of_ble_eq_true rfl, Nat.le_of_ble_eq_true rfl⟩ (preR (fun k q h => by simp at h) hC) rfl hl.1 rfl (Nat.le_of_ble_eq_true rfl) dX3_addRoute_18 ⟨Nat.zero_le _, Nat.zero_le _⟩) (fun r_18 h_18 => ?_)
      rcases h_18 with ⟨rfl, h_18⟩ | ⟨rfl, h_18⟩
      · obtain ⟨q_, -, hq2, rfl⟩ := in_ab (by decide) (id h_18) (by decide)
        refine n_if_ne (tgt := 31) hx hb dX3_addRoute_21 (by decide) (by omega) (fun _ => ?_) (fun h => absurd h (by decide))
        refine lv_iconst (v := (nI (4))) hx hb dX3_addRoute_31 (by decide) ?_
        refine lv_iload_n hx hb dX3_addRoute_32 rfl (lv_at hl 1 rfl) ?_
        refine n_imul hx hb dX3_addRoute_33  ?_
        refine lv_iload_n hx hb dX3_addRoute_34 rfl (lv_at hl 2 rfl) ?_
        refine n_iadd hx hb dX3_addRoute_35  ?_
        refine lv_istore (lv' := [(4, .int (nI ((4 * d_) + i))), (0, .ref (h)), (1, .int (nI (d_))), (2, .int (nI (i))), (3, .int (nI (q_)))]) hx hb dX3_addRoute_36 hl (by decide) rfl (fun ls hl => ?_)
        refine lv_aload_n hx hb dX3_addRoute_38 rfl (lv_at hl 1 rfl) ?_
        refine gt3 hx hb hts hown hC.1 hP 0 rfl 0 (by decide) qw456 rfl dX3_addRoute_39 ?_
        refine lv_sipush (v := (nI (197))) hx hb dX3_addRoute_42 (by decide) ?_
        refine lv_iload hx hb dX3_addRoute_45 (lv_at hl 0 rfl) ?_
        refine n_iadd hx hb dX3_addRoute_47  ?_
        refine n_iald hx hb hC.1 hP 1 0 rfl rfl (by omega) (by decide) dX3_addRoute_48 ?_
        refine w_cv (y := (w (197 + 4 * d_ + i))) (congrArg w (by omega)) ?_
        refine lv_iconst (v := (-1)) hx hb dX3_addRoute_49 (by decide) ?_
        refine lv_icmp_eq (tgt := 60) hx hb dX3_addRoute_50 (by decide)  (fun c_50 => ?_) (fun c_50 => ?_)
        · have hop : oAr w (nI d_) (nI i) (nI q_) = (nI (imp w (upd (upd w (197 + 4 * d_ + i) (nI 0)) (221 + 4 * d_ + i) (nI q_))).2, 1, (imp w (upd (upd w (197 + 4 * d_ + i) (nI 0)) (221 + 4 * d_ + i) (nI q_))).1) := by unfold oAr; rw [itc_t ⟨h_1, h_9, h_18⟩, hsx, hpx, if_pos c_50]
          refine lv_aload_n hx hb dX3_addRoute_60 rfl (lv_at hl 1 rfl) ?_
          refine goWv (pre := []) (wc := mdW cI h b w past er bf tk sv hs) (suf := []) (kV (As := []) (rest := []) F (c_X3_saves l D cI cO _ h b w past er bf tk sv hs c0 hW n_ hn_ hsv) ywX3_saves qw493 qw495 qs34 ⟨rfl, rfl⟩ ⟨Nat.le_of_ble_eq_true rfl, Nat.le_of_ble_eq_true rfl⟩ (preV (preW hP hC hD) hC hP (ci := 3) (q0 := 0) rfl rfl rfl) rfl hl.1 rfl (Nat.le_of_ble_eq_true rfl) dX3_addRoute_61 ⟨Nat.zero_le _, Nat.zero_le _⟩) (by simpa only [List.append_assoc, List.nil_append, List.append_nil] using hP) (by simpa only [List.append_assoc, List.nil_append, List.append_nil] using hD) hS hA (fun u_1 H locs h_61 hP hD hS => ?_)
          obtain ⟨past_1, sv_1⟩ := u_1
          replace hP : va_P D vwCl (mdW cI h b w past_1 er bf tk sv_1 hs) H := by simpa only [List.append_assoc, List.nil_append, List.append_nil] using hP
          replace hD : va_D A (mdW cI h b w past_1 er bf tk sv_1 hs) := by simpa only [List.append_assoc, List.nil_append, List.append_nil] using hD
          refine lv_aload_n hx hb dX3_addRoute_64 rfl (lv_at hl 1 rfl) ?_
          refine goWv (pre := []) (wc := mdW cI h b w past_1 er bf tk sv_1 hs) (suf := []) (kV (As := []) (rest := []) F (c_X3_laysBefore l D cI cO _ h b w past_1 er bf tk sv_1 hs c0 hW) ywX3_laysBefore qw536 qw538 qs42 ⟨rfl, rfl⟩ ⟨Nat.le_of_ble_eq_true rfl, Nat.le_of_ble_eq_true rfl⟩ (preV (preW hP hC hD) hC hP (ci := 3) (q0 := 0) rfl rfl rfl) rfl hl.1 rfl (Nat.le_of_ble_eq_true rfl) dX3_addRoute_65 ⟨Nat.zero_le _, Nat.zero_le _⟩) (by simpa only [List.append_assoc, List.nil_append, List.append_nil] using hP) (by simpa only [List.append_assoc, List.nil_append, List.append_nil] using hD) hS hA (fun bf_1 H locs h_65 hP hD hS => ?_)
          replace hP : va_P D vwCl (mdW cI h b w past_1 er bf_1 tk sv_1 hs) H := by simpa only [List.append_assoc, List.nil_append, List.append_nil] using hP
          replace hD : va_D A (mdW cI h b w past_1 er bf_1 tk sv_1 hs) := by simpa only [List.append_assoc, List.nil_append, List.append_nil] using hD
          refine lv_aload_n hx hb dX3_addRoute_68 rfl (lv_at hl 1 rfl) ?_
          refine gt3 hx hb hts hown hC.1 hP 0 rfl 0 (by decide) qw456 rfl dX3_addRoute_69 ?_
          refine lv_sipush (v := (nI (197))) hx hb dX3_addRoute_72 (by decide) ?_
          refine lv_iload hx hb dX3_addRoute_75 (lv_at hl 0 rfl) ?_
          refine n_iadd hx hb dX3_addRoute_77  ?_
          refine lv_iconst (v := (nI (0))) hx hb dX3_addRoute_78 (by decide) ?_
          refine n_iast hx hb hC.1 hP hD hS 1 0 rfl rfl (by omega) (by decide) dX3_addRoute_79 (fun H locs hP hD hS => ?_)
          obtain ⟨w_1, hw_1⟩ : ∃ z : Nat → Int32, z = upd w (197 + ((4 * d_) + i)) (nI (0)) := ⟨_, rfl⟩
          replace hP : va_P D vwCl (mdW cI h b w_1 past_1 er bf_1 tk sv_1 hs) H := by rw [hw_1]; exact hP
          replace hD : va_D A (mdW cI h b w_1 past_1 er bf_1 tk sv_1 hs) := by rw [hw_1]; exact hD
          refine lv_aload_n hx hb dX3_addRoute_80 rfl (lv_at hl 1 rfl) ?_
          refine gt3 hx hb hts hown hC.1 hP 0 rfl 0 (by decide) qw456 rfl dX3_addRoute_81 ?_
          refine lv_sipush (v := (nI (221))) hx hb dX3_addRoute_84 (by decide) ?_
          refine lv_iload hx hb dX3_addRoute_87 (lv_at hl 0 rfl) ?_
          refine n_iadd hx hb dX3_addRoute_89  ?_
          refine lv_iload_n hx hb dX3_addRoute_90 rfl (lv_at hl 4 rfl) ?_
          refine n_iast hx hb hC.1 hP hD hS 1 0 rfl rfl (by omega) (by decide) dX3_addRoute_91 (fun H locs hP hD hS => ?_)
          obtain ⟨w_2, hw_2⟩ : ∃ z : Nat → Int32, z = upd w_1 (221 + ((4 * d_) + i)) (nI (q_)) := ⟨_, rfl⟩
          replace hP : va_P D vwCl (mdW cI h b w_2 past_1 er bf_1 tk sv_1 hs) H := by rw [hw_2]; exact hP
          replace hD : va_D A (mdW cI h b w_2 past_1 er bf_1 tk sv_1 hs) := by rw [hw_2]; exact hD
          have hw1 : w_2 = (upd (upd w (197 + 4 * d_ + i) (nI 0)) (221 + 4 * d_ + i) (nI q_)) := by rw [hw_2, hw_1, show 197 + (4 * d_ + i) = (197 + 4 * d_ + i) by omega, show 221 + (4 * d_ + i) = (221 + 4 * d_ + i) by omega]
          have hW1 : WF c0 w_2 := by rw [hw1]; exact (RC_ar hd6 hi4 hq2 c_50 (RC_S0 hW)).wf
          refine lv_aload_n hx hb dX3_addRoute_92 rfl (lv_at hl 1 rfl) ?_
          refine goWi (pre := []) (wc := mdW cI h b w_2 past_1 er bf_1 tk sv_1 hs) (suf := []) (kV (As := []) (rest := []) F (c_X3_diverts l D cI cO _ h b w_2 past_1 er bf_1 tk sv_1 hs c0 hW1 hc) ywX3_diverts qw540 qw542 qs43 ⟨rfl, rfl⟩ ⟨Nat.le_of_ble_eq_true rfl, Nat.le_of_ble_eq_true rfl⟩ (preV (preW hP hC hD) hC hP (ci := 3) (q0 := 0) rfl rfl rfl) rfl hl.1 rfl (Nat.le_of_ble_eq_true rfl) dX3_addRoute_93 ⟨Nat.zero_le _, Nat.zero_le _⟩) (by simpa only [List.append_assoc, List.nil_append, List.append_nil] using hP) (by simpa only [List.append_assoc, List.nil_append, List.append_nil] using hD) hS hA (fun r_93 w_3 H locs h_93 hP hD hS => ?_)
          replace hP : va_P D vwCl (mdW cI h b w_3 past_1 er bf_1 tk sv_1 hs) H := by simpa only [List.append_assoc, List.nil_append, List.append_nil] using hP
          replace hD : va_D A (mdW cI h b w_3 past_1 er bf_1 tk sv_1 hs) := by simpa only [List.append_assoc, List.nil_append, List.append_nil] using hD
          obtain ⟨h_93, k_93⟩ := h_93
          subst h_93
          exact hret _ (w_3, past_1, er, bf_1, tk, sv_1, hs) _ ls _ _ (have him : dvN w_2 bf_1 96 = imp w (upd (upd w (197 + 4 * d_ + i) (nI 0)) (221 + 4 * d_ + i) (nI q_)) := (by rw [hw1]; exact imp_of h_65); ⟨by rw [him, hop], nxM_1 hop (by rw [k_93, him]) h_61⟩) hP hD hS dX3_addRoute_96
        · have hop : oAr w (nI d_) (nI i) (nI q_) = (-3, 3, w) := by unfold oAr; rw [itc_t ⟨h_1, h_9, h_18⟩, hsx, if_neg c_50]; rfl
          refine lv_aload_n hx hb dX3_addRoute_53 rfl (lv_at hl 1 rfl) ?_
          refine lv_bipush (v := (-3)) hx hb dX3_addRoute_54 (by decide) ?_
          refine goWi (pre := []) (wc := mdW cI h b w past er bf tk sv hs) (suf := []) (kV (As := [.int (-3)]) (rest := []) F (c_X3_fails l D cI cO _ h b w past er bf tk sv hs c0 hW 1 (by decide)) ywX3_fails qw482 qw484 qs33 ⟨rfl, rfl⟩ ⟨Nat.le_of_ble_eq_true rfl, Nat.le_of_ble_eq_true rfl⟩ (preV (preW hP hC hD) hC hP (ci := 3) (q0 := 0) rfl rfl rfl) rfl hl.1 rfl (Nat.le_of_ble_eq_true rfl) dX3_addRoute_56 ⟨Nat.zero_le _, Nat.zero_le _⟩) (by simpa only [List.append_assoc, List.nil_append, List.append_nil] using hP) (by simpa only [List.append_assoc, List.nil_append, List.append_nil] using hD) hS hA (fun r_56 er_1 H locs h_56 hP hD hS => ?_)
          replace hP : va_P D vwCl (mdW cI h b w past er_1 bf tk sv hs) H := by simpa only [List.append_assoc, List.nil_append, List.append_nil] using hP
          replace hD : va_D A (mdW cI h b w past er_1 bf tk sv hs) := by simpa only [List.append_assoc, List.nil_append, List.append_nil] using hD
          obtain ⟨h_56, k_56⟩ := h_56
          subst h_56
          exact hret _ (w, past, er_1, bf, tk, sv, hs) _ ls _ _ (⟨(congrArg Prod.fst hop).symm, nxM_e (e := 1) hop k_56 hsv⟩) hP hD hS dX3_addRoute_59
      · have hop : oAr w (nI d_) (nI i) z = (-2, 2, w) := itc_f (fun q => h_18 q.2.2)
        refine n_if_ne (tgt := 31) hx hb dX3_addRoute_21 (by decide) (by omega) (fun h => absurd h (by decide)) (fun _ => ?_)
        refine lv_aload_n hx hb dX3_addRoute_24 rfl (lv_at hl 0 rfl) ?_
        refine lv_bipush (v := (-2)) hx hb dX3_addRoute_25 (by decide) ?_
        refine goWi (pre := []) (wc := mdW cI h b w past er bf tk sv hs) (suf := []) (kV (As := [.int (-2)]) (rest := []) F (c_X3_fails l D cI cO _ h b w past er bf tk sv hs c0 hW 0 (by decide)) ywX3_fails qw482 qw484 qs33 ⟨rfl, rfl⟩ ⟨Nat.le_of_ble_eq_true rfl, Nat.le_of_ble_eq_true rfl⟩ (preV (preW hP hC hD) hC hP (ci := 3) (q0 := 0) rfl rfl rfl) rfl hl.1 rfl (Nat.le_of_ble_eq_true rfl) dX3_addRoute_27 ⟨Nat.zero_le _, Nat.zero_le _⟩) (by simpa only [List.append_assoc, List.nil_append, List.append_nil] using hP) (by simpa only [List.append_assoc, List.nil_append, List.append_nil] using hD) hS hA (fun r_27 er_2 H locs h_27 hP hD hS => ?_)
        replace hP : va_P D vwCl (mdW cI h b w past er_2 bf tk sv hs) H := by simpa only [List.append_assoc, List.nil_append, List.append_nil] using hP
        replace hD : va_D A (mdW cI h b w past er_2 bf tk sv hs) := by simpa only [List.append_assoc, List.nil_append, List.append_nil] using hD
        obtain ⟨h_27, k_27⟩ := h_27
        subst h_27
        exact hret _ (w, past, er_2, bf, tk, sv, hs) _ ls _ _ (⟨(congrArg Prod.fst hop).symm, nxM_e (e := 0) hop k_27 hsv⟩) hP hD hS dX3_addRoute_30
    · have hop : oAr w (nI d_) y z = (-2, 2, w) := itc_f (fun q => h_9 q.2.1)
      refine n_if_eq (tgt := 24) hx hb dX3_addRoute_12 (by decide) (by omega) (fun _ => ?_) (fun h => absurd h (by decide))
      refine lv_aload_n hx hb dX3_addRoute_24 rfl (lv_at hl 0 rfl) ?_
      refine lv_bipush (v := (-2)) hx hb dX3_addRoute_25 (by decide) ?_
      refine goWi (pre := []) (wc := mdW cI h b w past er bf tk sv hs) (suf := []) (kV (As := [.int (-2)]) (rest := []) F (c_X3_fails l D cI cO _ h b w past er bf tk sv hs c0 hW 0 (by decide)) ywX3_fails qw482 qw484 qs33 ⟨rfl, rfl⟩ ⟨Nat.le_of_ble_eq_true rfl, Nat.le_of_ble_eq_true rfl⟩ (preV (preW hP hC hD) hC hP (ci := 3) (q0 := 0) rfl rfl rfl) rfl hl.1 rfl (Nat.le_of_ble_eq_true rfl) dX3_addRoute_27 ⟨Nat.zero_le _, Nat.zero_le _⟩) (by simpa only [List.append_assoc, List.nil_append, List.append_nil] using hP) (by simpa only [List.append_assoc, List.nil_append, List.append_nil] using hD) hS hA (fun r_27 er_3 H locs h_27 hP hD hS => ?_)
      replace hP : va_P D vwCl (mdW cI h b w past er_3 bf tk sv hs) H := by simpa only [List.append_assoc, List.nil_append, List.append_nil] using hP
      replace hD : va_D A (mdW cI h b w past er_3 bf tk sv hs) := by simpa only [List.append_assoc, List.nil_append, List.append_nil] using hD
      obtain ⟨h_27, k_27⟩ := h_27
      subst h_27
      exact hret _ (w, past, er_3, bf, tk, sv, hs) _ ls _ _ (⟨(congrArg Prod.fst hop).symm, nxM_e (e := 0) hop k_27 hsv⟩) hP hD hS dX3_addRoute_30
  · have hop : oAr w x y z = (-2, 2, w) := itc_f (fun q => h_1 q.1)
    refine n_if_eq (tgt := 24) hx hb dX3_addRoute_4 (by decide) (by omega) (fun _ => ?_) (fun h => absurd h (by decide))
    refine lv_aload_n hx hb dX3_addRoute_24 rfl (lv_at hl 0 rfl) ?_
    refine lv_bipush (v := (-2)) hx hb dX3_addRoute_25 (by decide) ?_
    refine goWi (pre := []) (wc := mdW cI h b w past er bf tk sv hs) (suf := []) (kV (As := [.int (-2)]) (rest := []) F (c_X3_fails l D cI cO _ h b w past er bf tk sv hs c0 hW 0 (by decide)) ywX3_fails qw482 qw484 qs33 ⟨rfl, rfl⟩ ⟨Nat.le_of_ble_eq_true rfl, Nat.le_of_ble_eq_true rfl⟩ (preV (preW hP hC hD) hC hP (ci := 3) (q0 := 0) rfl rfl rfl) rfl hl.1 rfl (Nat.le_of_ble_eq_true rfl) dX3_addRoute_27 ⟨Nat.zero_le _, Nat.zero_le _⟩) (by simpa only [List.append_assoc, List.nil_append, List.append_nil] using hP) (by simpa only [List.append_assoc, List.nil_append, List.append_nil] using hD) hS hA (fun r_27 er_4 H locs h_27 hP hD hS => ?_)
    replace hP : va_P D vwCl (mdW cI h b w past er_4 bf tk sv hs) H := by simpa only [List.append_assoc, List.nil_append, List.append_nil] using hP
    replace hD : va_D A (mdW cI h b w past er_4 bf tk sv hs) := by simpa only [List.append_assoc, List.nil_append, List.append_nil] using hD
    obtain ⟨h_27, k_27⟩ := h_27
    subst h_27
    exact hret _ (w, past, er_4, bf, tk, sv, hs) _ ls _ _ (⟨(congrArg Prod.fst hop).symm, nxM_e (e := 0) hop k_27 hsv⟩) hP hD hS dX3_addRoute_30

set_option maxHeartbeats 4000000 in
set_option maxRecDepth 100000 in
theorem c_X3_setRouteState (l : Launch) (D : va_G) (cI cO : ClassId) (sz : Nat) (h : Nat) (b : Nat → Nat) (w past er bf tk : Nat → Int32) (sv : Int32) (hs : Int64) (c0 : Nat) (hW : WF c0 w)  (n_ : Nat) (hc9 : c0 < 900) (hn_ : n_ ≤ 4) (hsv : sv = nI n_) (x y z : Int32) : Met l yX3_setRouteState (Cond.code yX3_setRouteState cX3_setRouteState 6 (some .int) :: WL) ({ frames := 5, cells := 0, slots := 0, locals := 120 } : Room) (va_Pc [.ref (h), .int (x), .int (y), .int (z)] (PW D cI cO (mdW cI h b w past er bf tk sv hs) sz)) (va_Qi (fun (r : Int32) (u : MV) => r = (oSr w x y z).1 ∧ nxM n_ w past er (oSr w x y z) u) (QB D (mdW cI h b w past er bf tk sv hs) sz (fun (u : MV) => mdU cI h b u)) (va_A (mdW cI h b w past er bf tk sv hs) sz)) 0 0 (va_A (mdW cI h b w past er bf tk sv hs) sz) := by
  refine wr_int (by decide) (Nat.le_of_ble_eq_true rfl) ?_
  intro p e s m args below meth c Q ls A F hP hC hD hA hret hl
  have hx := F.1
  have hb := F.2.1
  have hml := F.2.2.1
  have hown := F.2.2.2.1
  have hts := F.2.2.2.2
  replace hl : lv_has ls 6 [(0, .ref (h)), (1, .int (x)), (2, .int (y)), (3, .int (z))] := hl
  have hS : va_S A s.heap s.heap [] := va_S.rf
  have hn4 := hW.n.2
  have hc : c0 < 1000 := by omega
  refine lv_iload_n hx hb dX3_setRouteState_0 rfl (lv_at hl 1 rfl) ?_
  refine goR (kS (As := [.int (x)]) (rest := []) F (c_X3_isDestination l D cI cO (x)) ywX3_isDestination qw576 qw577  ⟨rfl, rfl⟩ ⟨Nat.le_of_ble_eq_true rfl, Nat.le_of_ble_eq_true rfl⟩ (preR (fun k q h => by simp at h) hC) rfl hl.1 rfl (Nat.le_of_ble_eq_true rfl) dX3_setRouteState_1 ⟨Nat.zero_le _, Nat.zero_le _⟩) (fun r_1 h_1 => ?_)
  rcases h_1 with ⟨rfl, h_1⟩ | ⟨rfl, h_1⟩
  · obtain ⟨d_, hd6, rfl⟩ := id h_1
    refine n_if_eq (tgt := 24) hx hb dX3_setRouteState_4 (by decide) (by omega) (fun h => absurd h (by decide)) (fun _ => ?_)
    refine lv_aload_n hx hb dX3_setRouteState_7 rfl (lv_at hl 0 rfl) ?_
    refine lv_iload_n hx hb dX3_setRouteState_8 rfl (lv_at hl 2 rfl) ?_
    refine goR (kV (As := [.int (y)]) (rest := []) F (c_X3_isSet l D cI cO h b w past er bf tk sv hs c0 hW (y)) ywX3_isSet qw505 qw507 qs36 ⟨rfl, rfl⟩ ⟨Nat.le_of_ble_eq_true rfl, Nat.le_of_ble_eq_true rfl⟩ (preV (preR hP hC) hC hP (ci := 3) (q0 := 0) rfl rfl rfl) rfl hl.1 rfl (Nat.le_of_ble_eq_true rfl) dX3_setRouteState_9 ⟨Nat.zero_le _, Nat.zero_le _⟩) (fun r_9 h_9 => ?_)
    rcases h_9 with ⟨rfl, h_9⟩ | ⟨rfl, h_9⟩
    · obtain ⟨i, hi, rfl⟩ := id h_9
      have hi4 : i < 4 := by omega
      have hsx : sx (nI d_) (nI i) = 197 + 4 * d_ + i := sx_nI (by omega) (by omega)
      have hpx : px (nI d_) (nI i) = 221 + 4 * d_ + i := px_nI (by omega) (by omega)
      refine n_if_eq (tgt := 24) hx hb dX3_setRouteState_12 (by decide) (by omega) (fun h => absurd h (by decide)) (fun _ => ?_)
      refine lv_iload_n hx hb dX3_setRouteState_15 rfl (lv_at hl 3 rfl) ?_
      refine lv_iconst (v := (nI (0))) hx hb dX3_setRouteState_16 (by decide) ?_
      refine lv_iconst (v := (nI (2))) hx hb dX3_setRouteState_17 (by decide) ?_
      refine goR (kS (As := [.int (z), .int (nI (0)), .int (nI (2))]) (rest := []) F (c_X3_within l D cI cO (z) (nI (0)) (nI (2))) ywX3_within qw490 qw491  ⟨rfl, rfl⟩ ⟨Nat.le_of_ble_eq_true rfl, Nat.le_of_ble_eq_true rfl⟩ (preR (fun k q h => by simp at h) hC) rfl hl.1 rfl (Nat.le_of_ble_eq_true rfl) dX3_setRouteState_18 ⟨Nat.zero_le _, Nat.zero_le _⟩) (fun r_18 h_18 => ?_)
      rcases h_18 with ⟨rfl, h_18⟩ | ⟨rfl, h_18⟩
      · obtain ⟨q_, -, hq2, rfl⟩ := in_ab (by decide) (id h_18) (by decide)
        refine n_if_ne (tgt := 31) hx hb dX3_setRouteState_21 (by decide) (by omega) (fun _ => ?_) (fun h => absurd h (by decide))
        refine lv_iconst (v := (nI (4))) hx hb dX3_setRouteState_31 (by decide) ?_
        refine lv_iload_n hx hb dX3_setRouteState_32 rfl (lv_at hl 1 rfl) ?_
        refine n_imul hx hb dX3_setRouteState_33  ?_
        refine lv_iload_n hx hb dX3_setRouteState_34 rfl (lv_at hl 2 rfl) ?_
        refine n_iadd hx hb dX3_setRouteState_35  ?_
        refine lv_istore (lv' := [(4, .int (nI ((4 * d_) + i))), (0, .ref (h)), (1, .int (nI (d_))), (2, .int (nI (i))), (3, .int (nI (q_)))]) hx hb dX3_setRouteState_36 hl (by decide) rfl (fun ls hl => ?_)
        refine lv_aload_n hx hb dX3_setRouteState_38 rfl (lv_at hl 1 rfl) ?_
        refine gt3 hx hb hts hown hC.1 hP 0 rfl 0 (by decide) qw456 rfl dX3_setRouteState_39 ?_
        refine lv_sipush (v := (nI (197))) hx hb dX3_setRouteState_42 (by decide) ?_
        refine lv_iload hx hb dX3_setRouteState_45 (lv_at hl 0 rfl) ?_
        refine n_iadd hx hb dX3_setRouteState_47  ?_
        refine n_iald hx hb hC.1 hP 1 0 rfl rfl (by omega) (by decide) dX3_setRouteState_48 ?_
        refine w_cv (y := (w (197 + 4 * d_ + i))) (congrArg w (by omega)) ?_
        refine lv_istore (lv' := [(5, .int (w (197 + 4 * d_ + i))), (4, .int (nI ((4 * d_) + i))), (0, .ref (h)), (1, .int (nI (d_))), (2, .int (nI (i))), (3, .int (nI (q_)))]) hx hb dX3_setRouteState_49 hl (by decide) rfl (fun ls hl => ?_)
        refine lv_iload hx hb dX3_setRouteState_51 (lv_at hl 0 rfl) ?_
        refine lv_iconst (v := (-1)) hx hb dX3_setRouteState_53 (by decide) ?_
        refine lv_icmp_ne (tgt := 64) hx hb dX3_setRouteState_54 (by decide)  (fun c_54 => ?_) (fun c_54 => ?_)
        · have hop0 : oSr w (nI d_) (nI i) (nI q_) = (w (197 + 4 * d_ + i), 1, if nI q_ < w (197 + 4 * d_ + i) then (imp w (upd w (197 + 4 * d_ + i) (nI q_))).1 else (upd w (197 + 4 * d_ + i) (nI q_))) := by unfold oSr; rw [itc_t ⟨h_1, h_9, h_18⟩, hsx, if_neg c_54]
          refine lv_aload_n hx hb dX3_setRouteState_64 rfl (lv_at hl 2 rfl) ?_
          refine goWv (pre := []) (wc := mdW cI h b w past er bf tk sv hs) (suf := []) (kV (As := []) (rest := []) F (c_X3_saves l D cI cO _ h b w past er bf tk sv hs c0 hW n_ hn_ hsv) ywX3_saves qw493 qw495 qs34 ⟨rfl, rfl⟩ ⟨Nat.le_of_ble_eq_true rfl, Nat.le_of_ble_eq_true rfl⟩ (preV (preW hP hC hD) hC hP (ci := 3) (q0 := 0) rfl rfl rfl) rfl hl.1 rfl (Nat.le_of_ble_eq_true rfl) dX3_setRouteState_65 ⟨Nat.zero_le _, Nat.zero_le _⟩) (by simpa only [List.append_assoc, List.nil_append, List.append_nil] using hP) (by simpa only [List.append_assoc, List.nil_append, List.append_nil] using hD) hS hA (fun u_1 H locs h_65 hP hD hS => ?_)
          obtain ⟨past_1, sv_1⟩ := u_1
          replace hP : va_P D vwCl (mdW cI h b w past_1 er bf tk sv_1 hs) H := by simpa only [List.append_assoc, List.nil_append, List.append_nil] using hP
          replace hD : va_D A (mdW cI h b w past_1 er bf tk sv_1 hs) := by simpa only [List.append_assoc, List.nil_append, List.append_nil] using hD
          refine lv_aload_n hx hb dX3_setRouteState_68 rfl (lv_at hl 2 rfl) ?_
          refine goWv (pre := []) (wc := mdW cI h b w past_1 er bf tk sv_1 hs) (suf := []) (kV (As := []) (rest := []) F (c_X3_laysBefore l D cI cO _ h b w past_1 er bf tk sv_1 hs c0 hW) ywX3_laysBefore qw536 qw538 qs42 ⟨rfl, rfl⟩ ⟨Nat.le_of_ble_eq_true rfl, Nat.le_of_ble_eq_true rfl⟩ (preV (preW hP hC hD) hC hP (ci := 3) (q0 := 0) rfl rfl rfl) rfl hl.1 rfl (Nat.le_of_ble_eq_true rfl) dX3_setRouteState_69 ⟨Nat.zero_le _, Nat.zero_le _⟩) (by simpa only [List.append_assoc, List.nil_append, List.append_nil] using hP) (by simpa only [List.append_assoc, List.nil_append, List.append_nil] using hD) hS hA (fun bf_1 H locs h_69 hP hD hS => ?_)
          replace hP : va_P D vwCl (mdW cI h b w past_1 er bf_1 tk sv_1 hs) H := by simpa only [List.append_assoc, List.nil_append, List.append_nil] using hP
          replace hD : va_D A (mdW cI h b w past_1 er bf_1 tk sv_1 hs) := by simpa only [List.append_assoc, List.nil_append, List.append_nil] using hD
          refine lv_aload_n hx hb dX3_setRouteState_72 rfl (lv_at hl 2 rfl) ?_
          refine gt3 hx hb hts hown hC.1 hP 0 rfl 0 (by decide) qw456 rfl dX3_setRouteState_73 ?_
          refine lv_sipush (v := (nI (197))) hx hb dX3_setRouteState_76 (by decide) ?_
          refine lv_iload hx hb dX3_setRouteState_79 (lv_at hl 1 rfl) ?_
          refine n_iadd hx hb dX3_setRouteState_81  ?_
          refine lv_iload_n hx hb dX3_setRouteState_82 rfl (lv_at hl 5 rfl) ?_
          refine n_iast hx hb hC.1 hP hD hS 1 0 rfl rfl (by omega) (by decide) dX3_setRouteState_83 (fun H locs hP hD hS => ?_)
          obtain ⟨w_1, hw_1⟩ : ∃ z : Nat → Int32, z = upd w (197 + ((4 * d_) + i)) (nI (q_)) := ⟨_, rfl⟩
          replace hP : va_P D vwCl (mdW cI h b w_1 past_1 er bf_1 tk sv_1 hs) H := by rw [hw_1]; exact hP
          replace hD : va_D A (mdW cI h b w_1 past_1 er bf_1 tk sv_1 hs) := by rw [hw_1]; exact hD
          have hw1 : w_1 = (upd w (197 + 4 * d_ + i) (nI q_)) := by rw [hw_1, show 197 + (4 * d_ + i) = (197 + 4 * d_ + i) by omega]
          have hW1 : WF c0 w_1 := by rw [hw1]; exact (RC_rst hd6 hi4 (by rcases (show q_ = 0 ∨ q_ = 1 ∨ q_ = 2 by omega) with rfl | rfl | rfl; exact Or.inr (Or.inl rfl); exact Or.inr (Or.inr (Or.inl rfl)); exact Or.inr (Or.inr (Or.inr rfl))) (fun _ => hW.p d_ hd6 i hi4 c_54) (RC_S0 hW)).wf
          refine lv_iload_n hx hb dX3_setRouteState_84 rfl (lv_at hl 5 rfl) ?_
          refine lv_iload hx hb dX3_setRouteState_85 (lv_at hl 0 rfl) ?_
          refine lv_icmp_ge (tgt := 95) hx hb dX3_setRouteState_87 (by decide)  (fun c_87 => ?_) (fun c_87 => ?_)
          · have hop := hop0
            rw [if_neg (Int32.not_lt.mpr c_87)] at hop
            refine lv_iload hx hb dX3_setRouteState_95 (lv_at hl 0 rfl) ?_
            exact hret _ (w_1, past_1, er, bf_1, tk, sv_1, hs) _ ls _ _ (⟨(congrArg Prod.fst hop).symm, nxM_1 hop (hw1) h_65⟩) hP hD hS dX3_setRouteState_97
          · have hop := hop0
            rw [if_pos (Int32.not_le.mp c_87)] at hop
            refine lv_aload_n hx hb dX3_setRouteState_90 rfl (lv_at hl 2 rfl) ?_
            refine goWi (pre := []) (wc := mdW cI h b w_1 past_1 er bf_1 tk sv_1 hs) (suf := []) (kV (As := []) (rest := []) F (c_X3_diverts l D cI cO _ h b w_1 past_1 er bf_1 tk sv_1 hs c0 hW1 hc) ywX3_diverts qw540 qw542 qs43 ⟨rfl, rfl⟩ ⟨Nat.le_of_ble_eq_true rfl, Nat.le_of_ble_eq_true rfl⟩ (preV (preW hP hC hD) hC hP (ci := 3) (q0 := 0) rfl rfl rfl) rfl hl.1 rfl (Nat.le_of_ble_eq_true rfl) dX3_setRouteState_91 ⟨Nat.zero_le _, Nat.zero_le _⟩) (by simpa only [List.append_assoc, List.nil_append, List.append_nil] using hP) (by simpa only [List.append_assoc, List.nil_append, List.append_nil] using hD) hS hA (fun r_91 w_2 H locs h_91 hP hD hS => ?_)
            replace hP : va_P D vwCl (mdW cI h b w_2 past_1 er bf_1 tk sv_1 hs) H := by simpa only [List.append_assoc, List.nil_append, List.append_nil] using hP
            replace hD : va_D A (mdW cI h b w_2 past_1 er bf_1 tk sv_1 hs) := by simpa only [List.append_assoc, List.nil_append, List.append_nil] using hD
            obtain ⟨h_91, k_91⟩ := h_91
            subst h_91
            refine lv_pop hx hb dX3_setRouteState_94 rfl ?_
            refine lv_iload hx hb dX3_setRouteState_95 (lv_at hl 0 rfl) ?_
            exact hret _ (w_2, past_1, er, bf_1, tk, sv_1, hs) _ ls _ _ (⟨(congrArg Prod.fst hop).symm, nxM_1 hop (by rw [k_91, hw1, imp_of h_69]) h_65⟩) hP hD hS dX3_setRouteState_97
        · have hop : oSr w (nI d_) (nI i) (nI q_) = (-3, 3, w) := by unfold oSr; rw [itc_t ⟨h_1, h_9, h_18⟩, hsx, if_pos c_54]; rfl
          refine lv_aload_n hx hb dX3_setRouteState_57 rfl (lv_at hl 2 rfl) ?_
          refine lv_bipush (v := (-3)) hx hb dX3_setRouteState_58 (by decide) ?_
          refine goWi (pre := []) (wc := mdW cI h b w past er bf tk sv hs) (suf := []) (kV (As := [.int (-3)]) (rest := []) F (c_X3_fails l D cI cO _ h b w past er bf tk sv hs c0 hW 1 (by decide)) ywX3_fails qw482 qw484 qs33 ⟨rfl, rfl⟩ ⟨Nat.le_of_ble_eq_true rfl, Nat.le_of_ble_eq_true rfl⟩ (preV (preW hP hC hD) hC hP (ci := 3) (q0 := 0) rfl rfl rfl) rfl hl.1 rfl (Nat.le_of_ble_eq_true rfl) dX3_setRouteState_60 ⟨Nat.zero_le _, Nat.zero_le _⟩) (by simpa only [List.append_assoc, List.nil_append, List.append_nil] using hP) (by simpa only [List.append_assoc, List.nil_append, List.append_nil] using hD) hS hA (fun r_60 er_1 H locs h_60 hP hD hS => ?_)
          replace hP : va_P D vwCl (mdW cI h b w past er_1 bf tk sv hs) H := by simpa only [List.append_assoc, List.nil_append, List.append_nil] using hP
          replace hD : va_D A (mdW cI h b w past er_1 bf tk sv hs) := by simpa only [List.append_assoc, List.nil_append, List.append_nil] using hD
          obtain ⟨h_60, k_60⟩ := h_60
          subst h_60
          exact hret _ (w, past, er_1, bf, tk, sv, hs) _ ls _ _ (⟨(congrArg Prod.fst hop).symm, nxM_e (e := 1) hop k_60 hsv⟩) hP hD hS dX3_setRouteState_63
      · have hop : oSr w (nI d_) (nI i) z = (-2, 2, w) := itc_f (fun q => h_18 q.2.2)
        refine n_if_ne (tgt := 31) hx hb dX3_setRouteState_21 (by decide) (by omega) (fun h => absurd h (by decide)) (fun _ => ?_)
        refine lv_aload_n hx hb dX3_setRouteState_24 rfl (lv_at hl 0 rfl) ?_
        refine lv_bipush (v := (-2)) hx hb dX3_setRouteState_25 (by decide) ?_
        refine goWi (pre := []) (wc := mdW cI h b w past er bf tk sv hs) (suf := []) (kV (As := [.int (-2)]) (rest := []) F (c_X3_fails l D cI cO _ h b w past er bf tk sv hs c0 hW 0 (by decide)) ywX3_fails qw482 qw484 qs33 ⟨rfl, rfl⟩ ⟨Nat.le_of_ble_eq_true rfl, Nat.le_of_ble_eq_true rfl⟩ (preV (preW hP hC hD) hC hP (ci := 3) (q0 := 0) rfl rfl rfl) rfl hl.1 rfl (Nat.le_of_ble_eq_true rfl) dX3_setRouteState_27 ⟨Nat.zero_le _, Nat.zero_le _⟩) (by simpa only [List.append_assoc, List.nil_append, List.append_nil] using hP) (by simpa only [List.append_assoc, List.nil_append, List.append_nil] using hD) hS hA (fun r_27 er_2 H locs h_27 hP hD hS => ?_)
        replace hP : va_P D vwCl (mdW cI h b w past er_2 bf tk sv hs) H := by simpa only [List.append_assoc, List.nil_append, List.append_nil] using hP
        replace hD : va_D A (mdW cI h b w past er_2 bf tk sv hs) := by simpa only [List.append_assoc, List.nil_append, List.append_nil] using hD
        obtain ⟨h_27, k_27⟩ := h_27
        subst h_27
        exact hret _ (w, past, er_2, bf, tk, sv, hs) _ ls _ _ (⟨(congrArg Prod.fst hop).symm, nxM_e (e := 0) hop k_27 hsv⟩) hP hD hS dX3_setRouteState_30
    · have hop : oSr w (nI d_) y z = (-2, 2, w) := itc_f (fun q => h_9 q.2.1)
      refine n_if_eq (tgt := 24) hx hb dX3_setRouteState_12 (by decide) (by omega) (fun _ => ?_) (fun h => absurd h (by decide))
      refine lv_aload_n hx hb dX3_setRouteState_24 rfl (lv_at hl 0 rfl) ?_
      refine lv_bipush (v := (-2)) hx hb dX3_setRouteState_25 (by decide) ?_
      refine goWi (pre := []) (wc := mdW cI h b w past er bf tk sv hs) (suf := []) (kV (As := [.int (-2)]) (rest := []) F (c_X3_fails l D cI cO _ h b w past er bf tk sv hs c0 hW 0 (by decide)) ywX3_fails qw482 qw484 qs33 ⟨rfl, rfl⟩ ⟨Nat.le_of_ble_eq_true rfl, Nat.le_of_ble_eq_true rfl⟩ (preV (preW hP hC hD) hC hP (ci := 3) (q0 := 0) rfl rfl rfl) rfl hl.1 rfl (Nat.le_of_ble_eq_true rfl) dX3_setRouteState_27 ⟨Nat.zero_le _, Nat.zero_le _⟩) (by simpa only [List.append_assoc, List.nil_append, List.append_nil] using hP) (by simpa only [List.append_assoc, List.nil_append, List.append_nil] using hD) hS hA (fun r_27 er_3 H locs h_27 hP hD hS => ?_)
      replace hP : va_P D vwCl (mdW cI h b w past er_3 bf tk sv hs) H := by simpa only [List.append_assoc, List.nil_append, List.append_nil] using hP
      replace hD : va_D A (mdW cI h b w past er_3 bf tk sv hs) := by simpa only [List.append_assoc, List.nil_append, List.append_nil] using hD
      obtain ⟨h_27, k_27⟩ := h_27
      subst h_27
      exact hret _ (w, past, er_3, bf, tk, sv, hs) _ ls _ _ (⟨(congrArg Prod.fst hop).symm, nxM_e (e := 0) hop k_27 hsv⟩) hP hD hS dX3_setRouteState_30
  · have hop : oSr w x y z = (-2, 2, w) := itc_f (fun q => h_1 q.1)
    refine n_if_eq (tgt := 24) hx hb dX3_setRouteState_4 (by decide) (by omega) (fun _ => ?_) (fun h => absurd h (by decide))
    refine lv_aload_n hx hb dX3_setRouteState_24 rfl (lv_at hl 0 rfl) ?_
    refine lv_bipush (v := (-2)) hx hb dX3_setRouteState_25 (by decide) ?_
    refine goWi (pre := []) (wc := mdW cI h b w past er bf tk sv hs) (suf := []) (kV (As := [.int (-2)]) (rest := []) F (c_X3_fails l D cI cO _ h b w past er bf tk sv hs c0 hW 0 (by decide)) ywX3_fails qw482 qw484 qs33 ⟨rfl, rfl⟩ ⟨Nat.le_of_ble_eq_true rfl, Nat.le_of_ble_eq_true rfl⟩ (preV (preW hP hC hD) hC hP (ci := 3) (q0 := 0) rfl rfl rfl) rfl hl.1 rfl (Nat.le_of_ble_eq_true rfl) dX3_setRouteState_27 ⟨Nat.zero_le _, Nat.zero_le _⟩) (by simpa only [List.append_assoc, List.nil_append, List.append_nil] using hP) (by simpa only [List.append_assoc, List.nil_append, List.append_nil] using hD) hS hA (fun r_27 er_4 H locs h_27 hP hD hS => ?_)
    replace hP : va_P D vwCl (mdW cI h b w past er_4 bf tk sv hs) H := by simpa only [List.append_assoc, List.nil_append, List.append_nil] using hP
    replace hD : va_D A (mdW cI h b w past er_4 bf tk sv hs) := by simpa only [List.append_assoc, List.nil_append, List.append_nil] using hD
    obtain ⟨h_27, k_27⟩ := h_27
    subst h_27
    exact hret _ (w, past, er_4, bf, tk, sv, hs) _ ls _ _ (⟨(congrArg Prod.fst hop).symm, nxM_e (e := 0) hop k_27 hsv⟩) hP hD hS dX3_setRouteState_30

set_option maxHeartbeats 4000000 in
set_option maxRecDepth 100000 in
theorem c_X3_send (l : Launch) (D : va_G) (cI cO : ClassId) (sz : Nat) (h : Nat) (b : Nat → Nat) (w past er bf tk : Nat → Int32) (sv : Int32) (hs : Int64) (c0 : Nat) (hW : WF c0 w)  (n_ : Nat) (hc9 : c0 < 900) (hn_ : n_ ≤ 4) (hsv : sv = nI n_) (x y z : Int32) : Met l yX3_send (Cond.code yX3_send cX3_send 6 (some .int) :: WL) ({ frames := 5, cells := 0, slots := 0, locals := 120 } : Room) (va_Pc [.ref (h), .int (x), .int (y), .int (z)] (PW D cI cO (mdW cI h b w past er bf tk sv hs) sz)) (va_Qi (fun (r : Int32) (u : MV) => r = (oSnd w x y z).1 ∧ nxM n_ w past er (oSnd w x y z) u) (QB D (mdW cI h b w past er bf tk sv hs) sz (fun (u : MV) => mdU cI h b u)) (va_A (mdW cI h b w past er bf tk sv hs) sz)) 0 0 (va_A (mdW cI h b w past er bf tk sv hs) sz) := by
  refine wr_int (by decide) (Nat.le_of_ble_eq_true rfl) ?_
  intro p e s m args below meth c Q ls A F hP hC hD hA hret hl
  have hx := F.1
  have hb := F.2.1
  have hml := F.2.2.1
  have hown := F.2.2.2.1
  have hts := F.2.2.2.2
  replace hl : lv_has ls 6 [(0, .ref (h)), (1, .int (x)), (2, .int (y)), (3, .int (z))] := hl
  have hS : va_S A s.heap s.heap [] := va_S.rf
  have hn4 := hW.n.2
  have hc : c0 < 1000 := by omega
  refine lv_iload_n hx hb dX3_send_0 rfl (lv_at hl 1 rfl) ?_
  refine lv_iload_n hx hb dX3_send_1 rfl (lv_at hl 2 rfl) ?_
  refine goR (kS (As := [.int (x), .int (y)]) (rest := []) F (c_X3_isStream l D cI cO (x) (y)) ywX3_isStream qw599 qw600  ⟨rfl, rfl⟩ ⟨Nat.le_of_ble_eq_true rfl, Nat.le_of_ble_eq_true rfl⟩ (preR (fun k q h => by simp at h) hC) rfl hl.1 rfl (Nat.le_of_ble_eq_true rfl) dX3_send_2 ⟨Nat.zero_le _, Nat.zero_le _⟩) (fun r_2 h_2 => ?_)
  rcases h_2 with ⟨rfl, h_2⟩ | ⟨rfl, h_2⟩
  · obtain ⟨⟨d_, hd6, rfl⟩, s_, hs16, rfl⟩ := id h_2
    refine n_if_eq (tgt := 17) hx hb dX3_send_5 (by decide) (by omega) (fun h => absurd h (by decide)) (fun _ => ?_)
    refine lv_iload_n hx hb dX3_send_8 rfl (lv_at hl 3 rfl) ?_
    refine lv_iconst (v := (nI (0))) hx hb dX3_send_9 (by decide) ?_
    refine lv_iconst (v := (nI (3))) hx hb dX3_send_10 (by decide) ?_
    refine goR (kS (As := [.int (z), .int (nI (0)), .int (nI (3))]) (rest := []) F (c_X3_within l D cI cO (z) (nI (0)) (nI (3))) ywX3_within qw490 qw491  ⟨rfl, rfl⟩ ⟨Nat.le_of_ble_eq_true rfl, Nat.le_of_ble_eq_true rfl⟩ (preR (fun k q h => by simp at h) hC) rfl hl.1 rfl (Nat.le_of_ble_eq_true rfl) dX3_send_11 ⟨Nat.zero_le _, Nat.zero_le _⟩) (fun r_11 h_11 => ?_)
    rcases h_11 with ⟨rfl, h_11⟩ | ⟨rfl, h_11⟩
    · obtain ⟨q_, -, hq3, rfl⟩ := in_ab (by decide) (id h_11) (by decide)
      have hop : oSnd w (nI d_) (nI s_) (nI q_) = (nI (sn w), 1, sndR w (d_ * 16 + s_) q_) := by unfold oSnd; rw [itc_t ⟨h_2, h_11⟩, nv_nI (by omega), nv_nI (by omega), nv_nI (by omega)]
      have hsn := hW.e.2
      have hK : 16 * d_ + s_ = (d_ * 16 + s_) := by omega
      have hk : (d_ * 16 + s_) < 96 := by omega
      have hu9 := (hW.u (d_ * 16 + s_) hk).2.1
      have hh24 := hW.h.2
      refine n_if_ne (tgt := 24) hx hb dX3_send_14 (by decide) (by omega) (fun _ => ?_) (fun h => absurd h (by decide))
      refine lv_aload_n hx hb dX3_send_24 rfl (lv_at hl 0 rfl) ?_
      refine goWv (pre := []) (wc := mdW cI h b w past er bf tk sv hs) (suf := []) (kV (As := []) (rest := []) F (c_X3_saves l D cI cO _ h b w past er bf tk sv hs c0 hW n_ hn_ hsv) ywX3_saves qw493 qw495 qs34 ⟨rfl, rfl⟩ ⟨Nat.le_of_ble_eq_true rfl, Nat.le_of_ble_eq_true rfl⟩ (preV (preW hP hC hD) hC hP (ci := 3) (q0 := 0) rfl rfl rfl) rfl hl.1 rfl (Nat.le_of_ble_eq_true rfl) dX3_send_25 ⟨Nat.zero_le _, Nat.zero_le _⟩) (by simpa only [List.append_assoc, List.nil_append, List.append_nil] using hP) (by simpa only [List.append_assoc, List.nil_append, List.append_nil] using hD) hS hA (fun u_1 H locs h_25 hP hD hS => ?_)
      obtain ⟨past_1, sv_1⟩ := u_1
      replace hP : va_P D vwCl (mdW cI h b w past_1 er bf tk sv_1 hs) H := by simpa only [List.append_assoc, List.nil_append, List.append_nil] using hP
      replace hD : va_D A (mdW cI h b w past_1 er bf tk sv_1 hs) := by simpa only [List.append_assoc, List.nil_append, List.append_nil] using hD
      refine lv_bipush (v := (nI (16))) hx hb dX3_send_28 (by decide) ?_
      refine lv_iload_n hx hb dX3_send_30 rfl (lv_at hl 1 rfl) ?_
      refine n_imul hx hb dX3_send_31  ?_
      refine lv_iload_n hx hb dX3_send_32 rfl (lv_at hl 2 rfl) ?_
      refine n_iadd hx hb dX3_send_33  ?_
      refine lv_istore (lv' := [(4, .int (nI ((16 * d_) + s_))), (0, .ref (h)), (1, .int (nI (d_))), (2, .int (nI (s_))), (3, .int (nI (q_)))]) hx hb dX3_send_34 hl (by decide) rfl (fun ls hl => ?_)
      refine lv_sipush (v := (nI (128))) hx hb dX3_send_36 (by decide) ?_
      refine lv_aload_n hx hb dX3_send_39 rfl (lv_at hl 1 rfl) ?_
      refine gt3 hx hb hts hown hC.1 hP 0 rfl 0 (by decide) qw456 rfl dX3_send_40 ?_
      refine lv_sipush (v := (nI (464))) hx hb dX3_send_43 (by decide) ?_
      refine n_iald hx hb hC.1 hP 1 0 rfl rfl (by omega) (by decide) dX3_send_46 ?_
      refine w_cv (y := (nI (sn w))) hW.e.1 ?_
      refine n_imul hx hb dX3_send_47  ?_
      refine lv_iload hx hb dX3_send_48 (lv_at hl 0 rfl) ?_
      refine n_iadd hx hb dX3_send_50  ?_
      refine lv_istore (lv' := [(5, .int (nI ((128 * (sn w)) + ((16 * d_) + s_)))), (4, .int (nI ((16 * d_) + s_))), (0, .ref (h)), (1, .int (nI (d_))), (2, .int (nI (s_))), (3, .int (nI (q_)))]) hx hb dX3_send_51 hl (by decide) rfl (fun ls hl => ?_)
      refine lv_aload_n hx hb dX3_send_53 rfl (lv_at hl 2 rfl) ?_
      refine gt3 hx hb hts hown hC.1 hP 0 rfl 0 (by decide) qw456 rfl dX3_send_54 ?_
      refine lv_sipush (v := (nI (245))) hx hb dX3_send_57 (by decide) ?_
      refine lv_iload hx hb dX3_send_60 (lv_at hl 1 rfl) ?_
      refine n_iadd hx hb dX3_send_62  ?_
      refine n_iald hx hb hC.1 hP 1 0 rfl rfl (by omega) (by decide) dX3_send_63 ?_
      refine w_cv (y := (nI (un w (d_ * 16 + s_)))) ((congrArg w (by omega)).trans (hW.u (d_ * 16 + s_) hk).1) ?_
      refine n_if_le (tgt := 129) hx hb dX3_send_64 (by decide) (by omega) (fun c_64 => ?_) (fun c_64 => ?_)
      · refine lv_aload_n hx hb dX3_send_129 rfl (lv_at hl 2 rfl) ?_
        refine lv_iload hx hb dX3_send_130 (lv_at hl 1 rfl) ?_
        refine lv_iload_n hx hb dX3_send_132 rfl (lv_at hl 5 rfl) ?_
        refine goR (kV (As := [.int (nI ((16 * d_) + s_)), .int (nI (q_))]) (rest := []) F (c_X3_isCongested l D cI cO h b w past_1 er bf tk sv_1 hs c0 hW ((16 * d_) + s_) (q_) (by omega) (by omega)) ywX3_isCongested qw606 qw608 qs46 ⟨rfl, rfl⟩ ⟨Nat.le_of_ble_eq_true rfl, Nat.le_of_ble_eq_true rfl⟩ (preV (preR hP hC) hC hP (ci := 3) (q0 := 0) rfl rfl rfl) rfl hl.1 rfl (Nat.le_of_ble_eq_true rfl) dX3_send_133 ⟨Nat.zero_le _, Nat.zero_le _⟩) (fun r_133 h_133 => ?_)
        rcases h_133 with ⟨rfl, h_133⟩ | ⟨rfl, h_133⟩
        · rw [hK] at h_133
          refine n_if_eq (tgt := 154) hx hb dX3_send_136 (by decide) (by omega) (fun h => absurd h (by decide)) (fun _ => ?_)
          refine lv_aload_n hx hb dX3_send_139 rfl (lv_at hl 2 rfl) ?_
          refine gt3 hx hb hts hown hC.1 hP 0 rfl 0 (by decide) qw456 rfl dX3_send_140 ?_
          refine lv_sipush (v := (nI (468))) hx hb dX3_send_143 (by decide) ?_
          refine lv_dup2_11 hx hb dX3_send_146 rfl rfl ?_
          refine n_iald hx hb hC.1 hP 1 0 rfl rfl (by omega) (by decide) dX3_send_147 ?_
          refine lv_iconst (v := (nI (1))) hx hb dX3_send_148 (by decide) ?_
          refine lv_iadd hx hb dX3_send_149  ?_
          refine n_iast hx hb hC.1 hP hD hS 1 0 rfl rfl (by omega) (by decide) dX3_send_150 (fun H locs hP hD hS => ?_)
          obtain ⟨w_1, hw_1⟩ : ∃ z : Nat → Int32, z = upd w (468) ((w (468)) + (nI (1))) := ⟨_, rfl⟩
          replace hP : va_P D vwCl (mdW cI h b w_1 past_1 er bf tk sv_1 hs) H := by rw [hw_1]; exact hP
          replace hD : va_D A (mdW cI h b w_1 past_1 er bf tk sv_1 hs) := by rw [hw_1]; exact hD
          refine lv_goto (tgt := 160) hx hb dX3_send_151 (by decide) ?_
          refine lv_aload_n hx hb dX3_send_160 rfl (lv_at hl 2 rfl) ?_
          refine gt3 hx hb hts hown hC.1 hP 0 rfl 0 (by decide) qw456 rfl dX3_send_161 ?_
          refine lv_sipush (v := (nI (464))) hx hb dX3_send_164 (by decide) ?_
          refine lv_dup2_11 hx hb dX3_send_167 rfl rfl ?_
          refine n_iald hx hb hC.1 hP 1 0 rfl rfl (by omega) (by decide) dX3_send_168 ?_
          refine w_cv (y := (nI (sn w))) (by subst hw_1; rw [pk_un (by omega)]; exact hW.e.1) ?_
          refine lv_iconst (v := (nI (1))) hx hb dX3_send_169 (by decide) ?_
          refine n_iadd hx hb dX3_send_170  ?_
          refine n_iast hx hb hC.1 hP hD hS 1 0 rfl rfl (by omega) (by decide) dX3_send_171 (fun H locs hP hD hS => ?_)
          obtain ⟨w_2, hw_2⟩ : ∃ z : Nat → Int32, z = upd w_1 (464) (nI ((sn w) + 1)) := ⟨_, rfl⟩
          replace hP : va_P D vwCl (mdW cI h b w_2 past_1 er bf tk sv_1 hs) H := by rw [hw_2]; exact hP
          replace hD : va_D A (mdW cI h b w_2 past_1 er bf tk sv_1 hs) := by rw [hw_2]; exact hD
          refine lv_aload_n hx hb dX3_send_172 rfl (lv_at hl 2 rfl) ?_
          refine gt3 hx hb hts hown hC.1 hP 0 rfl 0 (by decide) qw456 rfl dX3_send_173 ?_
          refine lv_sipush (v := (nI (464))) hx hb dX3_send_176 (by decide) ?_
          refine n_iald hx hb hC.1 hP 1 0 rfl rfl (by omega) (by decide) dX3_send_179 ?_
          refine w_cv (y := (nI (sn w + 1))) (by rw [hw_2, upd_eq]) ?_
          refine lv_iconst (v := (nI (1))) hx hb dX3_send_180 (by decide) ?_
          refine n_isub hx hb dX3_send_181 (by omega) ?_
          refine w_cv (y := (nI (sn w))) (congrArg nI (by omega)) ?_
          exact hret _ (w_2, past_1, er, bf, tk, sv_1, hs) _ ls _ _ (⟨(congrArg Prod.fst hop).symm, nxM_1 hop (by subst hw_2; subst hw_1; rw [sndR_3 hW hk (by omega) h_133]) h_25⟩) hP hD hS dX3_send_182
        · rw [hK] at h_133
          refine n_if_eq (tgt := 154) hx hb dX3_send_136 (by decide) (by omega) (fun _ => ?_) (fun h => absurd h (by decide))
          refine lv_aload_n hx hb dX3_send_154 rfl (lv_at hl 2 rfl) ?_
          refine lv_iload hx hb dX3_send_155 (lv_at hl 0 rfl) ?_
          refine goWv (pre := []) (wc := mdW cI h b w past_1 er bf tk sv_1 hs) (suf := []) (kV (As := [.int (nI ((128 * (sn w)) + ((16 * d_) + s_)))]) (rest := []) F (c_X3_dispatches l D cI cO _ h b w past_1 er bf tk sv_1 hs c0 hW (sn w) (16 * d_ + s_) (by omega) (by omega)) ywX3_dispatches qw509 qw511 qs37 ⟨rfl, rfl⟩ ⟨Nat.le_of_ble_eq_true rfl, Nat.le_of_ble_eq_true rfl⟩ (preV (preW hP hC hD) hC hP (ci := 3) (q0 := 0) rfl rfl rfl) rfl hl.1 rfl (Nat.le_of_ble_eq_true rfl) dX3_send_157 ⟨Nat.zero_le _, Nat.zero_le _⟩) (by simpa only [List.append_assoc, List.nil_append, List.append_nil] using hP) (by simpa only [List.append_assoc, List.nil_append, List.append_nil] using hD) hS hA (fun w_3 H locs h_157 hP hD hS => ?_)
          replace hP : va_P D vwCl (mdW cI h b w_3 past_1 er bf tk sv_1 hs) H := by simpa only [List.append_assoc, List.nil_append, List.append_nil] using hP
          replace hD : va_D A (mdW cI h b w_3 past_1 er bf tk sv_1 hs) := by simpa only [List.append_assoc, List.nil_append, List.append_nil] using hD
          refine lv_aload_n hx hb dX3_send_160 rfl (lv_at hl 2 rfl) ?_
          refine gt3 hx hb hts hown hC.1 hP 0 rfl 0 (by decide) qw456 rfl dX3_send_161 ?_
          refine lv_sipush (v := (nI (464))) hx hb dX3_send_164 (by decide) ?_
          refine lv_dup2_11 hx hb dX3_send_167 rfl rfl ?_
          refine n_iald hx hb hC.1 hP 1 0 rfl rfl (by omega) (by decide) dX3_send_168 ?_
          refine w_cv (y := (nI (sn w))) (by rw [h_157, dsp_ne hW (by omega) (by omega) (by omega) (by omega)]; exact hW.e.1) ?_
          refine lv_iconst (v := (nI (1))) hx hb dX3_send_169 (by decide) ?_
          refine n_iadd hx hb dX3_send_170  ?_
          refine n_iast hx hb hC.1 hP hD hS 1 0 rfl rfl (by omega) (by decide) dX3_send_171 (fun H locs hP hD hS => ?_)
          obtain ⟨w_4, hw_4⟩ : ∃ z : Nat → Int32, z = upd w_3 (464) (nI ((sn w) + 1)) := ⟨_, rfl⟩
          replace hP : va_P D vwCl (mdW cI h b w_4 past_1 er bf tk sv_1 hs) H := by rw [hw_4]; exact hP
          replace hD : va_D A (mdW cI h b w_4 past_1 er bf tk sv_1 hs) := by rw [hw_4]; exact hD
          refine lv_aload_n hx hb dX3_send_172 rfl (lv_at hl 2 rfl) ?_
          refine gt3 hx hb hts hown hC.1 hP 0 rfl 0 (by decide) qw456 rfl dX3_send_173 ?_
          refine lv_sipush (v := (nI (464))) hx hb dX3_send_176 (by decide) ?_
          refine n_iald hx hb hC.1 hP 1 0 rfl rfl (by omega) (by decide) dX3_send_179 ?_
          refine w_cv (y := (nI (sn w + 1))) (by rw [hw_4, upd_eq]) ?_
          refine lv_iconst (v := (nI (1))) hx hb dX3_send_180 (by decide) ?_
          refine n_isub hx hb dX3_send_181 (by omega) ?_
          refine w_cv (y := (nI (sn w))) (congrArg nI (by omega)) ?_
          exact hret _ (w_4, past_1, er, bf, tk, sv_1, hs) _ ls _ _ (⟨(congrArg Prod.fst hop).symm, nxM_1 hop (by rw [hw_4, h_157, sndR_4 hW hk (by omega) h_133, hK]) h_25⟩) hP hD hS dX3_send_182
      · refine lv_aload_n hx hb dX3_send_67 rfl (lv_at hl 2 rfl) ?_
        refine gt3 hx hb hts hown hC.1 hP 0 rfl 0 (by decide) qw456 rfl dX3_send_68 ?_
        refine lv_sipush (v := (nI (341))) hx hb dX3_send_71 (by decide) ?_
        refine n_iald hx hb hC.1 hP 1 0 rfl rfl (by omega) (by decide) dX3_send_74 ?_
        refine w_cv (y := (nI (he w))) hW.h.1 ?_
        refine lv_bipush (v := (nI (24))) hx hb dX3_send_75 (by decide) ?_
        refine n_icmp_ne (tgt := 95) hx hb dX3_send_77 (by decide) (by omega) (by omega) (fun c_77 => ?_) (fun c_77 => ?_)
        · refine lv_aload_n hx hb dX3_send_95 rfl (lv_at hl 2 rfl) ?_
          refine gt3 hx hb hts hown hC.1 hP 0 rfl 0 (by decide) qw456 rfl dX3_send_96 ?_
          refine lv_sipush (v := (nI (342))) hx hb dX3_send_99 (by decide) ?_
          refine lv_aload_n hx hb dX3_send_102 rfl (lv_at hl 2 rfl) ?_
          refine gt3 hx hb hts hown hC.1 hP 0 rfl 0 (by decide) qw456 rfl dX3_send_103 ?_
          refine lv_sipush (v := (nI (341))) hx hb dX3_send_106 (by decide) ?_
          refine n_iald hx hb hC.1 hP 1 0 rfl rfl (by omega) (by decide) dX3_send_109 ?_
          refine w_cv (y := (nI (he w))) hW.h.1 ?_
          refine n_iadd hx hb dX3_send_110  ?_
          refine lv_iload hx hb dX3_send_111 (lv_at hl 0 rfl) ?_
          refine n_iast hx hb hC.1 hP hD hS 1 0 rfl rfl (by omega) (by decide) dX3_send_113 (fun H locs hP hD hS => ?_)
          obtain ⟨w_5, hw_5⟩ : ∃ z : Nat → Int32, z = upd w (342 + (he w)) (nI ((128 * (sn w)) + ((16 * d_) + s_))) := ⟨_, rfl⟩
          replace hP : va_P D vwCl (mdW cI h b w_5 past_1 er bf tk sv_1 hs) H := by rw [hw_5]; exact hP
          replace hD : va_D A (mdW cI h b w_5 past_1 er bf tk sv_1 hs) := by rw [hw_5]; exact hD
          refine lv_aload_n hx hb dX3_send_114 rfl (lv_at hl 2 rfl) ?_
          refine gt3 hx hb hts hown hC.1 hP 0 rfl 0 (by decide) qw456 rfl dX3_send_115 ?_
          refine lv_sipush (v := (nI (341))) hx hb dX3_send_118 (by decide) ?_
          refine lv_dup2_11 hx hb dX3_send_121 rfl rfl ?_
          refine n_iald hx hb hC.1 hP 1 0 rfl rfl (by omega) (by decide) dX3_send_122 ?_
          refine w_cv (y := (nI (he w))) (by rw [hw_5, pk_un (by omega)]; exact hW.h.1) ?_
          refine lv_iconst (v := (nI (1))) hx hb dX3_send_123 (by decide) ?_
          refine n_iadd hx hb dX3_send_124  ?_
          refine n_iast hx hb hC.1 hP hD hS 1 0 rfl rfl (by omega) (by decide) dX3_send_125 (fun H locs hP hD hS => ?_)
          obtain ⟨w_6, hw_6⟩ : ∃ z : Nat → Int32, z = upd w_5 (341) (nI ((he w) + 1)) := ⟨_, rfl⟩
          replace hP : va_P D vwCl (mdW cI h b w_6 past_1 er bf tk sv_1 hs) H := by rw [hw_6]; exact hP
          replace hD : va_D A (mdW cI h b w_6 past_1 er bf tk sv_1 hs) := by rw [hw_6]; exact hD
          refine lv_goto (tgt := 160) hx hb dX3_send_126 (by decide) ?_
          refine lv_aload_n hx hb dX3_send_160 rfl (lv_at hl 2 rfl) ?_
          refine gt3 hx hb hts hown hC.1 hP 0 rfl 0 (by decide) qw456 rfl dX3_send_161 ?_
          refine lv_sipush (v := (nI (464))) hx hb dX3_send_164 (by decide) ?_
          refine lv_dup2_11 hx hb dX3_send_167 rfl rfl ?_
          refine n_iald hx hb hC.1 hP 1 0 rfl rfl (by omega) (by decide) dX3_send_168 ?_
          refine w_cv (y := (nI (sn w))) (by subst hw_6; subst hw_5; rw [pk_un (by omega), pk_un (by omega)]; exact hW.e.1) ?_
          refine lv_iconst (v := (nI (1))) hx hb dX3_send_169 (by decide) ?_
          refine n_iadd hx hb dX3_send_170  ?_
          refine n_iast hx hb hC.1 hP hD hS 1 0 rfl rfl (by omega) (by decide) dX3_send_171 (fun H locs hP hD hS => ?_)
          obtain ⟨w_7, hw_7⟩ : ∃ z : Nat → Int32, z = upd w_6 (464) (nI ((sn w) + 1)) := ⟨_, rfl⟩
          replace hP : va_P D vwCl (mdW cI h b w_7 past_1 er bf tk sv_1 hs) H := by rw [hw_7]; exact hP
          replace hD : va_D A (mdW cI h b w_7 past_1 er bf tk sv_1 hs) := by rw [hw_7]; exact hD
          refine lv_aload_n hx hb dX3_send_172 rfl (lv_at hl 2 rfl) ?_
          refine gt3 hx hb hts hown hC.1 hP 0 rfl 0 (by decide) qw456 rfl dX3_send_173 ?_
          refine lv_sipush (v := (nI (464))) hx hb dX3_send_176 (by decide) ?_
          refine n_iald hx hb hC.1 hP 1 0 rfl rfl (by omega) (by decide) dX3_send_179 ?_
          refine w_cv (y := (nI (sn w + 1))) (by rw [hw_7, upd_eq]) ?_
          refine lv_iconst (v := (nI (1))) hx hb dX3_send_180 (by decide) ?_
          refine n_isub hx hb dX3_send_181 (by omega) ?_
          refine w_cv (y := (nI (sn w))) (congrArg nI (by omega)) ?_
          exact hret _ (w_7, past_1, er, bf, tk, sv_1, hs) _ ls _ _ (⟨(congrArg Prod.fst hop).symm, nxM_1 hop (by subst hw_7; subst hw_6; subst hw_5; rw [sndR_2 hW hk (by omega) c_77, hK]) h_25⟩) hP hD hS dX3_send_182
        · refine lv_aload_n hx hb dX3_send_80 rfl (lv_at hl 2 rfl) ?_
          refine gt3 hx hb hts hown hC.1 hP 0 rfl 0 (by decide) qw456 rfl dX3_send_81 ?_
          refine lv_sipush (v := (nI (469))) hx hb dX3_send_84 (by decide) ?_
          refine lv_dup2_11 hx hb dX3_send_87 rfl rfl ?_
          refine n_iald hx hb hC.1 hP 1 0 rfl rfl (by omega) (by decide) dX3_send_88 ?_
          refine lv_iconst (v := (nI (1))) hx hb dX3_send_89 (by decide) ?_
          refine lv_iadd hx hb dX3_send_90  ?_
          refine n_iast hx hb hC.1 hP hD hS 1 0 rfl rfl (by omega) (by decide) dX3_send_91 (fun H locs hP hD hS => ?_)
          obtain ⟨w_8, hw_8⟩ : ∃ z : Nat → Int32, z = upd w (469) ((w (469)) + (nI (1))) := ⟨_, rfl⟩
          replace hP : va_P D vwCl (mdW cI h b w_8 past_1 er bf tk sv_1 hs) H := by rw [hw_8]; exact hP
          replace hD : va_D A (mdW cI h b w_8 past_1 er bf tk sv_1 hs) := by rw [hw_8]; exact hD
          refine lv_goto (tgt := 160) hx hb dX3_send_92 (by decide) ?_
          refine lv_aload_n hx hb dX3_send_160 rfl (lv_at hl 2 rfl) ?_
          refine gt3 hx hb hts hown hC.1 hP 0 rfl 0 (by decide) qw456 rfl dX3_send_161 ?_
          refine lv_sipush (v := (nI (464))) hx hb dX3_send_164 (by decide) ?_
          refine lv_dup2_11 hx hb dX3_send_167 rfl rfl ?_
          refine n_iald hx hb hC.1 hP 1 0 rfl rfl (by omega) (by decide) dX3_send_168 ?_
          refine w_cv (y := (nI (sn w))) (by subst hw_8; rw [pk_un (by omega)]; exact hW.e.1) ?_
          refine lv_iconst (v := (nI (1))) hx hb dX3_send_169 (by decide) ?_
          refine n_iadd hx hb dX3_send_170  ?_
          refine n_iast hx hb hC.1 hP hD hS 1 0 rfl rfl (by omega) (by decide) dX3_send_171 (fun H locs hP hD hS => ?_)
          obtain ⟨w_9, hw_9⟩ : ∃ z : Nat → Int32, z = upd w_8 (464) (nI ((sn w) + 1)) := ⟨_, rfl⟩
          replace hP : va_P D vwCl (mdW cI h b w_9 past_1 er bf tk sv_1 hs) H := by rw [hw_9]; exact hP
          replace hD : va_D A (mdW cI h b w_9 past_1 er bf tk sv_1 hs) := by rw [hw_9]; exact hD
          refine lv_aload_n hx hb dX3_send_172 rfl (lv_at hl 2 rfl) ?_
          refine gt3 hx hb hts hown hC.1 hP 0 rfl 0 (by decide) qw456 rfl dX3_send_173 ?_
          refine lv_sipush (v := (nI (464))) hx hb dX3_send_176 (by decide) ?_
          refine n_iald hx hb hC.1 hP 1 0 rfl rfl (by omega) (by decide) dX3_send_179 ?_
          refine w_cv (y := (nI (sn w + 1))) (by rw [hw_9, upd_eq]) ?_
          refine lv_iconst (v := (nI (1))) hx hb dX3_send_180 (by decide) ?_
          refine n_isub hx hb dX3_send_181 (by omega) ?_
          refine w_cv (y := (nI (sn w))) (congrArg nI (by omega)) ?_
          exact hret _ (w_9, past_1, er, bf, tk, sv_1, hs) _ ls _ _ (⟨(congrArg Prod.fst hop).symm, nxM_1 hop (by subst hw_9; subst hw_8; rw [sndR_1 hk (by omega) c_77]) h_25⟩) hP hD hS dX3_send_182
    · have hop : oSnd w (nI d_) (nI s_) z = (-2, 2, w) := itc_f (fun q => h_11 q.2)
      refine n_if_ne (tgt := 24) hx hb dX3_send_14 (by decide) (by omega) (fun h => absurd h (by decide)) (fun _ => ?_)
      refine lv_aload_n hx hb dX3_send_17 rfl (lv_at hl 0 rfl) ?_
      refine lv_bipush (v := (-2)) hx hb dX3_send_18 (by decide) ?_
      refine goWi (pre := []) (wc := mdW cI h b w past er bf tk sv hs) (suf := []) (kV (As := [.int (-2)]) (rest := []) F (c_X3_fails l D cI cO _ h b w past er bf tk sv hs c0 hW 0 (by decide)) ywX3_fails qw482 qw484 qs33 ⟨rfl, rfl⟩ ⟨Nat.le_of_ble_eq_true rfl, Nat.le_of_ble_eq_true rfl⟩ (preV (preW hP hC hD) hC hP (ci := 3) (q0 := 0) rfl rfl rfl) rfl hl.1 rfl (Nat.le_of_ble_eq_true rfl) dX3_send_20 ⟨Nat.zero_le _, Nat.zero_le _⟩) (by simpa only [List.append_assoc, List.nil_append, List.append_nil] using hP) (by simpa only [List.append_assoc, List.nil_append, List.append_nil] using hD) hS hA (fun r_20 er_1 H locs h_20 hP hD hS => ?_)
      replace hP : va_P D vwCl (mdW cI h b w past er_1 bf tk sv hs) H := by simpa only [List.append_assoc, List.nil_append, List.append_nil] using hP
      replace hD : va_D A (mdW cI h b w past er_1 bf tk sv hs) := by simpa only [List.append_assoc, List.nil_append, List.append_nil] using hD
      obtain ⟨h_20, k_20⟩ := h_20
      subst h_20
      exact hret _ (w, past, er_1, bf, tk, sv, hs) _ ls _ _ (⟨(congrArg Prod.fst hop).symm, nxM_e (e := 0) hop k_20 hsv⟩) hP hD hS dX3_send_23
  · have hop : oSnd w x y z = (-2, 2, w) := itc_f (fun q => h_2 q.1)
    refine n_if_eq (tgt := 17) hx hb dX3_send_5 (by decide) (by omega) (fun _ => ?_) (fun h => absurd h (by decide))
    refine lv_aload_n hx hb dX3_send_17 rfl (lv_at hl 0 rfl) ?_
    refine lv_bipush (v := (-2)) hx hb dX3_send_18 (by decide) ?_
    refine goWi (pre := []) (wc := mdW cI h b w past er bf tk sv hs) (suf := []) (kV (As := [.int (-2)]) (rest := []) F (c_X3_fails l D cI cO _ h b w past er bf tk sv hs c0 hW 0 (by decide)) ywX3_fails qw482 qw484 qs33 ⟨rfl, rfl⟩ ⟨Nat.le_of_ble_eq_true rfl, Nat.le_of_ble_eq_true rfl⟩ (preV (preW hP hC hD) hC hP (ci := 3) (q0 := 0) rfl rfl rfl) rfl hl.1 rfl (Nat.le_of_ble_eq_true rfl) dX3_send_20 ⟨Nat.zero_le _, Nat.zero_le _⟩) (by simpa only [List.append_assoc, List.nil_append, List.append_nil] using hP) (by simpa only [List.append_assoc, List.nil_append, List.append_nil] using hD) hS hA (fun r_20 er_2 H locs h_20 hP hD hS => ?_)
    replace hP : va_P D vwCl (mdW cI h b w past er_2 bf tk sv hs) H := by simpa only [List.append_assoc, List.nil_append, List.append_nil] using hP
    replace hD : va_D A (mdW cI h b w past er_2 bf tk sv hs) := by simpa only [List.append_assoc, List.nil_append, List.append_nil] using hD
    obtain ⟨h_20, k_20⟩ := h_20
    subst h_20
    exact hret _ (w, past, er_2, bf, tk, sv, hs) _ ls _ _ (⟨(congrArg Prod.fst hop).symm, nxM_e (e := 0) hop k_20 hsv⟩) hP hD hS dX3_send_23

set_option maxHeartbeats 4000000 in
set_option maxRecDepth 100000 in
theorem c_X3_tick (l : Launch) (D : va_G) (cI cO : ClassId) (sz : Nat) (h : Nat) (b : Nat → Nat) (w past er bf tk : Nat → Int32) (sv : Int32) (hs : Int64) (c0 : Nat) (hW : WF c0 w)  (n_ : Nat) (hc9 : c0 < 900) (hn_ : n_ ≤ 4) (hsv : sv = nI n_) : Met l yX3_tick (Cond.code yX3_tick cX3_tick 5 (some .int) :: WL) ({ frames := 5, cells := 0, slots := 0, locals := 119 } : Room) (va_Pc [.ref (h)] (PW D cI cO (mdW cI h b w past er bf tk sv hs) sz)) (va_Qi (fun (r : Int32) (u : MV) => r = (oTk w).1 ∧ nxM n_ w past er (oTk w) u) (QB D (mdW cI h b w past er bf tk sv hs) sz (fun (u : MV) => mdU cI h b u)) (va_A (mdW cI h b w past er bf tk sv hs) sz)) 0 0 (va_A (mdW cI h b w past er bf tk sv hs) sz) := by
  refine wr_int (by decide) (Nat.le_of_ble_eq_true rfl) ?_
  intro p e s m args below meth c Q ls A F hP hC hD hA hret hl
  have hx := F.1
  have hb := F.2.1
  have hml := F.2.2.1
  have hown := F.2.2.2.1
  have hts := F.2.2.2.2
  replace hl : lv_has ls 5 [(0, .ref (h))] := hl
  have hS : va_S A s.heap s.heap [] := va_S.rf
  have hn4 := hW.n.2
  have hc : c0 < 1000 := by omega
  have hop : oTk w = (nI (he w - lfN (tkU w) (he w)), 1, tickR w) := rfl
  have hWU := (RC_tick hc (RC_S0 hW)).wf
  have hc2 : c0 + 1 < 1000 := by omega
  have hhU : he (tkU w) = he w := by unfold he; rw [tkU_ne (by omega) (by omega)]
  have ht9 := hW.t.2
  have hh24 := hWU.h.2
  have hs2 := hWU.e.2
  refine lv_aload_n hx hb dX3_tick_0 rfl (lv_at hl 0 rfl) ?_
  refine goWv (pre := []) (wc := mdW cI h b w past er bf tk sv hs) (suf := []) (kV (As := []) (rest := []) F (c_X3_saves l D cI cO _ h b w past er bf tk sv hs c0 hW n_ hn_ hsv) ywX3_saves qw493 qw495 qs34 ⟨rfl, rfl⟩ ⟨Nat.le_of_ble_eq_true rfl, Nat.le_of_ble_eq_true rfl⟩ (preV (preW hP hC hD) hC hP (ci := 3) (q0 := 0) rfl rfl rfl) rfl hl.1 rfl (Nat.le_of_ble_eq_true rfl) dX3_tick_1 ⟨Nat.zero_le _, Nat.zero_le _⟩) (by simpa only [List.append_assoc, List.nil_append, List.append_nil] using hP) (by simpa only [List.append_assoc, List.nil_append, List.append_nil] using hD) hS hA (fun u_1 H locs h_1 hP hD hS => ?_)
  obtain ⟨past_1, sv_1⟩ := u_1
  replace hP : va_P D vwCl (mdW cI h b w past_1 er bf tk sv_1 hs) H := by simpa only [List.append_assoc, List.nil_append, List.append_nil] using hP
  replace hD : va_D A (mdW cI h b w past_1 er bf tk sv_1 hs) := by simpa only [List.append_assoc, List.nil_append, List.append_nil] using hD
  refine lv_aload_n hx hb dX3_tick_4 rfl (lv_at hl 0 rfl) ?_
  refine gt3 hx hb hts hown hC.1 hP 0 rfl 0 (by decide) qw456 rfl dX3_tick_5 ?_
  refine lv_sipush (v := (nI (462))) hx hb dX3_tick_8 (by decide) ?_
  refine lv_dup2_11 hx hb dX3_tick_11 rfl rfl ?_
  refine n_iald hx hb hC.1 hP 1 0 rfl rfl (by omega) (by decide) dX3_tick_12 ?_
  refine w_cv (y := (nI (tm w))) hW.t.1 ?_
  refine lv_iconst (v := (nI (1))) hx hb dX3_tick_13 (by decide) ?_
  refine n_iadd hx hb dX3_tick_14  ?_
  refine n_iast hx hb hC.1 hP hD hS 1 0 rfl rfl (by omega) (by decide) dX3_tick_15 (fun H locs hP hD hS => ?_)
  obtain ⟨w_1, hw_1⟩ : ∃ z : Nat → Int32, z = upd w (462) (nI ((tm w) + 1)) := ⟨_, rfl⟩
  replace hP : va_P D vwCl (mdW cI h b w_1 past_1 er bf tk sv_1 hs) H := by rw [hw_1]; exact hP
  replace hD : va_D A (mdW cI h b w_1 past_1 er bf tk sv_1 hs) := by rw [hw_1]; exact hD
  refine lv_iconst (v := (nI (0))) hx hb dX3_tick_16 (by decide) ?_
  refine lv_istore_n (lv' := [(1, .int (nI (0))), (0, .ref (h))]) hx hb dX3_tick_17 rfl hl (by decide) rfl (fun ls hl => ?_)
  have lp_18 : ∀ (fu_18 : Nat) (t_ : Nat) (wk : Nat → Int32) (H : Heap) (locs : List Loc) (ls : Array Slot), 96 - t_ < fu_18 → (t_ ≤ 96) → (∀ j, wk j = tkQ w t_ j) → va_P D vwCl (mdW cI h b wk past_1 er bf tk sv_1 hs) H → va_D A (mdW cI h b wk past_1 er bf tk sv_1 hs) → va_S A s.heap H locs → lv_has ls 5 [(1, .int (nI (t_))), (0, .ref (h))] → W p l e ({ frames := 5, cells := 0, slots := 0, locals := 119 } : Room) s m args below meth c H locs 0 0 Q (F0 m 18 ls []) := by
    intro fu_18
    induction fu_18 with
    | zero => intro t_ wk H locs ls hmu_18; exact absurd hmu_18 (Nat.not_lt_zero _)
    | succ fu_18 ih_18 =>
      intro t_ wk H locs ls hmu_18 ht hwk hP hD hS hl
      refine lv_iload_n hx hb dX3_tick_18 rfl (lv_at hl 0 rfl) ?_
      refine lv_bipush (v := (nI (96))) hx hb dX3_tick_19 (by decide) ?_
      refine n_icmp_ge (tgt := 75) hx hb dX3_tick_21 (by decide) (by omega) (by omega) (fun c_21 => ?_) (fun c_21 => ?_)
      · have hwU : wk = tkU w := tkQ_e (fun j => by rw [hwk j, show t_ = 96 by omega])
        refine lv_iconst (v := (nI (0))) hx hb dX3_tick_75 (by decide) ?_
        refine lv_istore_n (lv' := [(1, .int (nI (0))), (0, .ref (h))]) hx hb dX3_tick_76 rfl hl (by decide) rfl (fun ls hl => ?_)
        refine lv_iconst (v := (nI (0))) hx hb dX3_tick_77 (by decide) ?_
        refine lv_istore_n (lv' := [(2, .int (nI (0))), (1, .int (nI (0))), (0, .ref (h))]) hx hb dX3_tick_78 rfl hl (by decide) rfl (fun ls hl => ?_)
        refine lv_iconst (v := (nI (0))) hx hb dX3_tick_79 (by decide) ?_
        refine lv_istore_n (lv' := [(3, .int (nI (0))), (2, .int (nI (0))), (1, .int (nI (0))), (0, .ref (h))]) hx hb dX3_tick_80 rfl hl (by decide) rfl (fun ls hl => ?_)
        have lp_81 : ∀ (fu_81 : Nat) (k_ : Nat) (n1 : Nat) (f1 : Nat) (wb : Nat → Int32) (tkb : Nat → Int32) (H : Heap) (locs : List Loc) (ls : Array Slot), he (tkU w) - k_ < fu_81 → (k_ ≤ he (tkU w)) → (f1 = lfN (tkU w) k_) → (n1 = k_ - lfN (tkU w) k_) → (wb = cmpR (tkU w) k_) → (∀ i, i < k_ → un (tkU w) (bst (tkU w) i) = 0 → tkb (i - lfN (tkU w) i) = (tkU w) (342 + i)) → va_P D vwCl (mdW cI h b wb past_1 er bf tkb sv_1 hs) H → va_D A (mdW cI h b wb past_1 er bf tkb sv_1 hs) → va_S A s.heap H locs → lv_has ls 5 [(3, .int (nI (k_))), (2, .int (nI (f1))), (1, .int (nI (n1))), (0, .ref (h))] → W p l e ({ frames := 5, cells := 0, slots := 0, locals := 119 } : Room) s m args below meth c H locs 0 0 Q (F0 m 81 ls []) := by
          intro fu_81
          induction fu_81 with
          | zero => intro k_ n1 f1 wb tkb H locs ls hmu_81; exact absurd hmu_81 (Nat.not_lt_zero _)
          | succ fu_81 ih_81 =>
            intro k_ n1 f1 wb tkb H locs ls hmu_81 hk_ hf1 hn1 hwb htb hP hD hS hl
            have hfl := lfN_le (tkU w) k_
            refine lv_iload_n hx hb dX3_tick_81 rfl (lv_at hl 0 rfl) ?_
            refine lv_aload_n hx hb dX3_tick_82 rfl (lv_at hl 3 rfl) ?_
            refine gt3 hx hb hts hown hC.1 hP 0 rfl 0 (by decide) qw456 rfl dX3_tick_83 ?_
            refine lv_sipush (v := (nI (341))) hx hb dX3_tick_86 (by decide) ?_
            refine n_iald hx hb hC.1 hP 1 0 rfl rfl (by omega) (by decide) dX3_tick_89 ?_
            refine w_cv (y := (nI (he (tkU w)))) (by rw [hwb, cmpR_ne k_ (by omega)]; exact hWU.h.1) ?_
            refine n_icmp_ge (tgt := 158) hx hb dX3_tick_90 (by decide) (by omega) (by omega) (fun c_90 => ?_) (fun c_90 => ?_)
            · refine lv_aload_n hx hb dX3_tick_158 rfl (lv_at hl 3 rfl) ?_
              refine gt3 hx hb hts hown hC.1 hP 0 rfl 0 (by decide) qw456 rfl dX3_tick_159 ?_
              refine lv_sipush (v := (nI (341))) hx hb dX3_tick_162 (by decide) ?_
              refine lv_iload_n hx hb dX3_tick_165 rfl (lv_at hl 1 rfl) ?_
              refine n_iast hx hb hC.1 hP hD hS 1 0 rfl rfl (by omega) (by decide) dX3_tick_166 (fun H locs hP hD hS => ?_)
              obtain ⟨w_2, hw_2⟩ : ∃ z : Nat → Int32, z = upd wb (341) (nI (f1)) := ⟨_, rfl⟩
              replace hP : va_P D vwCl (mdW cI h b w_2 past_1 er bf tkb sv_1 hs) H := by rw [hw_2]; exact hP
              replace hD : va_D A (mdW cI h b w_2 past_1 er bf tkb sv_1 hs) := by rw [hw_2]; exact hD
              have hbb : w_2 = (upd (cmpR (tkU w) (he (tkU w))) 341 (nI (lfN (tkU w) (he (tkU w))))) := by rw [hw_2, hwb, hf1, show k_ = he (tkU w) by omega]
              refine lv_iconst (v := (nI (0))) hx hb dX3_tick_167 (by decide) ?_
              refine lv_istore_n (lv' := [(3, .int (nI (0))), (2, .int (nI (f1))), (1, .int (nI (n1))), (0, .ref (h))]) hx hb dX3_tick_168 rfl hl (by decide) rfl (fun ls hl => ?_)
              have lp_169 : ∀ (fu_169 : Nat) (j_ : Nat) (wd : Nat → Int32) (H : Heap) (locs : List Loc) (ls : Array Slot), n1 - j_ < fu_169 → (j_ ≤ n1) → (wd = dspN (upd (cmpR (tkU w) (he (tkU w))) 341 (nI (lfN (tkU w) (he (tkU w))))) (fun t => nv (tkb t)) j_) → va_P D vwCl (mdW cI h b wd past_1 er bf tkb sv_1 hs) H → va_D A (mdW cI h b wd past_1 er bf tkb sv_1 hs) → va_S A s.heap H locs → lv_has ls 5 [(3, .int (nI (j_))), (2, .int (nI (f1))), (1, .int (nI (n1))), (0, .ref (h))] → W p l e ({ frames := 5, cells := 0, slots := 0, locals := 119 } : Room) s m args below meth c H locs 0 0 Q (F0 m 169 ls []) := by
                intro fu_169
                induction fu_169 with
                | zero => intro j_ wd H locs ls hmu_169; exact absurd hmu_169 (Nat.not_lt_zero _)
                | succ fu_169 ih_169 =>
                  intro j_ wd H locs ls hmu_169 hj_ hwd hP hD hS hl
                  have hke : k_ = he (tkU w) := by omega
                  have hfl2 := lfN_le (tkU w) (he (tkU w))
                  have hn3 : n1 = he (tkU w) - lfN (tkU w) (he (tkU w)) := by rw [hn1, hke]
                  have htb2 : ∀ i, i < he (tkU w) → un (tkU w) (bst (tkU w) i) = 0 → tkb (i - lfN (tkU w) i) = (tkU w) (342 + i) := fun i hi => htb i (by omega)
                  obtain ⟨hw3, hh3, hs3⟩ := WF_cmp hWU hc2 (he (tkU w)) (Nat.le_refl _)
                  have hwB : WF (c0 + 1) (upd (cmpR (tkU w) (he (tkU w))) 341 (nI (lfN (tkU w) (he (tkU w))))) := (RC_cut (by omega) (RC_S0 hw3)).wf
                  have hsB : sn (upd (cmpR (tkU w) (he (tkU w))) 341 (nI (lfN (tkU w) (he (tkU w))))) = sn (tkU w) := by rw [← hs3]; unfold sn; rw [pk_un (by omega)]
                  have hWd : WF (c0 + 1) wd := by rw [hwd]; exact (dspN_ok hwB hc2 j_ (fun i2 hi2 => by obtain ⟨a9, k9, h91, h92, h93⟩ := tk_all hWU htb2 (j := i2) (by omega); exact ⟨a9, k9, by rw [hsB]; exact h91, h92, by rw [h93, nv_nI (by omega)]⟩)).1
                  refine lv_iload_n hx hb dX3_tick_169 rfl (lv_at hl 0 rfl) ?_
                  refine lv_iload_n hx hb dX3_tick_170 rfl (lv_at hl 2 rfl) ?_
                  refine n_icmp_ge (tgt := 190) hx hb dX3_tick_171 (by decide) (by omega) (by omega) (fun c_171 => ?_) (fun c_171 => ?_)
                  · refine lv_iload_n hx hb dX3_tick_190 rfl (lv_at hl 2 rfl) ?_
                    exact hret _ (wd, past_1, er, bf, tkb, sv_1, hs) _ ls _ _ (⟨by rw [hop, hn3, hhU], nxM_1 hop (by rw [hwd, show j_ = he (tkU w) - lfN (tkU w) (he (tkU w)) by omega, dspN_B (he (tkU w)) (fun j hj hu => by rw [htb2 j hj hu])]; rfl) h_1⟩) hP hD hS dX3_tick_191
                  · obtain ⟨b2, k2, hb2, hk2, hx2⟩ := tk_all hWU htb2 (j := j_) (by omega)
                    refine lv_aload_n hx hb dX3_tick_174 rfl (lv_at hl 3 rfl) ?_
                    refine lv_aload_n hx hb dX3_tick_175 rfl (lv_at hl 3 rfl) ?_
                    refine gt3 hx hb hts hown hC.1 hP 0 rfl 5 (by decide) qw461 rfl dX3_tick_176 ?_
                    refine lv_iload_n hx hb dX3_tick_179 rfl (lv_at hl 0 rfl) ?_
                    refine n_iald hx hb hC.1 hP 5 0 rfl rfl (by omega) (by decide) dX3_tick_180 ?_
                    refine w_cv (y := (nI (128 * b2 + k2))) hx2 ?_
                    refine goWv (pre := []) (wc := mdW cI h b wd past_1 er bf tkb sv_1 hs) (suf := []) (kV (As := [.int (nI (128 * b2 + k2))]) (rest := []) F (c_X3_dispatches l D cI cO _ h b wd past_1 er bf tkb sv_1 hs (c0 + 1) hWd (b2) (k2) (by omega) hk2) ywX3_dispatches qw509 qw511 qs37 ⟨rfl, rfl⟩ ⟨Nat.le_of_ble_eq_true rfl, Nat.le_of_ble_eq_true rfl⟩ (preV (preW hP hC hD) hC hP (ci := 3) (q0 := 0) rfl rfl rfl) rfl hl.1 rfl (Nat.le_of_ble_eq_true rfl) dX3_tick_181 ⟨Nat.zero_le _, Nat.zero_le _⟩) (by simpa only [List.append_assoc, List.nil_append, List.append_nil] using hP) (by simpa only [List.append_assoc, List.nil_append, List.append_nil] using hD) hS hA (fun w_3 H locs h_181 hP hD hS => ?_)
                    replace hP : va_P D vwCl (mdW cI h b w_3 past_1 er bf tkb sv_1 hs) H := by simpa only [List.append_assoc, List.nil_append, List.append_nil] using hP
                    replace hD : va_D A (mdW cI h b w_3 past_1 er bf tkb sv_1 hs) := by simpa only [List.append_assoc, List.nil_append, List.append_nil] using hD
                    refine n_iinc (a := j_) (b := 1) (lv' := [(3, .int (nI (j_ + 1))), (2, .int (nI (f1))), (1, .int (nI (n1))), (0, .ref (h))]) hx hb dX3_tick_184 hl (k := 0) rfl rfl (by decide) rfl (fun ls hl => ?_)
                    refine lv_goto (tgt := 169) hx hb dX3_tick_187 (by decide) ?_
                    exact ih_169 (j_ + 1) (w_3) _ _ ls (by omega) (by omega) (by rw [h_181, hwd]; show dsp _ _ = dsp _ (nv (tkb j_)); rw [hx2, nv_nI (by omega)]) hP hD hS (lv_sub hl [0, 1, 2, 3] rfl)
              exact lp_169 _ (0) (w_2) _ _ ls (Nat.lt_succ_self _) (Nat.zero_le _) (hbb) hP hD hS (lv_sub hl [0, 1, 2, 3] rfl)
            · obtain ⟨b_, kk, hb0, hkk, hx_⟩ := hWU.b k_ (by omega)
              have hM_ : nv ((tkU w) (342 + k_)) = 128 * b_ + kk := by rw [hx_, nv_nI (by omega)]
              have hbs : bst (tkU w) k_ = kk := by unfold bst; rw [hM_]; omega
              have hu8 := (hWU.u kk hkk).2.1
              refine lv_aload_n hx hb dX3_tick_93 rfl (lv_at hl 3 rfl) ?_
              refine gt3 hx hb hts hown hC.1 hP 0 rfl 0 (by decide) qw456 rfl dX3_tick_94 ?_
              refine lv_sipush (v := (nI (342))) hx hb dX3_tick_97 (by decide) ?_
              refine lv_iload_n hx hb dX3_tick_100 rfl (lv_at hl 0 rfl) ?_
              refine n_iadd hx hb dX3_tick_101  ?_
              refine n_iald hx hb hC.1 hP 1 0 rfl rfl (by omega) (by decide) dX3_tick_102 ?_
              refine w_cv (y := (nI (128 * b_ + kk))) (by rw [hwb, cmpR_ne k_ (by omega)]; exact hx_) ?_
              refine lv_istore (lv' := [(4, .int (nI (128 * b_ + kk))), (3, .int (nI (k_))), (2, .int (nI (f1))), (1, .int (nI (n1))), (0, .ref (h))]) hx hb dX3_tick_103 hl (by decide) rfl (fun ls hl => ?_)
              refine lv_aload_n hx hb dX3_tick_105 rfl (lv_at hl 4 rfl) ?_
              refine gt3 hx hb hts hown hC.1 hP 0 rfl 0 (by decide) qw456 rfl dX3_tick_106 ?_
              refine lv_sipush (v := (nI (245))) hx hb dX3_tick_109 (by decide) ?_
              refine lv_iload hx hb dX3_tick_112 (lv_at hl 0 rfl) ?_
              refine lv_sipush (v := (nI (128))) hx hb dX3_tick_114 (by decide) ?_
              refine n_irem hx hb dX3_tick_117 (by omega) (by omega) (by omega) ?_
              refine w_cv (y := (nI (kk))) (congrArg nI (by omega)) ?_
              refine n_iadd hx hb dX3_tick_118  ?_
              refine n_iald hx hb hC.1 hP 1 0 rfl rfl (by omega) (by decide) dX3_tick_119 ?_
              refine w_cv (y := (nI (un (tkU w) kk))) (by rw [hwb, cmpR_ne k_ (by omega)]; exact (hWU.u kk hkk).1) ?_
              refine n_if_ne (tgt := 137) hx hb dX3_tick_120 (by decide) (by omega) (fun c_120 => ?_) (fun c_120 => ?_)
              · refine lv_aload_n hx hb dX3_tick_137 rfl (lv_at hl 4 rfl) ?_
                refine gt3 hx hb hts hown hC.1 hP 0 rfl 0 (by decide) qw456 rfl dX3_tick_138 ?_
                refine lv_sipush (v := (nI (342))) hx hb dX3_tick_141 (by decide) ?_
                refine lv_iload_n hx hb dX3_tick_144 rfl (lv_at hl 2 rfl) ?_
                refine n_iadd hx hb dX3_tick_145  ?_
                refine lv_iload hx hb dX3_tick_146 (lv_at hl 0 rfl) ?_
                refine n_iast hx hb hC.1 hP hD hS 1 0 rfl rfl (by omega) (by decide) dX3_tick_148 (fun H locs hP hD hS => ?_)
                obtain ⟨w_4, hw_4⟩ : ∃ z : Nat → Int32, z = upd wb (342 + f1) (nI (128 * b_ + kk)) := ⟨_, rfl⟩
                replace hP : va_P D vwCl (mdW cI h b w_4 past_1 er bf tkb sv_1 hs) H := by rw [hw_4]; exact hP
                replace hD : va_D A (mdW cI h b w_4 past_1 er bf tkb sv_1 hs) := by rw [hw_4]; exact hD
                refine n_iinc (a := f1) (b := 1) (lv' := [(2, .int (nI (f1 + 1))), (4, .int (nI (128 * b_ + kk))), (3, .int (nI (k_))), (1, .int (nI (n1))), (0, .ref (h))]) hx hb dX3_tick_149 hl (k := 2) rfl rfl (by decide) rfl (fun ls hl => ?_)
                refine n_iinc (a := k_) (b := 1) (lv' := [(3, .int (nI (k_ + 1))), (2, .int (nI (f1 + 1))), (4, .int (nI (128 * b_ + kk))), (1, .int (nI (n1))), (0, .ref (h))]) hx hb dX3_tick_152 hl (k := 2) rfl rfl (by decide) rfl (fun ls hl => ?_)
                refine lv_goto (tgt := 81) hx hb dX3_tick_155 (by decide) ?_
                exact ih_81 (k_ + 1) (n1) (f1 + 1) (w_4) (tkb) _ _ ls (by omega) (by omega) (by simp only [lfN]; rw [hbs, if_neg c_120]; omega) (by simp only [lfN]; rw [hbs, if_neg c_120]; omega) (by simp only [cmpR]; rw [hbs, if_neg c_120, hw_4, hwb, hf1, hx_]) (fun i hi hu => if h9 : i = k_ then absurd (by rw [h9, hbs] at hu; exact hu) c_120 else htb i (by omega) hu) hP hD hS (lv_sub hl [0, 1, 3, 4] rfl)
              · refine lv_aload_n hx hb dX3_tick_123 rfl (lv_at hl 4 rfl) ?_
                refine gt3 hx hb hts hown hC.1 hP 0 rfl 5 (by decide) qw461 rfl dX3_tick_124 ?_
                refine lv_iload_n hx hb dX3_tick_127 rfl (lv_at hl 3 rfl) ?_
                refine lv_iload hx hb dX3_tick_128 (lv_at hl 0 rfl) ?_
                refine n_iast hx hb hC.1 hP hD hS 5 0 rfl rfl (by omega) (by decide) dX3_tick_130 (fun H locs hP hD hS => ?_)
                obtain ⟨tk_1, htk_1⟩ : ∃ z : Nat → Int32, z = upd tkb (n1) (nI (128 * b_ + kk)) := ⟨_, rfl⟩
                replace hP : va_P D vwCl (mdW cI h b wb past_1 er bf tk_1 sv_1 hs) H := by rw [htk_1]; exact hP
                replace hD : va_D A (mdW cI h b wb past_1 er bf tk_1 sv_1 hs) := by rw [htk_1]; exact hD
                refine n_iinc (a := n1) (b := 1) (lv' := [(1, .int (nI (n1 + 1))), (4, .int (nI (128 * b_ + kk))), (3, .int (nI (k_))), (2, .int (nI (f1))), (0, .ref (h))]) hx hb dX3_tick_131 hl (k := 3) rfl rfl (by decide) rfl (fun ls hl => ?_)
                refine lv_goto (tgt := 152) hx hb dX3_tick_134 (by decide) ?_
                refine n_iinc (a := k_) (b := 1) (lv' := [(3, .int (nI (k_ + 1))), (1, .int (nI (n1 + 1))), (4, .int (nI (128 * b_ + kk))), (2, .int (nI (f1))), (0, .ref (h))]) hx hb dX3_tick_152 hl (k := 2) rfl rfl (by decide) rfl (fun ls hl => ?_)
                refine lv_goto (tgt := 81) hx hb dX3_tick_155 (by decide) ?_
                exact ih_81 (k_ + 1) (n1 + 1) (f1) (wb) (tk_1) _ _ ls (by omega) (by omega) (by simp only [lfN]; rw [hbs, if_pos c_120]; exact hf1) (by simp only [lfN]; rw [hbs, if_pos c_120]; omega) (by simp only [cmpR]; rw [hbs, if_pos c_120]; exact hwb) (fun i hi hu => by rw [htk_1]; exact if h9 : i = k_ then (by rw [h9, ← hn1, upd_eq]; exact hx_.symm) else (by have h8 := tk_mono (tkU w) (i := i) (k := k_) (by omega) hu; rw [pk_un (by omega)]; exact htb i (by omega) hu)) hP hD hS (lv_sub hl [0, 3, 1, 4] rfl)
        exact lp_81 _ (0) (0) (0) (wk) (tk) _ _ ls (Nat.lt_succ_self _) (Nat.zero_le _) (rfl) (rfl) (hwU) (fun i hi => absurd hi (by omega)) hP hD hS (lv_sub hl [0, 1, 2, 3] rfl)
      · have hu9 := (hW.u t_ (by omega)).2.1
        refine lv_aload_n hx hb dX3_tick_24 rfl (lv_at hl 1 rfl) ?_
        refine gt3 hx hb hts hown hC.1 hP 0 rfl 0 (by decide) qw456 rfl dX3_tick_25 ?_
        refine lv_sipush (v := (nI (245))) hx hb dX3_tick_28 (by decide) ?_
        refine lv_iload_n hx hb dX3_tick_31 rfl (lv_at hl 0 rfl) ?_
        refine n_iadd hx hb dX3_tick_32  ?_
        refine lv_aload_n hx hb dX3_tick_33 rfl (lv_at hl 1 rfl) ?_
        refine gt3 hx hb hts hown hC.1 hP 0 rfl 0 (by decide) qw456 rfl dX3_tick_34 ?_
        refine lv_sipush (v := (nI (245))) hx hb dX3_tick_37 (by decide) ?_
        refine lv_iload_n hx hb dX3_tick_40 rfl (lv_at hl 0 rfl) ?_
        refine n_iadd hx hb dX3_tick_41  ?_
        refine n_iald hx hb hC.1 hP 1 0 rfl rfl (by omega) (by decide) dX3_tick_42 ?_
        refine w_cv (y := (nI (un w t_))) (by rw [hwk]; unfold tkQ; rw [if_neg (by omega), if_neg (by omega)]; exact (hW.u t_ (by omega)).1) ?_
        refine lv_aload_n hx hb dX3_tick_43 rfl (lv_at hl 1 rfl) ?_
        refine gt3 hx hb hts hown hC.1 hP 0 rfl 0 (by decide) qw456 rfl dX3_tick_44 ?_
        refine lv_sipush (v := (nI (462))) hx hb dX3_tick_47 (by decide) ?_
        refine n_iald hx hb hC.1 hP 1 0 rfl rfl (by omega) (by decide) dX3_tick_50 ?_
        refine w_cv (y := (nI (tm w + 1))) (by rw [hwk]; unfold tkQ; rw [if_neg (by omega), if_pos rfl]) ?_
        refine n_icmp_le (tgt := 67) hx hb dX3_tick_51 (by decide) (by omega) (by omega) (fun c_51 => ?_) (fun c_51 => ?_)
        · refine lv_iconst (v := (nI (0))) hx hb dX3_tick_67 (by decide) ?_
          refine n_iast hx hb hC.1 hP hD hS 1 0 rfl rfl (by omega) (by decide) dX3_tick_68 (fun H locs hP hD hS => ?_)
          obtain ⟨w_5, hw_5⟩ : ∃ z : Nat → Int32, z = upd wk (245 + t_) (nI (0)) := ⟨_, rfl⟩
          replace hP : va_P D vwCl (mdW cI h b w_5 past_1 er bf tk sv_1 hs) H := by rw [hw_5]; exact hP
          replace hD : va_D A (mdW cI h b w_5 past_1 er bf tk sv_1 hs) := by rw [hw_5]; exact hD
          refine n_iinc (a := t_) (b := 1) (lv' := [(1, .int (nI (t_ + 1))), (0, .ref (h))]) hx hb dX3_tick_69 hl (k := 0) rfl rfl (by decide) rfl (fun ls hl => ?_)
          refine lv_goto (tgt := 18) hx hb dX3_tick_72 (by decide) ?_
          exact ih_18 (t_ + 1) (w_5) _ _ ls (by omega) (by omega) (fun j => by rw [hw_5]; exact tkQ_s (by omega) hwk (by rw [if_neg (by omega)]) j) hP hD hS (lv_sub hl [0, 1] rfl)
        · refine lv_aload_n hx hb dX3_tick_54 rfl (lv_at hl 1 rfl) ?_
          refine gt3 hx hb hts hown hC.1 hP 0 rfl 0 (by decide) qw456 rfl dX3_tick_55 ?_
          refine lv_sipush (v := (nI (245))) hx hb dX3_tick_58 (by decide) ?_
          refine lv_iload_n hx hb dX3_tick_61 rfl (lv_at hl 0 rfl) ?_
          refine n_iadd hx hb dX3_tick_62  ?_
          refine n_iald hx hb hC.1 hP 1 0 rfl rfl (by omega) (by decide) dX3_tick_63 ?_
          refine w_cv (y := (w (245 + t_))) (by rw [hwk]; unfold tkQ; rw [if_neg (by omega), if_neg (by omega)]) ?_
          refine lv_goto (tgt := 68) hx hb dX3_tick_64 (by decide) ?_
          refine n_iast hx hb hC.1 hP hD hS 1 0 rfl rfl (by omega) (by decide) dX3_tick_68 (fun H locs hP hD hS => ?_)
          obtain ⟨w_6, hw_6⟩ : ∃ z : Nat → Int32, z = upd wk (245 + t_) (w (245 + t_)) := ⟨_, rfl⟩
          replace hP : va_P D vwCl (mdW cI h b w_6 past_1 er bf tk sv_1 hs) H := by rw [hw_6]; exact hP
          replace hD : va_D A (mdW cI h b w_6 past_1 er bf tk sv_1 hs) := by rw [hw_6]; exact hD
          refine n_iinc (a := t_) (b := 1) (lv' := [(1, .int (nI (t_ + 1))), (0, .ref (h))]) hx hb dX3_tick_69 hl (k := 0) rfl rfl (by decide) rfl (fun ls hl => ?_)
          refine lv_goto (tgt := 18) hx hb dX3_tick_72 (by decide) ?_
          exact ih_18 (t_ + 1) (w_6) _ _ ls (by omega) (by omega) (fun j => by rw [hw_6]; exact tkQ_s (by omega) hwk (by rw [if_pos (by omega)]) j) hP hD hS (lv_sub hl [0, 1] rfl)
  exact lp_18 _ (0) (w_1) _ _ ls (Nat.lt_succ_self _) (Nat.zero_le _) (fun j => by rw [hw_1]; exact tkQ_0 j) hP hD hS (lv_sub hl [0, 1] rfl)

set_option maxHeartbeats 4000000 in
set_option maxRecDepth 100000 in
theorem c_X3_spread (l : Launch) (D : va_G) (cI cO : ClassId) (sz : Nat) (h : Nat) (b : Nat → Nat) (w past er bf tk : Nat → Int32) (sv : Int32) (hs : Int64) (c0 : Nat) (hW : WF c0 w)  (n_ : Nat) (hc9 : c0 < 900) (hn_ : n_ ≤ 4) (hsv : sv = nI n_) (x : Int32) : Met l yX3_spread (Cond.code yX3_spread cX3_spread 6 (some .int) :: WL) ({ frames := 4, cells := 0, slots := 0, locals := 97 } : Room) (va_Pc [.ref (h), .int (x)] (PW D cI cO (mdW cI h b w past er bf tk sv hs) sz)) (va_Qi (fun (r : Int32) (u : MV) => r = (oSp w x).1 ∧ nxM n_ w past er (oSp w x) u) (QB D (mdW cI h b w past er bf tk sv hs) sz (fun (u : MV) => mdU cI h b u)) (va_A (mdW cI h b w past er bf tk sv hs) sz)) 0 0 (va_A (mdW cI h b w past er bf tk sv hs) sz) := by
  refine wr_int (by decide) (Nat.le_of_ble_eq_true rfl) ?_
  intro p e s m args below meth c Q ls A F hP hC hD hA hret hl
  have hx := F.1
  have hb := F.2.1
  have hml := F.2.2.1
  have hown := F.2.2.2.1
  have hts := F.2.2.2.2
  replace hl : lv_has ls 6 [(0, .ref (h)), (1, .int (x))] := hl
  have hS : va_S A s.heap s.heap [] := va_S.rf
  have hn4 := hW.n.2
  have hc : c0 < 1000 := by omega
  refine lv_iload_n hx hb dX3_spread_0 rfl (lv_at hl 1 rfl) ?_
  refine goR (kS (As := [.int (x)]) (rest := []) F (c_X3_isDestination l D cI cO (x)) ywX3_isDestination qw576 qw577  ⟨rfl, rfl⟩ ⟨Nat.le_of_ble_eq_true rfl, Nat.le_of_ble_eq_true rfl⟩ (preR (fun k q h => by simp at h) hC) rfl hl.1 rfl (Nat.le_of_ble_eq_true rfl) dX3_spread_1 ⟨Nat.zero_le _, Nat.zero_le _⟩) (fun r_1 h_1 => ?_)
  rcases h_1 with ⟨rfl, h_1⟩ | ⟨rfl, h_1⟩
  · obtain ⟨d_, hd6, rfl⟩ := id h_1
    have hop : oSp w (nI d_) = (nI (cb (usd w d_ 16) 16), 0, w) := by unfold oSp; rw [itc_t h_1, nv_nI (by omega)]
    refine n_if_ne (tgt := 14) hx hb dX3_spread_4 (by decide) (by omega) (fun _ => ?_) (fun h => absurd h (by decide))
    refine lv_iconst (v := (nI (0))) hx hb dX3_spread_14 (by decide) ?_
    refine lv_istore_n (lv' := [(2, .int (nI (0))), (0, .ref (h)), (1, .int (nI (d_)))]) hx hb dX3_spread_15 rfl hl (by decide) rfl (fun ls hl => ?_)
    refine lv_iconst (v := (nI (0))) hx hb dX3_spread_16 (by decide) ?_
    refine lv_istore_n (lv' := [(3, .int (nI (0))), (2, .int (nI (0))), (0, .ref (h)), (1, .int (nI (d_)))]) hx hb dX3_spread_17 rfl hl (by decide) rfl (fun ls hl => ?_)
    have lp_18 : ∀ (fu_18 : Nat) (g_ : Nat) (n3 : Nat) (H : Heap) (locs : List Loc) (ls : Array Slot), 16 - g_ < fu_18 → (g_ ≤ 16) → (n3 = cb (usd w d_ 16) g_) → va_P D vwCl (mdW cI h b w past er bf tk sv hs) H → va_D A (mdW cI h b w past er bf tk sv hs) → va_S A s.heap H locs → lv_has ls 6 [(3, .int (nI (g_))), (2, .int (nI (n3))), (0, .ref (h)), (1, .int (nI (d_)))] → W p l e ({ frames := 4, cells := 0, slots := 0, locals := 97 } : Room) s m args below meth c H locs 0 0 Q (F0 m 18 ls []) := by
      intro fu_18
      induction fu_18 with
      | zero => intro g_ n3 H locs ls hmu_18; exact absurd hmu_18 (Nat.not_lt_zero _)
      | succ fu_18 ih_18 =>
        intro g_ n3 H locs ls hmu_18 hg_ hn3 hP hD hS hl
        refine lv_iload_n hx hb dX3_spread_18 rfl (lv_at hl 0 rfl) ?_
        refine lv_bipush (v := (nI (16))) hx hb dX3_spread_19 (by decide) ?_
        refine n_icmp_ge (tgt := 89) hx hb dX3_spread_21 (by decide) (by omega) (by omega) (fun c_21 => ?_) (fun c_21 => ?_)
        · refine lv_iload_n hx hb dX3_spread_89 rfl (lv_at hl 1 rfl) ?_
          exact hret _ (w, past, er, bf, tk, sv, hs) _ ls _ _ (⟨by rw [hop, hn3, show g_ = 16 by omega], nxM_0 hop hsv⟩) hP hD hS dX3_spread_90
        · refine lv_iconst (v := (nI (0))) hx hb dX3_spread_24 (by decide) ?_
          refine lv_istore (lv' := [(4, .int (nI (0))), (3, .int (nI (g_))), (2, .int (nI (n3))), (0, .ref (h)), (1, .int (nI (d_)))]) hx hb dX3_spread_25 hl (by decide) rfl (fun ls hl => ?_)
          refine lv_iconst (v := (nI (0))) hx hb dX3_spread_27 (by decide) ?_
          refine lv_istore (lv' := [(5, .int (nI (0))), (4, .int (nI (0))), (3, .int (nI (g_))), (2, .int (nI (n3))), (0, .ref (h)), (1, .int (nI (d_)))]) hx hb dX3_spread_28 hl (by decide) rfl (fun ls hl => ?_)
          have lp_30 : ∀ (fu_30 : Nat) (s2 : Nat) (fl : Nat) (H : Heap) (locs : List Loc) (ls : Array Slot), 16 - s2 < fu_30 → (s2 ≤ 16) → (fl ≤ 1) → ((fl = 1 ↔ ∃ s, s < s2 ∧ lkm w (rts w d_) s = nI g_)) → va_P D vwCl (mdW cI h b w past er bf tk sv hs) H → va_D A (mdW cI h b w past er bf tk sv hs) → va_S A s.heap H locs → lv_has ls 6 [(5, .int (nI (s2))), (4, .int (nI (fl))), (3, .int (nI (g_))), (2, .int (nI (n3))), (0, .ref (h)), (1, .int (nI (d_)))] → W p l e ({ frames := 4, cells := 0, slots := 0, locals := 97 } : Room) s m args below meth c H locs 0 0 Q (F0 m 30 ls []) := by
            intro fu_30
            induction fu_30 with
            | zero => intro s2 fl H locs ls hmu_30; exact absurd hmu_30 (Nat.not_lt_zero _)
            | succ fu_30 ih_30 =>
              intro s2 fl H locs ls hmu_30 hs2 hf1 hfl2 hP hD hS hl
              refine lv_iload hx hb dX3_spread_30 (lv_at hl 0 rfl) ?_
              refine lv_bipush (v := (nI (16))) hx hb dX3_spread_32 (by decide) ?_
              refine n_icmp_ge (tgt := 70) hx hb dX3_spread_34 (by decide) (by omega) (by omega) (fun c_34 => ?_) (fun c_34 => ?_)
              · refine lv_iload_n hx hb dX3_spread_70 rfl (lv_at hl 3 rfl) ?_
                refine lv_iload hx hb dX3_spread_71 (lv_at hl 1 rfl) ?_
                refine n_if_eq (tgt := 80) hx hb dX3_spread_73 (by decide) (by omega) (fun c_73 => ?_) (fun c_73 => ?_)
                · refine lv_iconst (v := (nI (0))) hx hb dX3_spread_80 (by decide) ?_
                  refine n_iadd hx hb dX3_spread_81  ?_
                  refine lv_istore_n (lv' := [(2, .int (nI (n3 + 0))), (5, .int (nI (s2))), (4, .int (nI (fl))), (3, .int (nI (g_))), (0, .ref (h)), (1, .int (nI (d_)))]) hx hb dX3_spread_82 rfl hl (by decide) rfl (fun ls hl => ?_)
                  refine n_iinc (a := g_) (b := 1) (lv' := [(3, .int (nI (g_ + 1))), (2, .int (nI (n3 + 0))), (5, .int (nI (s2))), (4, .int (nI (fl))), (0, .ref (h)), (1, .int (nI (d_)))]) hx hb dX3_spread_83 hl (k := 3) rfl rfl (by decide) rfl (fun ls hl => ?_)
                  refine lv_goto (tgt := 18) hx hb dX3_spread_86 (by decide) ?_
                  exact ih_18 (g_ + 1) (n3 + 0) _ _ ls (by omega) (by omega) (by show _ = cb (usd w d_ 16) g_ + tb (usd w d_ 16) g_; have h9 := usd_tb hW (d := d_) (p := g_) hd6 (by omega) 16 (Nat.le_refl _); rw [show s2 = 16 by omega] at hfl2; have h8 := tb_01 (usd w d_ 16) g_; have h7 := hfl2.trans h9.symm; clear hfl2 h9; rw [hn3]; omega) hP hD hS (lv_sub hl [0, 1, 4, 5] rfl)
                · refine lv_iconst (v := (nI (1))) hx hb dX3_spread_76 (by decide) ?_
                  refine lv_goto (tgt := 81) hx hb dX3_spread_77 (by decide) ?_
                  refine n_iadd hx hb dX3_spread_81  ?_
                  refine lv_istore_n (lv' := [(2, .int (nI (n3 + 1))), (5, .int (nI (s2))), (4, .int (nI (fl))), (3, .int (nI (g_))), (0, .ref (h)), (1, .int (nI (d_)))]) hx hb dX3_spread_82 rfl hl (by decide) rfl (fun ls hl => ?_)
                  refine n_iinc (a := g_) (b := 1) (lv' := [(3, .int (nI (g_ + 1))), (2, .int (nI (n3 + 1))), (5, .int (nI (s2))), (4, .int (nI (fl))), (0, .ref (h)), (1, .int (nI (d_)))]) hx hb dX3_spread_83 hl (k := 3) rfl rfl (by decide) rfl (fun ls hl => ?_)
                  refine lv_goto (tgt := 18) hx hb dX3_spread_86 (by decide) ?_
                  exact ih_18 (g_ + 1) (n3 + 1) _ _ ls (by omega) (by omega) (by show _ = cb (usd w d_ 16) g_ + tb (usd w d_ 16) g_; have h9 := usd_tb hW (d := d_) (p := g_) hd6 (by omega) 16 (Nat.le_refl _); rw [show s2 = 16 by omega] at hfl2; have h8 := tb_01 (usd w d_ 16) g_; have h7 := hfl2.trans h9.symm; clear hfl2 h9; rw [hn3]; omega) hP hD hS (lv_sub hl [0, 1, 4, 5] rfl)
              · refine lv_iload hx hb dX3_spread_37 (lv_at hl 1 rfl) ?_
                refine n_if_ne (tgt := 57) hx hb dX3_spread_39 (by decide) (by omega) (fun c_39 => ?_) (fun c_39 => ?_)
                · refine lv_iconst (v := (nI (1))) hx hb dX3_spread_57 (by decide) ?_
                  refine lv_goto (tgt := 62) hx hb dX3_spread_58 (by decide) ?_
                  refine lv_istore (lv' := [(4, .int (nI (1))), (5, .int (nI (s2))), (3, .int (nI (g_))), (2, .int (nI (n3))), (0, .ref (h)), (1, .int (nI (d_)))]) hx hb dX3_spread_62 hl (by decide) rfl (fun ls hl => ?_)
                  refine n_iinc (a := s2) (b := 1) (lv' := [(5, .int (nI (s2 + 1))), (4, .int (nI (1))), (3, .int (nI (g_))), (2, .int (nI (n3))), (0, .ref (h)), (1, .int (nI (d_)))]) hx hb dX3_spread_64 hl (k := 1) rfl rfl (by decide) rfl (fun ls hl => ?_)
                  refine lv_goto (tgt := 30) hx hb dX3_spread_67 (by decide) ?_
                  exact ih_30 (s2 + 1) (1) _ _ ls (by omega) (by omega) (by omega) (⟨fun _ => by obtain ⟨s9, h9, h8⟩ := hfl2.mp (by omega); exact ⟨s9, by omega, h8⟩, fun _ => rfl⟩) hP hD hS (lv_sub hl [0, 1, 2, 3, 4, 5] rfl)
                · refine lv_aload_n hx hb dX3_spread_42 rfl (lv_at hl 4 rfl) ?_
                  refine lv_bipush (v := (nI (16))) hx hb dX3_spread_43 (by decide) ?_
                  refine lv_iload_n hx hb dX3_spread_45 rfl (lv_at hl 5 rfl) ?_
                  refine n_imul hx hb dX3_spread_46  ?_
                  refine lv_iload hx hb dX3_spread_47 (lv_at hl 0 rfl) ?_
                  refine n_iadd hx hb dX3_spread_49  ?_
                  refine goR (kV (As := [.int (nI ((16 * d_) + s2))]) (rest := []) F (c_X3_linkOf l D cI cO h b w past er bf tk sv hs c0 hW ((16 * d_) + s2) (by omega)) ywX3_linkOf qw513 qw515 qs38 ⟨rfl, rfl⟩ ⟨Nat.le_of_ble_eq_true rfl, Nat.le_of_ble_eq_true rfl⟩ (preV (preR hP hC) hC hP (ci := 3) (q0 := 0) rfl rfl rfl) rfl hl.1 rfl (Nat.le_of_ble_eq_true rfl) dX3_spread_50 ⟨Nat.zero_le _, Nat.zero_le _⟩) (fun r_50 h_50 => ?_)
                  subst h_50
                  refine w_cv (y := (lkm w (rts w d_) s2)) ((congrArg (lk w) (by omega)).trans (lk_lkm (d := d_) (s := s2) (by omega))) ?_
                  refine lv_iload_n hx hb dX3_spread_53 rfl (lv_at hl 2 rfl) ?_
                  refine lv_icmp_ne (tgt := 61) hx hb dX3_spread_54 (by decide)  (fun c_54 => ?_) (fun c_54 => ?_)
                  · refine lv_iconst (v := (nI (0))) hx hb dX3_spread_61 (by decide) ?_
                    refine lv_istore (lv' := [(4, .int (nI (0))), (5, .int (nI (s2))), (3, .int (nI (g_))), (2, .int (nI (n3))), (0, .ref (h)), (1, .int (nI (d_)))]) hx hb dX3_spread_62 hl (by decide) rfl (fun ls hl => ?_)
                    refine n_iinc (a := s2) (b := 1) (lv' := [(5, .int (nI (s2 + 1))), (4, .int (nI (0))), (3, .int (nI (g_))), (2, .int (nI (n3))), (0, .ref (h)), (1, .int (nI (d_)))]) hx hb dX3_spread_64 hl (k := 1) rfl rfl (by decide) rfl (fun ls hl => ?_)
                    refine lv_goto (tgt := 30) hx hb dX3_spread_67 (by decide) ?_
                    exact ih_30 (s2 + 1) (0) _ _ ls (by omega) (by omega) (by omega) (⟨fun e9 => absurd e9 (by omega), fun e9 => by obtain ⟨s9, h9, h8⟩ := e9; exact absurd (if h7 : s9 = s2 then (absurd (by rw [← h7]; exact h8) c_54) else hfl2.mpr ⟨s9, by omega, h8⟩) (by omega)⟩) hP hD hS (lv_sub hl [0, 1, 2, 3, 4, 5] rfl)
                  · refine lv_iconst (v := (nI (1))) hx hb dX3_spread_57 (by decide) ?_
                    refine lv_goto (tgt := 62) hx hb dX3_spread_58 (by decide) ?_
                    refine lv_istore (lv' := [(4, .int (nI (1))), (5, .int (nI (s2))), (3, .int (nI (g_))), (2, .int (nI (n3))), (0, .ref (h)), (1, .int (nI (d_)))]) hx hb dX3_spread_62 hl (by decide) rfl (fun ls hl => ?_)
                    refine n_iinc (a := s2) (b := 1) (lv' := [(5, .int (nI (s2 + 1))), (4, .int (nI (1))), (3, .int (nI (g_))), (2, .int (nI (n3))), (0, .ref (h)), (1, .int (nI (d_)))]) hx hb dX3_spread_64 hl (k := 1) rfl rfl (by decide) rfl (fun ls hl => ?_)
                    refine lv_goto (tgt := 30) hx hb dX3_spread_67 (by decide) ?_
                    exact ih_30 (s2 + 1) (1) _ _ ls (by omega) (by omega) (by omega) (⟨fun _ => ⟨s2, by omega, c_54⟩, fun _ => rfl⟩) hP hD hS (lv_sub hl [0, 1, 2, 3, 4, 5] rfl)
          exact lp_30 _ (0) (0) _ _ ls (Nat.lt_succ_self _) (Nat.zero_le _) (by omega) (⟨fun e9 => absurd e9 (by omega), fun e9 => by obtain ⟨s9, h9, -⟩ := e9; omega⟩) hP hD hS (lv_sub hl [0, 1, 2, 3, 4, 5] rfl)
    exact lp_18 _ (0) (0) _ _ ls (Nat.lt_succ_self _) (Nat.zero_le _) (rfl) hP hD hS (lv_sub hl [0, 1, 2, 3] rfl)
  · have hop : oSp w x = (-2, 2, w) := itc_f h_1
    refine n_if_ne (tgt := 14) hx hb dX3_spread_4 (by decide) (by omega) (fun h => absurd h (by decide)) (fun _ => ?_)
    refine lv_aload_n hx hb dX3_spread_7 rfl (lv_at hl 0 rfl) ?_
    refine lv_bipush (v := (-2)) hx hb dX3_spread_8 (by decide) ?_
    refine goWi (pre := []) (wc := mdW cI h b w past er bf tk sv hs) (suf := []) (kV (As := [.int (-2)]) (rest := []) F (c_X3_fails l D cI cO _ h b w past er bf tk sv hs c0 hW 0 (by decide)) ywX3_fails qw482 qw484 qs33 ⟨rfl, rfl⟩ ⟨Nat.le_of_ble_eq_true rfl, Nat.le_of_ble_eq_true rfl⟩ (preV (preW hP hC hD) hC hP (ci := 3) (q0 := 0) rfl rfl rfl) rfl hl.1 rfl (Nat.le_of_ble_eq_true rfl) dX3_spread_10 ⟨Nat.zero_le _, Nat.zero_le _⟩) (by simpa only [List.append_assoc, List.nil_append, List.append_nil] using hP) (by simpa only [List.append_assoc, List.nil_append, List.append_nil] using hD) hS hA (fun r_10 er_1 H locs h_10 hP hD hS => ?_)
    replace hP : va_P D vwCl (mdW cI h b w past er_1 bf tk sv hs) H := by simpa only [List.append_assoc, List.nil_append, List.append_nil] using hP
    replace hD : va_D A (mdW cI h b w past er_1 bf tk sv hs) := by simpa only [List.append_assoc, List.nil_append, List.append_nil] using hD
    obtain ⟨h_10, k_10⟩ := h_10
    subst h_10
    exact hret _ (w, past, er_1, bf, tk, sv, hs) _ ls _ _ (⟨(congrArg Prod.fst hop).symm, nxM_e (e := 0) hop k_10 hsv⟩) hP hD hS dX3_spread_13
