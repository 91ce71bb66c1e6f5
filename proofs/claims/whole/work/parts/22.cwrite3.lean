set_option maxHeartbeats 4000000 in
set_option maxRecDepth 100000 in
theorem c_X0_changeOver (l : Launch) (D : va_G) (cI cO : ClassId) (sz : Nat) (h : Nat) (a : Nat → Nat) (S : Nat → Nat → Int32) (w : Nat → Int32) (c0 : Nat) (hR : RC c0 S w)  (i l_ : Nat) (hc : c0 < 1000) (hi : i < nn w) (hl_ : l_ < mn w i) (hac : ac w (4 * i + l_) = 1) : Met l yX0_changeOver (Cond.code yX0_changeOver cX0_changeOver 6 (some .int) :: WL) ({ frames := 5, cells := 0, slots := 0, locals := 113 } : Room) (va_Pc [.ref (h), .int (nI (i)), .int (nI (l_))] (PW D cI cO (stW cI h a S) sz)) (va_Qi (fun (r : Int32) (u : Nat → Nat → Int32) => r = nI (le w (i * 4 + l_)) ∧ RC c0 u (failR w (i * 4 + l_))) (QB D (stW cI h a S) sz (fun (u : Nat → Nat → Int32) => stW cI h a u)) (va_A (stW cI h a S) sz)) 0 0 (va_A (stW cI h a S) sz) := by
  refine wr_int (by decide) (Nat.le_of_ble_eq_true rfl) ?_
  intro p e s m args below meth c Q ls A F hP hC hD hA hret hl
  have hx := F.1
  have hb := F.2.1
  have hml := F.2.2.1
  have hown := F.2.2.2.1
  have hts := F.2.2.2.2
  replace hl : lv_has ls 6 [(0, .ref (h)), (1, .int (nI (i))), (2, .int (nI (l_)))] := hl
  have hS : va_S A s.heap s.heap [] := va_S.rf
  have hn4 := hR.wf.n.2
  have hi4 : i < 4 := by omega
  have hm4 := (hR.wf.m i hi4).2
  have hv : (i * 4 + l_) < 16 := by omega
  have hl10 := (hR.wf.l (i * 4 + l_) hv).2
  have hsn := hR.wf.e.2
  refine lv_aload_n hx hb dX0_changeOver_0 rfl (lv_at hl 0 rfl) ?_
  refine gt0 hx hb hts hown hC.1 hP 0 rfl 11 (by decide) qw46 rfl dX0_changeOver_1 ?_
  refine lv_iload_n hx hb dX0_changeOver_4 rfl (lv_at hl 1 rfl) ?_
  refine lv_dup2_11 hx hb dX0_changeOver_5 rfl rfl ?_
  refine n_iald hx hb hC.1 hP 2 0 rfl rfl (by omega) (by decide) dX0_changeOver_6 ?_
  refine w_cv (y := (nI (am w i))) (hR.a i hi4) ?_
  refine lv_iconst (v := (nI (1))) hx hb dX0_changeOver_7 (by decide) ?_
  refine lv_iload_n hx hb dX0_changeOver_8 rfl (lv_at hl 2 rfl) ?_
  refine lv_ishl hx hb dX0_changeOver_9 ?_
  refine lv_iconst (v := (-1)) hx hb dX0_changeOver_10 (by decide) ?_
  refine lv_ixor hx hb dX0_changeOver_11 ?_
  refine lv_iand hx hb dX0_changeOver_12 ?_
  refine w_cv (y := (nI (am w i + 0 * 2 ^ l_ - 1 * 2 ^ l_))) (flag0 _ (am_lt hR.wf hi4) l_ (by omega) ((am_tb hR.wf hi4 (by omega)).trans hac)) ?_
  refine n_iast hx hb hC.1 hP hD hS 2 0 rfl rfl (by omega) (by decide) dX0_changeOver_13 (fun H locs hP hD hS => ?_)
  obtain ⟨S_1, hS_1⟩ : ∃ z : Nat → Nat → Int32, z = va_up S 11 (upd (S 11) (i) (nI (am w i + 0 * 2 ^ l_ - 1 * 2 ^ l_))) := ⟨_, rfl⟩
  replace hP : va_P D vwCl (stW cI h a S_1) H := by rw [hS_1]; exact hP
  replace hD : va_D A (stW cI h a S_1) := by rw [hS_1]; exact hD
  refine lv_iload_n hx hb dX0_changeOver_14 rfl (lv_at hl 1 rfl) ?_
  refine lv_iload_n hx hb dX0_changeOver_15 rfl (lv_at hl 2 rfl) ?_
  refine goR (kSN (As := [.int (nI (i)), .int (nI (l_))]) (rest := []) F (c_X2_linkPlace l D cI cO (i) (l_)) ywX2_linkPlace (nk9 hC) qw196  ⟨rfl, rfl⟩ ⟨Nat.le_of_ble_eq_true rfl, Nat.le_of_ble_eq_true rfl⟩ (preR (fun k q h => by simp at h) hC) rfl hl.1 rfl (Nat.le_of_ble_eq_true rfl) dX0_changeOver_16 ⟨Nat.zero_le _, Nat.zero_le _⟩) (fun r_16 h_16 => ?_)
  subst h_16
  refine lv_istore_n (lv' := [(3, .int (nI (i * 4 + l_))), (0, .ref (h)), (1, .int (nI (i))), (2, .int (nI (l_)))]) hx hb dX0_changeOver_19 rfl hl (by decide) rfl (fun ls hl => ?_)
  refine lv_aload_n hx hb dX0_changeOver_20 rfl (lv_at hl 1 rfl) ?_
  refine gt0 hx hb hts hown hC.1 hP 0 rfl 12 (by decide) qw47 rfl dX0_changeOver_21 ?_
  refine lv_iload_n hx hb dX0_changeOver_24 rfl (lv_at hl 0 rfl) ?_
  refine n_iald hx hb hC.1 hP 3 0 rfl rfl (by omega) (by decide) dX0_changeOver_25 ?_
  refine w_cv (y := (nI (le w (i * 4 + l_)))) (by rw [hS_1, sup_ne (by decide)]; exact hR.l _ hv) ?_
  refine lv_istore (lv' := [(4, .int (nI (le w (i * 4 + l_)))), (3, .int (nI (i * 4 + l_))), (0, .ref (h)), (1, .int (nI (i))), (2, .int (nI (l_)))]) hx hb dX0_changeOver_26 hl (by decide) rfl (fun ls hl => ?_)
  refine lv_aload_n hx hb dX0_changeOver_28 rfl (lv_at hl 2 rfl) ?_
  refine gt0 hx hb hts hown hC.1 hP 0 rfl 12 (by decide) qw47 rfl dX0_changeOver_29 ?_
  refine lv_iload_n hx hb dX0_changeOver_32 rfl (lv_at hl 1 rfl) ?_
  refine lv_iconst (v := (nI (0))) hx hb dX0_changeOver_33 (by decide) ?_
  refine n_iast hx hb hC.1 hP hD hS 3 0 rfl rfl (by omega) (by decide) dX0_changeOver_34 (fun H locs hP hD hS => ?_)
  obtain ⟨S_2, hS_2⟩ : ∃ z : Nat → Nat → Int32, z = va_up S_1 12 (upd (S_1 12) (i * 4 + l_) (nI (0))) := ⟨_, rfl⟩
  replace hP : va_P D vwCl (stW cI h a S_2) H := by rw [hS_2]; exact hP
  replace hD : va_D A (stW cI h a S_2) := by rw [hS_2]; exact hD
  have hR2 : RC c0 S_2 (flR w (i * 4 + l_)) := by
    have h9 := RC_flag (v0 := 0) hi4 hl_ (by omega) hR
    rw [hac] at h9
    have h8 := RC_len (p0 := (i * 4 + l_)) (q0 := 0) (by omega) (Nat.zero_le _) h9
    rw [show 4 * i + l_ = i * 4 + l_ by omega] at h8
    rw [hS_2, hS_1]
    exact h8
  have hS13 : ∀ j, S_2 13 j = S 13 j := fun j => by rw [hS_2, sup_ne (by decide), hS_1, sup_ne (by decide)]
  have hfl : ac (flR w (i * 4 + l_)) (i * 4 + l_) = 0 := by unfold ac flR; rw [pk_un (by omega), upd_eq]; rfl
  refine lv_iconst (v := (nI (0))) hx hb dX0_changeOver_35 (by decide) ?_
  refine lv_istore (lv' := [(5, .int (nI (0))), (4, .int (nI (le w (i * 4 + l_)))), (3, .int (nI (i * 4 + l_))), (0, .ref (h)), (1, .int (nI (i))), (2, .int (nI (l_)))]) hx hb dX0_changeOver_36 hl (by decide) rfl (fun ls hl => ?_)
  have lp_38 : ∀ (fu_38 : Nat) (n_ : Nat) (T : Nat → Nat → Int32) (H : Heap) (locs : List Loc) (ls : Array Slot), le w (i * 4 + l_) - n_ < fu_38 → (n_ ≤ le w (i * 4 + l_)) → (RC c0 T (dspN (flR w (i * 4 + l_)) (msg w (i * 4 + l_)) n_)) → (∀ j, j < 10 → T 13 ((i * 4 + l_) * 10 + j) = S 13 ((i * 4 + l_) * 10 + j)) → (∀ j, fx j → (dspN (flR w (i * 4 + l_)) (msg w (i * 4 + l_)) n_) j = flR w (i * 4 + l_) j) → va_P D vwCl (stW cI h a T) H → va_D A (stW cI h a T) → va_S A s.heap H locs → lv_has ls 6 [(5, .int (nI (n_))), (4, .int (nI (le w (i * 4 + l_)))), (3, .int (nI (i * 4 + l_))), (0, .ref (h)), (1, .int (nI (i))), (2, .int (nI (l_)))] → W p l e ({ frames := 5, cells := 0, slots := 0, locals := 113 } : Room) s m args below meth c H locs 0 0 Q (F0 m 38 ls []) := by
    intro fu_38
    induction fu_38 with
    | zero => intro n_ T H locs ls hmu_38; exact absurd hmu_38 (Nat.not_lt_zero _)
    | succ fu_38 ih_38 =>
      intro n_ T H locs ls hmu_38 hn_ hRT hT13 hfx hP hD hS hl
      refine lv_iload hx hb dX0_changeOver_38 (lv_at hl 0 rfl) ?_
      refine lv_iload hx hb dX0_changeOver_40 (lv_at hl 1 rfl) ?_
      refine n_icmp_ge (tgt := 67) hx hb dX0_changeOver_42 (by decide) (by omega) (by omega) (fun c_42 => ?_) (fun c_42 => ?_)
      · refine lv_iload hx hb dX0_changeOver_67 (lv_at hl 1 rfl) ?_
        exact hret _ (T) _ ls _ _ (⟨rfl, by unfold failR; have e9 : n_ = le w (i * 4 + l_) := (by omega); rw [e9] at hRT; exact hRT⟩) hP hD hS dX0_changeOver_69
      · obtain ⟨b_, k_, hb0, hk_, hx_, hms⟩ := msg_ok hR.wf hc hv (i := n_) (by omega)
        have hb13 : T 13 ((i * 4 + l_) * 10 + n_) = nI (b_ * 96 + k_) := by rw [hT13 n_ (by omega), hR.q (i * 4 + l_) hv n_ (by omega), hx_, trm_ok (by omega) hk_]
        have hb_ : b_ < sn (dspN (flR w (i * 4 + l_)) (msg w (i * 4 + l_)) n_) := by rw [show sn (dspN (flR w (i * 4 + l_)) (msg w (i * 4 + l_)) n_) = sn w from by unfold sn; rw [hfx _ ⟨by omega, by omega, by omega⟩]; exact failR_sn hv]; exact hb0
        refine lv_aload_n hx hb dX0_changeOver_45 rfl (lv_at hl 3 rfl) ?_
        refine lv_aload_n hx hb dX0_changeOver_46 rfl (lv_at hl 3 rfl) ?_
        refine gt0 hx hb hts hown hC.1 hP 0 rfl 13 (by decide) qw49 rfl dX0_changeOver_47 ?_
        refine lv_iload_n hx hb dX0_changeOver_50 rfl (lv_at hl 2 rfl) ?_
        refine lv_bipush (v := (nI (10))) hx hb dX0_changeOver_51 (by decide) ?_
        refine n_imul hx hb dX0_changeOver_53  ?_
        refine lv_iload hx hb dX0_changeOver_54 (lv_at hl 0 rfl) ?_
        refine n_iadd hx hb dX0_changeOver_56  ?_
        refine n_iald hx hb hC.1 hP 4 0 rfl rfl (by omega) (by decide) dX0_changeOver_57 ?_
        refine w_cv (y := (nI (b_ * 96 + k_))) hb13 ?_
        refine goWv (pre := []) (wc := stW cI h a T) (suf := []) (kV (As := [.int (nI (b_ * 96 + k_))]) (rest := []) F (c_X0_dispatch l D cI cO _ h a T (dspN (flR w (i * 4 + l_)) (msg w (i * 4 + l_)) n_) c0 hRT (b_) (k_) hc hb_ hk_) ywX0_dispatch qw198 qw200 qs10 ⟨rfl, rfl⟩ ⟨Nat.le_of_ble_eq_true rfl, Nat.le_of_ble_eq_true rfl⟩ (preV (preW hP hC hD) hC hP (ci := 0) (q0 := 0) rfl rfl rfl) rfl hl.1 rfl (Nat.le_of_ble_eq_true rfl) dX0_changeOver_58 ⟨Nat.zero_le _, Nat.zero_le _⟩) (by simpa only [List.append_assoc, List.nil_append, List.append_nil] using hP) (by simpa only [List.append_assoc, List.nil_append, List.append_nil] using hD) hS hA (fun T_1 H locs h_58 hP hD hS => ?_)
        replace hP : va_P D vwCl (stW cI h a T_1) H := by simpa only [List.append_assoc, List.nil_append, List.append_nil] using hP
        replace hD : va_D A (stW cI h a T_1) := by simpa only [List.append_assoc, List.nil_append, List.append_nil] using hD
        obtain ⟨hR_58, hf_58, hg_58⟩ := h_58
        refine n_iinc (a := n_) (b := 1) (lv' := [(5, .int (nI (n_ + 1))), (4, .int (nI (le w (i * 4 + l_)))), (3, .int (nI (i * 4 + l_))), (0, .ref (h)), (1, .int (nI (i))), (2, .int (nI (l_)))]) hx hb dX0_changeOver_61 hl (k := 0) rfl rfl (by decide) rfl (fun ls hl => ?_)
        refine lv_goto (tgt := 38) hx hb dX0_changeOver_64 (by decide) ?_
        exact ih_38 (n_ + 1) (T_1) _ _ ls (by omega) (by omega) (by show RC c0 _ (dsp (dspN (flR w (i * 4 + l_)) (msg w (i * 4 + l_)) n_) (msg w (i * 4 + l_) n_)); rw [hms]; exact hR_58) (fun j hj => (hg_58 (i * 4 + l_) hv (by unfold ac; rw [hfx _ ⟨by omega, by omega, by omega⟩]; exact hfl) j hj).trans (hT13 j hj)) (fun j hj => by show dsp (dspN (flR w (i * 4 + l_)) (msg w (i * 4 + l_)) n_) (msg w (i * 4 + l_) n_) j = _; rw [hms, dsp_ne hRT.wf (by omega) hj.1 hj.2.1 hj.2.2]; exact hfx j hj) hP hD hS (lv_sub hl [0, 1, 2, 3, 4, 5] rfl)
  exact lp_38 _ (0) (S_2) _ _ ls (Nat.lt_succ_self _) (Nat.zero_le _) (hR2) (fun j _ => hS13 _) (fun _ _ => rfl) hP hD hS (lv_sub hl [0, 1, 2, 3, 4, 5] rfl)

set_option maxHeartbeats 4000000 in
set_option maxRecDepth 100000 in
theorem c_X0_deliverOldest (l : Launch) (D : va_G) (cI cO : ClassId) (sz : Nat) (h : Nat) (a : Nat → Nat) (S : Nat → Nat → Int32) (w : Nat → Int32) (c0 : Nat) (hR : RC c0 S w)  (v_ q_ : Nat) (hc : c0 < 1000) (hv : v_ < 16) (hq : q_ ≤ 10) : Met l yX0_deliverOldest (Cond.code yX0_deliverOldest cX0_deliverOldest 7 (some .int) :: WL) ({ frames := 3, cells := 0, slots := 0, locals := 65 } : Room) (va_Pc [.ref (h), .int (nI (v_)), .int (nI (q_))] (PW D cI cO (stW cI h a S) sz)) (va_Qi (fun (r : Int32) (u : Nat → Nat → Int32) => r = nI (min q_ (le w v_)) ∧ RC c0 u (ackR w v_ (min q_ (le w v_)))) (QB D (stW cI h a S) sz (fun (u : Nat → Nat → Int32) => stW cI h a u)) (va_A (stW cI h a S) sz)) 0 0 (va_A (stW cI h a S) sz) := by
  refine wr_int (by decide) (Nat.le_of_ble_eq_true rfl) ?_
  intro p e s m args below meth c Q ls A F hP hC hD hA hret hl
  have hx := F.1
  have hb := F.2.1
  have hml := F.2.2.1
  have hown := F.2.2.2.1
  have hts := F.2.2.2.2
  replace hl : lv_has ls 7 [(0, .ref (h)), (1, .int (nI (v_))), (2, .int (nI (q_)))] := hl
  have hS : va_S A s.heap s.heap [] := va_S.rf
  have hn4 := hR.wf.n.2
  have hl10 := (hR.wf.l v_ hv).2
  have hsn := hR.wf.e.2
  obtain ⟨n_, hn_⟩ : ∃ z, z = min q_ (le w v_) := ⟨_, rfl⟩
  have hnL : n_ ≤ le w v_ := by omega
  refine lv_aload_n hx hb dX0_deliverOldest_0 rfl (lv_at hl 0 rfl) ?_
  refine gt0 hx hb hts hown hC.1 hP 0 rfl 12 (by decide) qw47 rfl dX0_deliverOldest_1 ?_
  refine lv_iload_n hx hb dX0_deliverOldest_4 rfl (lv_at hl 1 rfl) ?_
  refine n_iald hx hb hC.1 hP 3 0 rfl rfl (by omega) (by decide) dX0_deliverOldest_5 ?_
  refine w_cv (y := (nI (le w v_))) (hR.l v_ hv) ?_
  refine lv_istore_n (lv' := [(3, .int (nI (le w v_))), (0, .ref (h)), (1, .int (nI (v_))), (2, .int (nI (q_)))]) hx hb dX0_deliverOldest_6 rfl hl (by decide) rfl (fun ls hl => ?_)
  refine lv_iload_n hx hb dX0_deliverOldest_7 rfl (lv_at hl 3 rfl) ?_
  refine lv_iload_n hx hb dX0_deliverOldest_8 rfl (lv_at hl 0 rfl) ?_
  refine va_mmin (own := "SignallingPoint$State") (index := 80) hx hb (hml.trans hl.1.symm) hown (hts _ qw160) (hts _ qw161) (hts _ qw6) (hts _ qw162) (Nat.le_of_ble_eq_true rfl) (Nat.le_of_ble_eq_true rfl) (Nat.zero_le _) (Nat.zero_le _) dX0_deliverOldest_9 ?_
  refine w_cv (y := (nI (n_))) (by rw [hn_]; exact mmin_nI (by omega) (by omega)) ?_
  refine lv_istore (lv' := [(4, .int (nI (n_))), (3, .int (nI (le w v_))), (0, .ref (h)), (1, .int (nI (v_))), (2, .int (nI (q_)))]) hx hb dX0_deliverOldest_12 hl (by decide) rfl (fun ls hl => ?_)
  refine lv_iload_n hx hb dX0_deliverOldest_14 rfl (lv_at hl 3 rfl) ?_
  refine lv_bipush (v := (nI (10))) hx hb dX0_deliverOldest_15 (by decide) ?_
  refine n_imul hx hb dX0_deliverOldest_17  ?_
  refine lv_istore (lv' := [(5, .int (nI (v_ * 10))), (4, .int (nI (n_))), (3, .int (nI (le w v_))), (0, .ref (h)), (1, .int (nI (v_))), (2, .int (nI (q_)))]) hx hb dX0_deliverOldest_18 hl (by decide) rfl (fun ls hl => ?_)
  refine lv_iconst (v := (nI (0))) hx hb dX0_deliverOldest_20 (by decide) ?_
  refine lv_istore (lv' := [(6, .int (nI (0))), (5, .int (nI (v_ * 10))), (4, .int (nI (n_))), (3, .int (nI (le w v_))), (0, .ref (h)), (1, .int (nI (v_))), (2, .int (nI (q_)))]) hx hb dX0_deliverOldest_21 hl (by decide) rfl (fun ls hl => ?_)
  have lp_23 : ∀ (fu_23 : Nat) (i_ : Nat) (T : Nat → Nat → Int32) (H : Heap) (locs : List Loc) (ls : Array Slot), n_ - i_ < fu_23 → (i_ ≤ n_) → (RC c0 T (dlvN w (msg w v_) i_)) → (T 12 = S 12) → (T 13 = S 13) → va_P D vwCl (stW cI h a T) H → va_D A (stW cI h a T) → va_S A s.heap H locs → lv_has ls 7 [(6, .int (nI (i_))), (5, .int (nI (v_ * 10))), (4, .int (nI (n_))), (3, .int (nI (le w v_))), (0, .ref (h)), (1, .int (nI (v_))), (2, .int (nI (q_)))] → W p l e ({ frames := 3, cells := 0, slots := 0, locals := 65 } : Room) s m args below meth c H locs 0 0 Q (F0 m 23 ls []) := by
    intro fu_23
    induction fu_23 with
    | zero => intro i_ T H locs ls hmu_23; exact absurd hmu_23 (Nat.not_lt_zero _)
    | succ fu_23 ih_23 =>
      intro i_ T H locs ls hmu_23 hi_ hRT hT12 hT13 hP hD hS hl
      refine lv_iload hx hb dX0_deliverOldest_23 (lv_at hl 0 rfl) ?_
      refine lv_iload hx hb dX0_deliverOldest_25 (lv_at hl 2 rfl) ?_
      refine n_icmp_ge (tgt := 50) hx hb dX0_deliverOldest_27 (by decide) (by omega) (by omega) (fun c_27 => ?_) (fun c_27 => ?_)
      · refine lv_iload hx hb dX0_deliverOldest_50 (lv_at hl 2 rfl) ?_
        refine lv_istore (lv' := [(6, .int (nI (n_))), (5, .int (nI (v_ * 10))), (4, .int (nI (n_))), (3, .int (nI (le w v_))), (0, .ref (h)), (1, .int (nI (v_))), (2, .int (nI (q_)))]) hx hb dX0_deliverOldest_52 hl (by decide) rfl (fun ls hl => ?_)
        have lp_54 : ∀ (fu_54 : Nat) (j_ : Nat) (T2 : Nat → Nat → Int32) (H : Heap) (locs : List Loc) (ls : Array Slot), le w v_ - j_ < fu_54 → (n_ ≤ j_) → (j_ ≤ le w v_) → (RC c0 T2 (shR (dlvN w (msg w v_) n_) v_ n_ (j_ - n_))) → va_P D vwCl (stW cI h a T2) H → va_D A (stW cI h a T2) → va_S A s.heap H locs → lv_has ls 7 [(6, .int (nI (j_))), (5, .int (nI (v_ * 10))), (4, .int (nI (n_))), (3, .int (nI (le w v_))), (0, .ref (h)), (1, .int (nI (v_))), (2, .int (nI (q_)))] → W p l e ({ frames := 3, cells := 0, slots := 0, locals := 65 } : Room) s m args below meth c H locs 0 0 Q (F0 m 54 ls []) := by
          intro fu_54
          induction fu_54 with
          | zero => intro j_ T2 H locs ls hmu_54; exact absurd hmu_54 (Nat.not_lt_zero _)
          | succ fu_54 ih_54 =>
            intro j_ T2 H locs ls hmu_54 hj1 hj2 hRT2 hP hD hS hl
            have hle2 : le (shR (dlvN w (msg w v_) n_) v_ n_ (j_ - n_)) v_ = le w v_ := by unfold le; rw [shR_ne _ (by omega), dlvN_ne (by omega) _ (msg_lt hR.wf hc hv hnL)]
            refine lv_iload hx hb dX0_deliverOldest_54 (lv_at hl 0 rfl) ?_
            refine lv_iload_n hx hb dX0_deliverOldest_56 rfl (lv_at hl 3 rfl) ?_
            refine n_icmp_ge (tgt := 89) hx hb dX0_deliverOldest_57 (by decide) (by omega) (by omega) (fun c_57 => ?_) (fun c_57 => ?_)
            · refine lv_aload_n hx hb dX0_deliverOldest_89 rfl (lv_at hl 4 rfl) ?_
              refine gt0 hx hb hts hown hC.1 hP 0 rfl 12 (by decide) qw47 rfl dX0_deliverOldest_90 ?_
              refine lv_iload_n hx hb dX0_deliverOldest_93 rfl (lv_at hl 5 rfl) ?_
              refine lv_iload_n hx hb dX0_deliverOldest_94 rfl (lv_at hl 3 rfl) ?_
              refine lv_iload hx hb dX0_deliverOldest_95 (lv_at hl 2 rfl) ?_
              refine n_isub hx hb dX0_deliverOldest_97 (by omega) ?_
              refine n_iast hx hb hC.1 hP hD hS 3 0 rfl rfl (by omega) (by decide) dX0_deliverOldest_98 (fun H locs hP hD hS => ?_)
              obtain ⟨S_1, hS_1⟩ : ∃ z : Nat → Nat → Int32, z = va_up T2 12 (upd (T2 12) (v_) (nI ((le w v_) - n_))) := ⟨_, rfl⟩
              replace hP : va_P D vwCl (stW cI h a S_1) H := by rw [hS_1]; exact hP
              replace hD : va_D A (stW cI h a S_1) := by rw [hS_1]; exact hD
              refine lv_iload hx hb dX0_deliverOldest_99 (lv_at hl 2 rfl) ?_
              exact hret _ (S_1) _ ls _ _ (⟨by rw [hn_], by rw [← hn_]; unfold ackR; have h9 := RC_len (p0 := v_) (q0 := le w v_ - n_) hv (by omega) hRT2; rw [show j_ - n_ = le w v_ - n_ by omega] at h9; rw [hS_1]; exact h9⟩) hP hD hS dX0_deliverOldest_101
            · refine lv_aload_n hx hb dX0_deliverOldest_60 rfl (lv_at hl 4 rfl) ?_
              refine gt0 hx hb hts hown hC.1 hP 0 rfl 13 (by decide) qw49 rfl dX0_deliverOldest_61 ?_
              refine lv_iload hx hb dX0_deliverOldest_64 (lv_at hl 1 rfl) ?_
              refine lv_iload hx hb dX0_deliverOldest_66 (lv_at hl 0 rfl) ?_
              refine n_iadd hx hb dX0_deliverOldest_68  ?_
              refine lv_iload hx hb dX0_deliverOldest_69 (lv_at hl 2 rfl) ?_
              refine n_isub hx hb dX0_deliverOldest_71 (by omega) ?_
              refine lv_aload_n hx hb dX0_deliverOldest_72 rfl (lv_at hl 4 rfl) ?_
              refine gt0 hx hb hts hown hC.1 hP 0 rfl 13 (by decide) qw49 rfl dX0_deliverOldest_73 ?_
              refine lv_iload hx hb dX0_deliverOldest_76 (lv_at hl 1 rfl) ?_
              refine lv_iload hx hb dX0_deliverOldest_78 (lv_at hl 0 rfl) ?_
              refine n_iadd hx hb dX0_deliverOldest_80  ?_
              refine n_iald hx hb hC.1 hP 4 0 rfl rfl (by omega) (by decide) dX0_deliverOldest_81 ?_
              refine n_iast hx hb hC.1 hP hD hS 4 0 rfl rfl (by omega) (by decide) dX0_deliverOldest_82 (fun H locs hP hD hS => ?_)
              obtain ⟨S_2, hS_2⟩ : ∃ z : Nat → Nat → Int32, z = va_up T2 13 (upd (T2 13) (((v_ * 10) + j_) - n_) (T2 13 ((v_ * 10) + j_))) := ⟨_, rfl⟩
              replace hP : va_P D vwCl (stW cI h a S_2) H := by rw [hS_2]; exact hP
              replace hD : va_D A (stW cI h a S_2) := by rw [hS_2]; exact hD
              refine n_iinc (a := j_) (b := 1) (lv' := [(6, .int (nI (j_ + 1))), (5, .int (nI (v_ * 10))), (4, .int (nI (n_))), (3, .int (nI (le w v_))), (0, .ref (h)), (1, .int (nI (v_))), (2, .int (nI (q_)))]) hx hb dX0_deliverOldest_83 hl (k := 0) rfl rfl (by decide) rfl (fun ls hl => ?_)
              refine lv_goto (tgt := 54) hx hb dX0_deliverOldest_86 (by decide) ?_
              exact ih_54 (j_ + 1) (S_2) _ _ ls (by omega) (by omega) (by omega) (by rw [hS_2, show j_ + 1 - n_ = (j_ - n_) + 1 by omega]; show RC c0 _ (upd (shR (dlvN w (msg w v_) n_) v_ n_ (j_ - n_)) (37 + 10 * v_ + (j_ - n_)) ((shR (dlvN w (msg w v_) n_) v_ n_ (j_ - n_)) (37 + 10 * v_ + (n_ + (j_ - n_))))); rw [show n_ + (j_ - n_) = j_ by omega]; exact RC_mv' hv hj1 (by omega) hRT2) hP hD hS (lv_sub hl [0, 1, 2, 3, 4, 5, 6] rfl)
        exact lp_54 _ (n_) (T) _ _ ls (Nat.lt_succ_self _) (Nat.le_refl _) (hnL) (by rw [Nat.sub_self]; rw [show i_ = n_ by omega] at hRT; exact hRT) hP hD hS (lv_sub hl [0, 1, 2, 3, 4, 5, 6] rfl)
      · obtain ⟨b_, k_, hb0, hk_, hx_, hms⟩ := msg_ok hR.wf hc hv (i := i_) (by omega)
        have hb13 : T 13 (v_ * 10 + i_) = nI (b_ * 96 + k_) := by rw [hT13, hR.q v_ hv i_ (by omega), hx_, trm_ok (by omega) hk_]
        have hb_ : b_ < sn (dlvN w (msg w v_) i_) := by rw [show sn (dlvN w (msg w v_) i_) = sn w from by unfold sn; rw [dlvN_ne (by omega) _ (msg_lt hR.wf hc hv (by omega))]]; exact hb0
        refine lv_aload_n hx hb dX0_deliverOldest_30 rfl (lv_at hl 4 rfl) ?_
        refine lv_aload_n hx hb dX0_deliverOldest_31 rfl (lv_at hl 4 rfl) ?_
        refine gt0 hx hb hts hown hC.1 hP 0 rfl 13 (by decide) qw49 rfl dX0_deliverOldest_32 ?_
        refine lv_iload hx hb dX0_deliverOldest_35 (lv_at hl 1 rfl) ?_
        refine lv_iload hx hb dX0_deliverOldest_37 (lv_at hl 0 rfl) ?_
        refine n_iadd hx hb dX0_deliverOldest_39  ?_
        refine n_iald hx hb hC.1 hP 4 0 rfl rfl (by omega) (by decide) dX0_deliverOldest_40 ?_
        refine w_cv (y := (nI (b_ * 96 + k_))) hb13 ?_
        refine goWv (pre := []) (wc := stW cI h a T) (suf := []) (kV (As := [.int (nI (b_ * 96 + k_))]) (rest := []) F (c_X0_deliver l D cI cO _ h a T (dlvN w (msg w v_) i_) c0 hRT (b_) (k_) hc hb_ hk_) ywX0_deliver qw261 qw263 qs19 ⟨rfl, rfl⟩ ⟨Nat.le_of_ble_eq_true rfl, Nat.le_of_ble_eq_true rfl⟩ (preV (preW hP hC hD) hC hP (ci := 0) (q0 := 0) rfl rfl rfl) rfl hl.1 rfl (Nat.le_of_ble_eq_true rfl) dX0_deliverOldest_41 ⟨Nat.zero_le _, Nat.zero_le _⟩) (by simpa only [List.append_assoc, List.nil_append, List.append_nil] using hP) (by simpa only [List.append_assoc, List.nil_append, List.append_nil] using hD) hS hA (fun T_1 H locs h_41 hP hD hS => ?_)
        replace hP : va_P D vwCl (stW cI h a T_1) H := by simpa only [List.append_assoc, List.nil_append, List.append_nil] using hP
        replace hD : va_D A (stW cI h a T_1) := by simpa only [List.append_assoc, List.nil_append, List.append_nil] using hD
        obtain ⟨hR_41, hf_41⟩ := h_41
        refine n_iinc (a := i_) (b := 1) (lv' := [(6, .int (nI (i_ + 1))), (5, .int (nI (v_ * 10))), (4, .int (nI (n_))), (3, .int (nI (le w v_))), (0, .ref (h)), (1, .int (nI (v_))), (2, .int (nI (q_)))]) hx hb dX0_deliverOldest_44 hl (k := 0) rfl rfl (by decide) rfl (fun ls hl => ?_)
        refine lv_goto (tgt := 23) hx hb dX0_deliverOldest_47 (by decide) ?_
        exact ih_23 (i_ + 1) (T_1) _ _ ls (by omega) (by omega) (by show RC c0 _ (dlv (dlvN w (msg w v_) i_) (msg w v_ i_)); rw [hms]; exact hR_41) ((hf_41 12 (by decide) (by decide) (by decide)).trans hT12) ((hf_41 13 (by decide) (by decide) (by decide)).trans hT13) hP hD hS (lv_sub hl [0, 1, 2, 3, 4, 5, 6] rfl)
  exact lp_23 _ (0) (S) _ _ ls (Nat.lt_succ_self _) (Nat.zero_le _) (hR) (rfl) (rfl) hP hD hS (lv_sub hl [0, 1, 2, 3, 4, 5, 6] rfl)

set_option maxHeartbeats 4000000 in
set_option maxRecDepth 100000 in
theorem c_X0_releaseHeld (l : Launch) (D : va_G) (cI cO : ClassId) (sz : Nat) (h : Nat) (a : Nat → Nat) (S : Nat → Nat → Int32) (w : Nat → Int32) (c0 : Nat) (hR : RC c0 S w)  (hc : c0 < 1000) : Met l yX0_releaseHeld (Cond.code yX0_releaseHeld cX0_releaseHeld 5 (some .int) :: WL) ({ frames := 5, cells := 0, slots := 0, locals := 113 } : Room) (va_Pc [.ref (h)] (PW D cI cO (stW cI h a S) sz)) (va_Qi (fun (r : Int32) (u : Nat → Nat → Int32) => r = nI (he w - lfN w (he w)) ∧ RC c0 u (relR w)) (QB D (stW cI h a S) sz (fun (u : Nat → Nat → Int32) => stW cI h a u)) (va_A (stW cI h a S) sz)) 0 0 (va_A (stW cI h a S) sz) := by
  refine wr_int (by decide) (Nat.le_of_ble_eq_true rfl) ?_
  intro p e s m args below meth c Q ls A F hP hC hD hA hret hl
  have hx := F.1
  have hb := F.2.1
  have hml := F.2.2.1
  have hown := F.2.2.2.1
  have hts := F.2.2.2.2
  replace hl : lv_has ls 5 [(0, .ref (h))] := hl
  have hS : va_S A s.heap s.heap [] := va_S.rf
  have hn4 := hR.wf.n.2
  have hh24 := hR.wf.h.2
  have hsn := hR.wf.e.2
  refine lv_aload_n hx hb dX0_releaseHeld_0 rfl (lv_at hl 0 rfl) ?_
  refine gt0 hx hb hts hown hC.1 hP 0 rfl 9 (by decide) qw43 rfl dX0_releaseHeld_1 ?_
  refine w_cv (y := (nI (he w))) hR.h ?_
  refine lv_istore_n (lv' := [(1, .int (nI (he w))), (0, .ref (h))]) hx hb dX0_releaseHeld_4 rfl hl (by decide) rfl (fun ls hl => ?_)
  refine lv_iconst (v := (nI (0))) hx hb dX0_releaseHeld_5 (by decide) ?_
  refine lv_istore_n (lv' := [(2, .int (nI (0))), (1, .int (nI (he w))), (0, .ref (h))]) hx hb dX0_releaseHeld_6 rfl hl (by decide) rfl (fun ls hl => ?_)
  refine lv_iconst (v := (nI (0))) hx hb dX0_releaseHeld_7 (by decide) ?_
  refine lv_istore_n (lv' := [(3, .int (nI (0))), (2, .int (nI (0))), (1, .int (nI (he w))), (0, .ref (h))]) hx hb dX0_releaseHeld_8 rfl hl (by decide) rfl (fun ls hl => ?_)
  have lp_9 : ∀ (fu_9 : Nat) (i_ : Nat) (f_ : Nat) (T : Nat → Nat → Int32) (H : Heap) (locs : List Loc) (ls : Array Slot), he w - i_ < fu_9 → (i_ ≤ he w) → (f_ = lfN w i_) → (RC c0 T (dspB (cmpR w i_) w i_)) → va_P D vwCl (stW cI h a T) H → va_D A (stW cI h a T) → va_S A s.heap H locs → lv_has ls 5 [(3, .int (nI (i_))), (2, .int (nI (f_))), (1, .int (nI (he w))), (0, .ref (h))] → W p l e ({ frames := 5, cells := 0, slots := 0, locals := 113 } : Room) s m args below meth c H locs 0 0 Q (F0 m 9 ls []) := by
    intro fu_9
    induction fu_9 with
    | zero => intro i_ f_ T H locs ls hmu_9; exact absurd hmu_9 (Nat.not_lt_zero _)
    | succ fu_9 ih_9 =>
      intro i_ f_ T H locs ls hmu_9 hi_ hf_ hRT hP hD hS hl
      have hfl := lfN_le w i_
      obtain ⟨hwc, hhc, hsc⟩ := WF_cmp hR.wf hc i_ hi_
      obtain ⟨hwd, hfd⟩ := dspB_ok hwc hR.wf hc hsc i_ hi_
      have hsd : sn (dspB (cmpR w i_) w i_) = sn w := by rw [← hsc]; unfold sn; rw [hfd _ ⟨by omega, by omega, by omega⟩]
      have hhd : he (dspB (cmpR w i_) w i_) = he w := by rw [← hhc]; unfold he; rw [hfd _ ⟨by omega, by omega, by omega⟩]
      refine lv_iload_n hx hb dX0_releaseHeld_9 rfl (lv_at hl 0 rfl) ?_
      refine lv_iload_n hx hb dX0_releaseHeld_10 rfl (lv_at hl 2 rfl) ?_
      refine n_icmp_ge (tgt := 60) hx hb dX0_releaseHeld_11 (by decide) (by omega) (by omega) (fun c_11 => ?_) (fun c_11 => ?_)
      · have hie : i_ = he w := by omega
        refine lv_aload_n hx hb dX0_releaseHeld_60 rfl (lv_at hl 3 rfl) ?_
        refine lv_iload_n hx hb dX0_releaseHeld_61 rfl (lv_at hl 1 rfl) ?_
        refine pt0 (ty := .int) hx hb hts hown hC.1 hP hD hS 0 rfl 9 (by decide) qw43 rfl (by decide +kernel) rfl rfl (Nat.le_of_ble_eq_true rfl) dX0_releaseHeld_62 (fun H locs hP hD hS => ?_)
        obtain ⟨S_1, hS_1⟩ : ∃ z : Nat → Nat → Int32, z = va_up T 9 (fun _ => (nI (f_))) := ⟨_, rfl⟩
        replace hP : va_P D vwCl (stW cI h a S_1) H := by rw [hS_1]; exact hP
        replace hD : va_D A (stW cI h a S_1) := by rw [hS_1]; exact hD
        refine lv_iload_n hx hb dX0_releaseHeld_65 rfl (lv_at hl 2 rfl) ?_
        refine lv_iload_n hx hb dX0_releaseHeld_66 rfl (lv_at hl 1 rfl) ?_
        refine n_isub hx hb dX0_releaseHeld_67 (by omega) ?_
        exact hret _ (S_1) _ ls _ _ (⟨by rw [hf_, hie], by unfold relR; rw [hie] at hRT hf_ hwc hsc; rw [dspB_comm hwc hR.wf hc hsc _ (by omega) (by omega) (by omega) _ (Nat.le_refl _), hS_1, hf_]; exact RC_cut (by rw [hie] at hhd hfl; omega) hRT⟩) hP hD hS dX0_releaseHeld_68
      · obtain ⟨b_, k_, hb0, hk_, hx_⟩ := hR.wf.b i_ (by omega)
        have hM_ : nv (w (342 + i_)) = 128 * b_ + k_ := by rw [hx_, nv_nI (by omega)]
        have hbs : bst w i_ = k_ := by unfold bst; rw [hM_]; omega
        have hr1 : (dspB (cmpR w i_) w i_) (342 + i_) = w (342 + i_) := by rw [hfd _ ⟨by omega, by omega, by omega⟩]; exact cmpR_ne i_ (by omega)
        have hb18 : T 18 i_ = nI (b_ * 96 + k_) := by rw [hRT.b i_ (by omega), hr1, hx_, trm_ok (by omega) hk_]
        have hb_ : b_ < sn (dspB (cmpR w i_) w i_) := by rw [hsd]; exact hb0
        have hur : un (dspB (cmpR w i_) w i_) k_ = un w (bst w i_) := by rw [hbs]; unfold un; rw [hfd _ ⟨by omega, by omega, by omega⟩, cmpR_ne i_ (by omega)]
        refine lv_aload_n hx hb dX0_releaseHeld_14 rfl (lv_at hl 3 rfl) ?_
        refine gt0 hx hb hts hown hC.1 hP 0 rfl 18 (by decide) qw57 rfl dX0_releaseHeld_15 ?_
        refine lv_iload_n hx hb dX0_releaseHeld_18 rfl (lv_at hl 0 rfl) ?_
        refine n_iald hx hb hC.1 hP 9 0 rfl rfl (by omega) (by decide) dX0_releaseHeld_19 ?_
        refine w_cv (y := (nI (b_ * 96 + k_))) hb18 ?_
        refine lv_istore (lv' := [(4, .int (nI (b_ * 96 + k_))), (3, .int (nI (i_))), (2, .int (nI (f_))), (1, .int (nI (he w))), (0, .ref (h))]) hx hb dX0_releaseHeld_20 hl (by decide) rfl (fun ls hl => ?_)
        refine lv_aload_n hx hb dX0_releaseHeld_22 rfl (lv_at hl 4 rfl) ?_
        refine lv_iload hx hb dX0_releaseHeld_23 (lv_at hl 0 rfl) ?_
        refine goR (kSN (As := [.int (nI (b_ * 96 + k_))]) (rest := [.ref (h)]) F (c_X2_streamOf l D cI cO (b_ * 96 + k_) (by omega)) ywX2_streamOf (nk10 hC) qw203  ⟨rfl, rfl⟩ ⟨Nat.le_of_ble_eq_true rfl, Nat.le_of_ble_eq_true rfl⟩ (preR (fun k q h => by simp at h) hC) rfl hl.1 rfl (Nat.le_of_ble_eq_true rfl) dX0_releaseHeld_25 ⟨Nat.zero_le _, Nat.zero_le _⟩) (fun r_25 h_25 => ?_)
        subst h_25
        refine w_cv (y := (nI (k_))) (congrArg nI (by omega)) ?_
        refine goR (kV (As := [.int (nI (k_))]) (rest := []) F (c_X0_holds l D cI cO h a T (dspB (cmpR w i_) w i_) c0 hRT (k_) hc (by omega)) ywX0_holds qw344 qw346 qs23 ⟨rfl, rfl⟩ ⟨Nat.le_of_ble_eq_true rfl, Nat.le_of_ble_eq_true rfl⟩ (preV (preR hP hC) hC hP (ci := 0) (q0 := 0) rfl rfl rfl) rfl hl.1 rfl (Nat.le_of_ble_eq_true rfl) dX0_releaseHeld_28 ⟨Nat.zero_le _, Nat.zero_le _⟩) (fun r_28 h_28 => ?_)
        rcases h_28 with ⟨rfl, h_28⟩ | ⟨rfl, h_28⟩
        · have hun : ¬ un w (bst w i_) = 0 := by rw [← hur]; exact h_28
          refine n_if_eq (tgt := 48) hx hb dX0_releaseHeld_31 (by decide) (by omega) (fun h => absurd h (by decide)) (fun _ => ?_)
          refine lv_aload_n hx hb dX0_releaseHeld_34 rfl (lv_at hl 4 rfl) ?_
          refine gt0 hx hb hts hown hC.1 hP 0 rfl 18 (by decide) qw57 rfl dX0_releaseHeld_35 ?_
          refine lv_iload_n hx hb dX0_releaseHeld_38 rfl (lv_at hl 2 rfl) ?_
          refine lv_iload hx hb dX0_releaseHeld_39 (lv_at hl 0 rfl) ?_
          refine n_iast hx hb hC.1 hP hD hS 9 0 rfl rfl (by omega) (by decide) dX0_releaseHeld_41 (fun H locs hP hD hS => ?_)
          obtain ⟨S_2, hS_2⟩ : ∃ z : Nat → Nat → Int32, z = va_up T 18 (upd (T 18) (f_) (nI (b_ * 96 + k_))) := ⟨_, rfl⟩
          replace hP : va_P D vwCl (stW cI h a S_2) H := by rw [hS_2]; exact hP
          replace hD : va_D A (stW cI h a S_2) := by rw [hS_2]; exact hD
          refine n_iinc (a := f_) (b := 1) (lv' := [(2, .int (nI (f_ + 1))), (4, .int (nI (b_ * 96 + k_))), (3, .int (nI (i_))), (1, .int (nI (he w))), (0, .ref (h))]) hx hb dX0_releaseHeld_42 hl (k := 2) rfl rfl (by decide) rfl (fun ls hl => ?_)
          refine lv_goto (tgt := 54) hx hb dX0_releaseHeld_45 (by decide) ?_
          refine n_iinc (a := i_) (b := 1) (lv' := [(3, .int (nI (i_ + 1))), (2, .int (nI (f_ + 1))), (4, .int (nI (b_ * 96 + k_))), (1, .int (nI (he w))), (0, .ref (h))]) hx hb dX0_releaseHeld_54 hl (k := 2) rfl rfl (by decide) rfl (fun ls hl => ?_)
          refine lv_goto (tgt := 9) hx hb dX0_releaseHeld_57 (by decide) ?_
          exact ih_9 (i_ + 1) (f_ + 1) (S_2) _ _ ls (by omega) (by omega) (by simp only [lfN]; rw [if_neg hun]; omega) (by simp only [cmpR, dspB]; rw [if_neg hun, if_neg hun, dspB_comm hwc hR.wf hc hsc _ (by omega) (by omega) (by omega) i_ hi_, hx_, hS_2, ← hf_]; exact RC_buf (by omega) (by rw [hsd]; exact hb0) hk_ hc hRT) hP hD hS (lv_sub hl [0, 1, 3, 4] rfl)
        · have hun : un w (bst w i_) = 0 := by rw [← hur]; exact h_28
          refine n_if_eq (tgt := 48) hx hb dX0_releaseHeld_31 (by decide) (by omega) (fun _ => ?_) (fun h => absurd h (by decide))
          refine lv_aload_n hx hb dX0_releaseHeld_48 rfl (lv_at hl 4 rfl) ?_
          refine lv_iload hx hb dX0_releaseHeld_49 (lv_at hl 0 rfl) ?_
          refine goWv (pre := []) (wc := stW cI h a T) (suf := []) (kV (As := [.int (nI (b_ * 96 + k_))]) (rest := []) F (c_X0_dispatch l D cI cO _ h a T (dspB (cmpR w i_) w i_) c0 hRT (b_) (k_) hc hb_ hk_) ywX0_dispatch qw198 qw200 qs10 ⟨rfl, rfl⟩ ⟨Nat.le_of_ble_eq_true rfl, Nat.le_of_ble_eq_true rfl⟩ (preV (preW hP hC hD) hC hP (ci := 0) (q0 := 0) rfl rfl rfl) rfl hl.1 rfl (Nat.le_of_ble_eq_true rfl) dX0_releaseHeld_51 ⟨Nat.zero_le _, Nat.zero_le _⟩) (by simpa only [List.append_assoc, List.nil_append, List.append_nil] using hP) (by simpa only [List.append_assoc, List.nil_append, List.append_nil] using hD) hS hA (fun T_1 H locs h_51 hP hD hS => ?_)
          replace hP : va_P D vwCl (stW cI h a T_1) H := by simpa only [List.append_assoc, List.nil_append, List.append_nil] using hP
          replace hD : va_D A (stW cI h a T_1) := by simpa only [List.append_assoc, List.nil_append, List.append_nil] using hD
          obtain ⟨hR_51, hf_51, hg_51⟩ := h_51
          refine n_iinc (a := i_) (b := 1) (lv' := [(3, .int (nI (i_ + 1))), (4, .int (nI (b_ * 96 + k_))), (2, .int (nI (f_))), (1, .int (nI (he w))), (0, .ref (h))]) hx hb dX0_releaseHeld_54 hl (k := 1) rfl rfl (by decide) rfl (fun ls hl => ?_)
          refine lv_goto (tgt := 9) hx hb dX0_releaseHeld_57 (by decide) ?_
          exact ih_9 (i_ + 1) (f_) (T_1) _ _ ls (by omega) (by omega) (by simp only [lfN]; rw [if_pos hun]; omega) (by simp only [cmpR, dspB]; rw [if_pos hun, if_pos hun, hM_]; exact hR_51) hP hD hS (lv_sub hl [0, 2, 3, 4] rfl)
  exact lp_9 _ (0) (0) (S) _ _ ls (Nat.lt_succ_self _) (Nat.zero_le _) (rfl) (hR) hP hD hS (lv_sub hl [0, 1, 2, 3] rfl)
