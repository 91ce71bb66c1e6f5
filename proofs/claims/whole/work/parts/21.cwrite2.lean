theorem msg_ok {c : Nat} {w : Nat → Int32} (h : WF c w) (hc : c < 1000) {v i : Nat} (hv : v < 16) (hi : i < le w v) : ∃ a k, a < sn w ∧ k < 96 ∧ w (37 + 10 * v + i) = nI (128 * a + k) ∧ msg w v i = 128 * a + k := by
  obtain ⟨a, k, ha, hk, hx⟩ := h.q v hv i hi
  have := h.e.2
  exact ⟨a, k, ha, hk, hx, by unfold msg; rw [hx, nv_nI (by omega)]⟩
theorem msg_lt {c : Nat} {w : Nat → Int32} (h : WF c w) (hc : c < 1000) {v : Nat} (hv : v < 16) {n : Nat} (hn : n ≤ le w v) : ∀ i, i < n → msg w v i % 128 < 96 := fun i hi => by
  obtain ⟨a, k, ha, hk, -, e⟩ := msg_ok h hc hv (i := i) (by omega)
  omega
theorem dvN_0 {w B : Nat → Int32} (h : hd w = 0) : ∀ n, dvN w B n = (w, 0)
  | 0 => rfl
  | n + 1 => by simp only [dvN]; rw [if_neg (fun q => q.1 h)]; exact dvN_0 h n
theorem lk_dvN {c : Nat} {w B : Nat → Int32} (h : WF c w) {n k : Nat} (hn : n ≤ 96) (hk : k < 96) : lk (dvN w B n).1 k = lk w k := lk_congr (fun j hj => dvN_ne n (by omega)) (fun j _ hj => dvN_ne n (by omega)) h.n.2 hk
theorem RC_mv' {c : Nat} {S : Nat → Nat → Int32} {w : Nat → Int32} {p0 j0 n0 : Nat} (hp0 : p0 < 16) (hn : n0 ≤ j0) (hj0 : j0 < le w p0) (hR : RC c S w) : RC c (va_up S 13 (upd (S 13) (p0 * 10 + j0 - n0) (S 13 (p0 * 10 + j0)))) (upd w (37 + 10 * p0 + (j0 - n0)) (w (37 + 10 * p0 + j0))) := by
  have h := RC_mv (j0 := j0 - n0) (j1 := j0) hp0 (by omega) hj0 hR
  rw [show p0 * 10 + (j0 - n0) = p0 * 10 + j0 - n0 by omega] at h
  exact h
theorem failR_sn {w : Nat → Int32} {v : Nat} (hv : v < 16) : sn (flR w v) = sn w := by unfold sn flR; rw [pk_un (by omega), pk_un (by omega)]
set_option maxHeartbeats 4000000 in
set_option maxRecDepth 100000 in
theorem c_X0_appendLinkset (l : Launch) (D : va_G) (cI cO : ClassId) (sz : Nat) (h : Nat) (a : Nat → Nat) (S : Nat → Nat → Int32) (w : Nat → Int32) (c0 : Nat) (hR : RC c0 S w)  (m0 : Nat) (hn3 : nn w < 4) (hm1 : 1 ≤ m0) (hm4 : m0 ≤ 4) : Met l yX0_appendLinkset (Cond.code yX0_appendLinkset cX0_appendLinkset 3 (some .int) :: WL) ({ frames := 0, cells := 0, slots := 0, locals := 0 } : Room) (va_Pc [.ref (h), .int (nI (m0))] (PW D cI cO (stW cI h a S) sz)) (va_Qi (fun (r : Int32) (u : Nat → Nat → Int32) => r = nI (nn w) ∧ RC c0 u (addR w m0)) (QB D (stW cI h a S) sz (fun (u : Nat → Nat → Int32) => stW cI h a u)) (va_A (stW cI h a S) sz)) 0 0 (va_A (stW cI h a S) sz) := by
  refine wr_int (by decide) (Nat.le_of_ble_eq_true rfl) ?_
  intro p e s m args below meth c Q ls A F hP hC hD hA hret hl
  have hx := F.1
  have hb := F.2.1
  have hml := F.2.2.1
  have hown := F.2.2.2.1
  have hts := F.2.2.2.2
  replace hl : lv_has ls 3 [(0, .ref (h)), (1, .int (nI (m0)))] := hl
  have hS : va_S A s.heap s.heap [] := va_S.rf
  have hn4 := hR.wf.n.2
  refine lv_aload_n hx hb dX0_appendLinkset_0 rfl (lv_at hl 0 rfl) ?_
  refine gt0 hx hb hts hown hC.1 hP 0 rfl 8 (by decide) qw42 rfl dX0_appendLinkset_1 ?_
  refine w_cv (y := (nI (nn w))) hR.n ?_
  refine lv_istore_n (lv' := [(2, .int (nI (nn w))), (0, .ref (h)), (1, .int (nI (m0)))]) hx hb dX0_appendLinkset_4 rfl hl (by decide) rfl (fun ls hl => ?_)
  refine lv_aload_n hx hb dX0_appendLinkset_5 rfl (lv_at hl 1 rfl) ?_
  refine gt0 hx hb hts hown hC.1 hP 0 rfl 10 (by decide) qw45 rfl dX0_appendLinkset_6 ?_
  refine lv_iload_n hx hb dX0_appendLinkset_9 rfl (lv_at hl 0 rfl) ?_
  refine lv_iload_n hx hb dX0_appendLinkset_10 rfl (lv_at hl 2 rfl) ?_
  refine n_iast hx hb hC.1 hP hD hS 1 0 rfl rfl (by omega) (by decide) dX0_appendLinkset_11 (fun H locs hP hD hS => ?_)
  obtain ⟨S_1, hS_1⟩ : ∃ z : Nat → Nat → Int32, z = va_up S 10 (upd (S 10) (nn w) (nI (m0))) := ⟨_, rfl⟩
  replace hP : va_P D vwCl (stW cI h a S_1) H := by rw [hS_1]; exact hP
  replace hD : va_D A (stW cI h a S_1) := by rw [hS_1]; exact hD
  refine lv_aload_n hx hb dX0_appendLinkset_12 rfl (lv_at hl 1 rfl) ?_
  refine gt0 hx hb hts hown hC.1 hP 0 rfl 11 (by decide) qw46 rfl dX0_appendLinkset_13 ?_
  refine lv_iload_n hx hb dX0_appendLinkset_16 rfl (lv_at hl 0 rfl) ?_
  refine lv_iconst (v := (nI (1))) hx hb dX0_appendLinkset_17 (by decide) ?_
  refine lv_iload_n hx hb dX0_appendLinkset_18 rfl (lv_at hl 2 rfl) ?_
  refine lv_ishl hx hb dX0_appendLinkset_19 ?_
  refine lv_iconst (v := (nI (1))) hx hb dX0_appendLinkset_20 (by decide) ?_
  refine lv_isub hx hb dX0_appendLinkset_21  ?_
  refine w_cv (y := (nI (2 ^ m0 - 1))) (shl1 m0 (by omega)) ?_
  refine n_iast hx hb hC.1 hP hD hS 2 0 rfl rfl (by omega) (by decide) dX0_appendLinkset_22 (fun H locs hP hD hS => ?_)
  obtain ⟨S_2, hS_2⟩ : ∃ z : Nat → Nat → Int32, z = va_up S_1 11 (upd (S_1 11) (nn w) (nI (2 ^ m0 - 1))) := ⟨_, rfl⟩
  replace hP : va_P D vwCl (stW cI h a S_2) H := by rw [hS_2]; exact hP
  replace hD : va_D A (stW cI h a S_2) := by rw [hS_2]; exact hD
  refine lv_aload_n hx hb dX0_appendLinkset_23 rfl (lv_at hl 1 rfl) ?_
  refine lv_dup hx hb dX0_appendLinkset_24 rfl ?_
  refine gt0 hx hb hts hown hC.1 hP 0 rfl 8 (by decide) qw42 rfl dX0_appendLinkset_25 ?_
  refine w_cv (y := (nI (nn w))) (by subst hS_2; subst hS_1; rw [sup_ne (by decide), sup_ne (by decide)]; exact hR.n) ?_
  refine lv_iconst (v := (nI (1))) hx hb dX0_appendLinkset_28 (by decide) ?_
  refine n_iadd hx hb dX0_appendLinkset_29  ?_
  refine pt0 (ty := .int) hx hb hts hown hC.1 hP hD hS 0 rfl 8 (by decide) qw42 rfl (by decide +kernel) rfl rfl (Nat.le_of_ble_eq_true rfl) dX0_appendLinkset_30 (fun H locs hP hD hS => ?_)
  obtain ⟨S_3, hS_3⟩ : ∃ z : Nat → Nat → Int32, z = va_up S_2 8 (fun _ => (nI ((nn w) + 1))) := ⟨_, rfl⟩
  replace hP : va_P D vwCl (stW cI h a S_3) H := by rw [hS_3]; exact hP
  replace hD : va_D A (stW cI h a S_3) := by rw [hS_3]; exact hD
  refine lv_iload_n hx hb dX0_appendLinkset_33 rfl (lv_at hl 0 rfl) ?_
  exact hret _ (S_3) _ ls _ _ (⟨rfl, by subst hS_3; subst hS_2; subst hS_1; exact RC_add hn3 hm1 hm4 hR⟩) hP hD hS dX0_appendLinkset_34

set_option maxHeartbeats 4000000 in
set_option maxRecDepth 100000 in
theorem c_X0_activate (l : Launch) (D : va_G) (cI cO : ClassId) (sz : Nat) (h : Nat) (a : Nat → Nat) (S : Nat → Nat → Int32) (w : Nat → Int32) (c0 : Nat) (hR : RC c0 S w)  (i l_ : Nat) (hi : i < 4) (hl_ : l_ < mn w i) (hac : ac w (4 * i + l_) = 0) : Met l yX0_activate (Cond.code yX0_activate cX0_activate 3 none :: WL) ({ frames := 0, cells := 0, slots := 0, locals := 0 } : Room) (va_Pc [.ref (h), .int (nI (i)), .int (nI (l_))] (PW D cI cO (stW cI h a S) sz)) (va_Qv (fun (u : Nat → Nat → Int32) => RC c0 u (upd w (5 + (4 * i + l_)) (nI 1))) (QB D (stW cI h a S) sz (fun (u : Nat → Nat → Int32) => stW cI h a u)) (va_A (stW cI h a S) sz)) 0 0 (va_A (stW cI h a S) sz) := by
  refine wr_void (by decide) (Nat.le_of_ble_eq_true rfl) ?_
  intro p e s m args below meth c Q ls A F hP hC hD hA hret hl
  have hx := F.1
  have hb := F.2.1
  have hml := F.2.2.1
  have hown := F.2.2.2.1
  have hts := F.2.2.2.2
  replace hl : lv_has ls 3 [(0, .ref (h)), (1, .int (nI (i))), (2, .int (nI (l_)))] := hl
  have hS : va_S A s.heap s.heap [] := va_S.rf
  have hn4 := hR.wf.n.2
  have hm4 := (hR.wf.m i hi).2
  refine lv_aload_n hx hb dX0_activate_0 rfl (lv_at hl 0 rfl) ?_
  refine gt0 hx hb hts hown hC.1 hP 0 rfl 11 (by decide) qw46 rfl dX0_activate_1 ?_
  refine lv_iload_n hx hb dX0_activate_4 rfl (lv_at hl 1 rfl) ?_
  refine lv_dup2_11 hx hb dX0_activate_5 rfl rfl ?_
  refine n_iald hx hb hC.1 hP 2 0 rfl rfl (by omega) (by decide) dX0_activate_6 ?_
  refine w_cv (y := (nI (am w i))) (hR.a i hi) ?_
  refine lv_iconst (v := (nI (1))) hx hb dX0_activate_7 (by decide) ?_
  refine lv_iload_n hx hb dX0_activate_8 rfl (lv_at hl 2 rfl) ?_
  refine lv_ishl hx hb dX0_activate_9 ?_
  refine lv_ior hx hb dX0_activate_10 ?_
  refine w_cv (y := (nI (am w i + 1 * 2 ^ l_ - ac w (4 * i + l_) * 2 ^ l_))) (by rw [hac]; exact flag1 _ (am_lt hR.wf hi) l_ (by omega) ((am_tb hR.wf hi (by omega)).trans hac)) ?_
  refine n_iast hx hb hC.1 hP hD hS 2 0 rfl rfl (by omega) (by decide) dX0_activate_11 (fun H locs hP hD hS => ?_)
  obtain ⟨S_1, hS_1⟩ : ∃ z : Nat → Nat → Int32, z = va_up S 11 (upd (S 11) (i) (nI (am w i + 1 * 2 ^ l_ - ac w (4 * i + l_) * 2 ^ l_))) := ⟨_, rfl⟩
  replace hP : va_P D vwCl (stW cI h a S_1) H := by rw [hS_1]; exact hP
  replace hD : va_D A (stW cI h a S_1) := by rw [hS_1]; exact hD
  exact hret (S_1) _ ls _ _ (by subst hS_1; exact RC_flag hi hl_ (by omega) hR) hP hD hS dX0_activate_12

set_option maxHeartbeats 4000000 in
set_option maxRecDepth 100000 in
theorem c_X0_listLinks (l : Launch) (D : va_G) (cI cO : ClassId) (sz : Nat) (h : Nat) (a : Nat → Nat) (S : Nat → Nat → Int32) (w : Nat → Int32) (c0 : Nat) (hR : RC c0 S w)  (lb : Nat) (B : Nat → Int32) : Met l yX0_listLinks (Cond.code yX0_listLinks cX0_listLinks 3 none :: WL) ({ frames := 4, cells := 0, slots := 0, locals := 90 } : Room) (va_Pc [.ref (h), .ref (lb)] (PW D cI cO (stW cI h a S ++ ([(lb, .inl (cI, 96, .inl B))])) sz)) (va_Qv (fun (u : Nat → Int32) => ∀ j, j < 96 → u j = lk w j) (QB D (stW cI h a S ++ ([(lb, .inl (cI, 96, .inl B))])) sz (fun (u : Nat → Int32) => stW cI h a S ++ ([(lb, .inl (cI, 96, .inl u))]))) (va_A (stW cI h a S ++ ([(lb, .inl (cI, 96, .inl B))])) sz)) 0 0 (va_A (stW cI h a S ++ ([(lb, .inl (cI, 96, .inl B))])) sz) := by
  refine wr_void (by decide) (Nat.le_of_ble_eq_true rfl) ?_
  intro p e s m args below meth c Q ls A F hP hC hD hA hret hl
  have hx := F.1
  have hb := F.2.1
  have hml := F.2.2.1
  have hown := F.2.2.2.1
  have hts := F.2.2.2.2
  replace hl : lv_has ls 3 [(0, .ref (h)), (1, .ref (lb))] := hl
  have hS : va_S A s.heap s.heap [] := va_S.rf
  have hn4 := hR.wf.n.2
  refine lv_iconst (v := (nI (0))) hx hb dX0_listLinks_0 (by decide) ?_
  refine lv_istore_n (lv' := [(2, .int (nI (0))), (0, .ref (h)), (1, .ref (lb))]) hx hb dX0_listLinks_1 rfl hl (by decide) rfl (fun ls hl => ?_)
  have lp_2 : ∀ (fu_2 : Nat) (k : Nat) (Bk : Nat → Int32) (H : Heap) (locs : List Loc) (ls : Array Slot), 96 - k < fu_2 → (k ≤ 96) → (∀ j, j < k → Bk j = lk w j) → va_P D vwCl (stW cI h a S ++ ([(lb, .inl (cI, 96, .inl Bk))])) H → va_D A (stW cI h a S ++ ([(lb, .inl (cI, 96, .inl Bk))])) → va_S A s.heap H locs → lv_has ls 3 [(2, .int (nI (k))), (0, .ref (h)), (1, .ref (lb))] → W p l e ({ frames := 4, cells := 0, slots := 0, locals := 90 } : Room) s m args below meth c H locs 0 0 Q (F0 m 2 ls []) := by
    intro fu_2
    induction fu_2 with
    | zero => intro k Bk H locs ls hmu_2; exact absurd hmu_2 (Nat.not_lt_zero _)
    | succ fu_2 ih_2 =>
      intro k Bk H locs ls hmu_2 hk hB hP hD hS hl
      refine lv_iload_n hx hb dX0_listLinks_2 rfl (lv_at hl 0 rfl) ?_
      refine lv_bipush (v := (nI (96))) hx hb dX0_listLinks_3 (by decide) ?_
      refine n_icmp_ge (tgt := 22) hx hb dX0_listLinks_5 (by decide) (by omega) (by omega) (fun c_5 => ?_) (fun c_5 => ?_)
      · exact hret (Bk) _ ls _ _ (fun j hj => hB j (by omega)) hP hD hS dX0_listLinks_22
      · refine lv_aload_n hx hb dX0_listLinks_8 rfl (lv_at hl 2 rfl) ?_
        refine lv_iload_n hx hb dX0_listLinks_9 rfl (lv_at hl 0 rfl) ?_
        refine lv_aload_n hx hb dX0_listLinks_10 rfl (lv_at hl 1 rfl) ?_
        refine lv_iload_n hx hb dX0_listLinks_11 rfl (lv_at hl 0 rfl) ?_
        refine goR (kV (As := [.int (nI (k))]) (rest := [.int (nI (k)), .ref (lb)]) F (c_X0_linkOfStream l D cI cO h a S w c0 hR (k) (by omega)) ywX0_linkOfStream qw208 qw210 qs11 ⟨rfl, rfl⟩ ⟨Nat.le_of_ble_eq_true rfl, Nat.le_of_ble_eq_true rfl⟩ (preV (preR (va_pl0 hP) hC) hC hP (ci := 0) (q0 := 0) rfl rfl rfl) rfl hl.1 rfl (Nat.le_of_ble_eq_true rfl) dX0_listLinks_12 ⟨Nat.zero_le _, Nat.zero_le _⟩) (fun r_12 h_12 => ?_)
        subst h_12
        refine n_iast hx hb hC.1 hP hD hS 10 0 rfl rfl (by omega) (by decide) dX0_listLinks_15 (fun H locs hP hD hS => ?_)
        obtain ⟨f_1, hf_1⟩ : ∃ z : Nat → Int32, z = upd Bk (k) (lk w k) := ⟨_, rfl⟩
        replace hP : va_P D vwCl (stW cI h a S ++ ([(lb, .inl (cI, 96, .inl f_1))])) H := by rw [hf_1]; exact hP
        replace hD : va_D A (stW cI h a S ++ ([(lb, .inl (cI, 96, .inl f_1))])) := by rw [hf_1]; exact hD
        refine n_iinc (a := k) (b := 1) (lv' := [(2, .int (nI (k + 1))), (0, .ref (h)), (1, .ref (lb))]) hx hb dX0_listLinks_16 hl (k := 0) rfl rfl (by decide) rfl (fun ls hl => ?_)
        refine lv_goto (tgt := 2) hx hb dX0_listLinks_19 (by decide) ?_
        exact ih_2 (k + 1) (f_1) _ _ ls (by omega) (by omega) (fun j hj => by rw [hf_1]; exact if h9 : j = k then (by rw [h9, upd_eq]) else (by rw [pk_un h9]; exact hB j (by omega))) hP hD hS (lv_sub hl [0, 1, 2] rfl)
  exact lp_2 _ (0) (B) _ _ ls (Nat.lt_succ_self _) (by omega) (fun j hj => absurd hj (by omega)) hP hD hS (lv_sub hl [0, 1, 2] rfl)

set_option maxHeartbeats 4000000 in
set_option maxRecDepth 100000 in
theorem c_X0_divertMoved (l : Launch) (D : va_G) (cI cO : ClassId) (sz : Nat) (h : Nat) (a : Nat → Nat) (S : Nat → Nat → Int32) (w : Nat → Int32) (c0 : Nat) (hR : RC c0 S w)  (lb : Nat) (B : Nat → Int32) (hc : c0 < 1000) (hacc : ∀ j, j < 96 → ¬ B j = -1 → ¬ lk w j = -1) : Met l yX0_divertMoved (Cond.code yX0_divertMoved cX0_divertMoved 4 (some .int) :: WL) ({ frames := 4, cells := 0, slots := 0, locals := 90 } : Room) (va_Pc [.ref (h), .ref (lb)] (PW D cI cO (stW cI h a S ++ ([(lb, .inl (cI, 96, .inl B))])) sz)) (va_Qi (fun (r : Int32) (u : Nat → Nat → Int32) => r = nI (dvN w B 96).2 ∧ RC c0 u (dvN w B 96).1) (QB D (stW cI h a S ++ ([(lb, .inl (cI, 96, .inl B))])) sz (fun (u : Nat → Nat → Int32) => stW cI h a u ++ ([(lb, .inl (cI, 96, .inl B))]))) (va_A (stW cI h a S ++ ([(lb, .inl (cI, 96, .inl B))])) sz)) 0 0 (va_A (stW cI h a S ++ ([(lb, .inl (cI, 96, .inl B))])) sz) := by
  refine wr_int (by decide) (Nat.le_of_ble_eq_true rfl) ?_
  intro p e s m args below meth c Q ls A F hP hC hD hA hret hl
  have hx := F.1
  have hb := F.2.1
  have hml := F.2.2.1
  have hown := F.2.2.2.1
  have hts := F.2.2.2.2
  replace hl : lv_has ls 4 [(0, .ref (h)), (1, .ref (lb))] := hl
  have hS : va_S A s.heap s.heap [] := va_S.rf
  have hn4 := hR.wf.n.2
  have hd9 := hR.wf.d.2
  have ht := hR.wf.t.2
  refine lv_aload_n hx hb dX0_divertMoved_0 rfl (lv_at hl 0 rfl) ?_
  refine gt0 hx hb hts hown hC.1 hP 0 rfl 1 (by decide) qw28 rfl dX0_divertMoved_1 ?_
  refine w_cv (y := (nI (hd w))) hR.d ?_
  refine n_if_ne (tgt := 9) hx hb dX0_divertMoved_4 (by decide) (by omega) (fun c_4 => ?_) (fun c_4 => ?_)
  · refine lv_iconst (v := (nI (0))) hx hb dX0_divertMoved_9 (by decide) ?_
    refine lv_istore_n (lv' := [(2, .int (nI (0))), (0, .ref (h)), (1, .ref (lb))]) hx hb dX0_divertMoved_10 rfl hl (by decide) rfl (fun ls hl => ?_)
    refine lv_iconst (v := (nI (0))) hx hb dX0_divertMoved_11 (by decide) ?_
    refine lv_istore_n (lv' := [(3, .int (nI (0))), (2, .int (nI (0))), (0, .ref (h)), (1, .ref (lb))]) hx hb dX0_divertMoved_12 rfl hl (by decide) rfl (fun ls hl => ?_)
    have lp_13 : ∀ (fu_13 : Nat) (k : Nat) (cn : Nat) (T : Nat → Nat → Int32) (H : Heap) (locs : List Loc) (ls : Array Slot), 96 - k < fu_13 → (k ≤ 96) → (cn = (dvN w B k).2) → (RC c0 T (dvN w B k).1) → va_P D vwCl (stW cI h a T ++ ([(lb, .inl (cI, 96, .inl B))])) H → va_D A (stW cI h a T ++ ([(lb, .inl (cI, 96, .inl B))])) → va_S A s.heap H locs → lv_has ls 4 [(3, .int (nI (k))), (2, .int (nI (cn))), (0, .ref (h)), (1, .ref (lb))] → W p l e ({ frames := 4, cells := 0, slots := 0, locals := 90 } : Room) s m args below meth c H locs 0 0 Q (F0 m 13 ls []) := by
      intro fu_13
      induction fu_13 with
      | zero => intro k cn T H locs ls hmu_13; exact absurd hmu_13 (Nat.not_lt_zero _)
      | succ fu_13 ih_13 =>
        intro k cn T H locs ls hmu_13 hk hcn hRT hP hD hS hl
        have htm : tm (dvN w B k).1 = tm w := by unfold tm; rw [dvN_ne k (by omega)]
        have hhd : hd (dvN w B k).1 = hd w := by unfold hd; rw [dvN_ne k (by omega)]
        refine lv_iload_n hx hb dX0_divertMoved_13 rfl (lv_at hl 0 rfl) ?_
        refine lv_bipush (v := (nI (96))) hx hb dX0_divertMoved_14 (by decide) ?_
        refine n_icmp_ge (tgt := 61) hx hb dX0_divertMoved_16 (by decide) (by omega) (by omega) (fun c_16 => ?_) (fun c_16 => ?_)
        · refine lv_iload_n hx hb dX0_divertMoved_61 rfl (lv_at hl 1 rfl) ?_
          exact hret _ (T) _ ls _ _ (⟨by rw [hcn, show k = 96 by omega], by have e9 : k = 96 := (by omega); rw [← e9]; exact hRT⟩) hP hD hS dX0_divertMoved_62
        · refine lv_aload_n hx hb dX0_divertMoved_19 rfl (lv_at hl 3 rfl) ?_
          refine lv_iload_n hx hb dX0_divertMoved_20 rfl (lv_at hl 0 rfl) ?_
          refine n_iald hx hb hC.1 hP 10 0 rfl rfl (by omega) (by decide) dX0_divertMoved_21 ?_
          refine lv_iconst (v := (-1)) hx hb dX0_divertMoved_22 (by decide) ?_
          refine lv_icmp_eq (tgt := 55) hx hb dX0_divertMoved_23 (by decide)  (fun c_23 => ?_) (fun c_23 => ?_)
          · refine n_iinc (a := k) (b := 1) (lv' := [(3, .int (nI (k + 1))), (2, .int (nI (cn))), (0, .ref (h)), (1, .ref (lb))]) hx hb dX0_divertMoved_55 hl (k := 0) rfl rfl (by decide) rfl (fun ls hl => ?_)
            refine lv_goto (tgt := 13) hx hb dX0_divertMoved_58 (by decide) ?_
            exact ih_13 (k + 1) (cn) (T) _ _ ls (by omega) (by omega) (by simp only [dvN]; rw [if_neg (fun e9 => e9.2.1 c_23)]; exact hcn) (by simp only [dvN]; rw [if_neg (fun e9 => e9.2.1 c_23)]; exact hRT) hP hD hS (lv_sub hl [0, 1, 2, 3] rfl)
          · refine lv_aload_n hx hb dX0_divertMoved_26 rfl (lv_at hl 3 rfl) ?_
            refine lv_iload_n hx hb dX0_divertMoved_27 rfl (lv_at hl 0 rfl) ?_
            refine n_iald hx hb hC.1 hP 10 0 rfl rfl (by omega) (by decide) dX0_divertMoved_28 ?_
            refine lv_aload_n hx hb dX0_divertMoved_29 rfl (lv_at hl 2 rfl) ?_
            refine lv_iload_n hx hb dX0_divertMoved_30 rfl (lv_at hl 0 rfl) ?_
            refine goR (kV (As := [.int (nI (k))]) (rest := [.int (B (k))]) F (c_X0_linkOfStream l D cI cO h a T (dvN w B k).1 c0 hRT (k) (by omega)) ywX0_linkOfStream qw208 qw210 qs11 ⟨rfl, rfl⟩ ⟨Nat.le_of_ble_eq_true rfl, Nat.le_of_ble_eq_true rfl⟩ (preV (preR (va_pl0 hP) hC) hC hP (ci := 0) (q0 := 0) rfl rfl rfl) rfl hl.1 rfl (Nat.le_of_ble_eq_true rfl) dX0_divertMoved_31 ⟨Nat.zero_le _, Nat.zero_le _⟩) (fun r_31 h_31 => ?_)
            subst h_31
            refine w_cv (y := (lk w k)) (lk_dvN hR.wf hk (by omega)) ?_
            refine lv_icmp_eq (tgt := 55) hx hb dX0_divertMoved_34 (by decide)  (fun c_34 => ?_) (fun c_34 => ?_)
            · refine n_iinc (a := k) (b := 1) (lv' := [(3, .int (nI (k + 1))), (2, .int (nI (cn))), (0, .ref (h)), (1, .ref (lb))]) hx hb dX0_divertMoved_55 hl (k := 0) rfl rfl (by decide) rfl (fun ls hl => ?_)
              refine lv_goto (tgt := 13) hx hb dX0_divertMoved_58 (by decide) ?_
              exact ih_13 (k + 1) (cn) (T) _ _ ls (by omega) (by omega) (by simp only [dvN]; rw [if_neg (fun e9 => e9.2.2.2 c_34.symm)]; exact hcn) (by simp only [dvN]; rw [if_neg (fun e9 => e9.2.2.2 c_34.symm)]; exact hRT) hP hD hS (lv_sub hl [0, 1, 2, 3] rfl)
            · refine lv_aload_n hx hb dX0_divertMoved_37 rfl (lv_at hl 2 rfl) ?_
              refine gt0 hx hb hts hown hC.1 hP 0 rfl 16 (by decide) qw55 rfl dX0_divertMoved_38 ?_
              refine lv_iload_n hx hb dX0_divertMoved_41 rfl (lv_at hl 0 rfl) ?_
              refine lv_aload_n hx hb dX0_divertMoved_42 rfl (lv_at hl 2 rfl) ?_
              refine gt0 hx hb hts hown hC.1 hP 0 rfl 0 (by decide) qw26 rfl dX0_divertMoved_43 ?_
              refine w_cv (y := (nI (tm w))) (hRT.t.trans (congrArg nI htm)) ?_
              refine lv_aload_n hx hb dX0_divertMoved_46 rfl (lv_at hl 2 rfl) ?_
              refine gt0 hx hb hts hown hC.1 hP 0 rfl 1 (by decide) qw28 rfl dX0_divertMoved_47 ?_
              refine w_cv (y := (nI (hd w))) (hRT.d.trans (congrArg nI hhd)) ?_
              refine n_iadd hx hb dX0_divertMoved_50  ?_
              refine n_iast hx hb hC.1 hP hD hS 7 0 rfl rfl (by omega) (by decide) dX0_divertMoved_51 (fun H locs hP hD hS => ?_)
              obtain ⟨S_1, hS_1⟩ : ∃ z : Nat → Nat → Int32, z = va_up T 16 (upd (T 16) (k) (nI ((tm w) + (hd w)))) := ⟨_, rfl⟩
              replace hP : va_P D vwCl (stW cI h a S_1 ++ ([(lb, .inl (cI, 96, .inl B))])) H := by rw [hS_1]; exact hP
              replace hD : va_D A (stW cI h a S_1 ++ ([(lb, .inl (cI, 96, .inl B))])) := by rw [hS_1]; exact hD
              refine n_iinc (a := cn) (b := 1) (lv' := [(2, .int (nI (cn + 1))), (3, .int (nI (k))), (0, .ref (h)), (1, .ref (lb))]) hx hb dX0_divertMoved_52 hl (k := 1) rfl rfl (by decide) rfl (fun ls hl => ?_)
              refine n_iinc (a := k) (b := 1) (lv' := [(3, .int (nI (k + 1))), (2, .int (nI (cn + 1))), (0, .ref (h)), (1, .ref (lb))]) hx hb dX0_divertMoved_55 hl (k := 1) rfl rfl (by decide) rfl (fun ls hl => ?_)
              refine lv_goto (tgt := 13) hx hb dX0_divertMoved_58 (by decide) ?_
              exact ih_13 (k + 1) (cn + 1) (S_1) _ _ ls (by omega) (by omega) (by simp only [dvN]; rw [if_pos ⟨c_4, c_23, hacc k (by omega) c_23, fun e9 => c_34 e9.symm⟩]; show _ = _ + 1; omega) (by simp only [dvN]; rw [if_pos ⟨c_4, c_23, hacc k (by omega) c_23, fun e9 => c_34 e9.symm⟩, hS_1]; have h9 := RC_until (k0 := k) (by omega) (by rw [hhd]; exact c_4) hc hRT; rw [htm, hhd] at h9; exact h9) hP hD hS (lv_sub hl [0, 1, 2, 3] rfl)
    exact lp_13 _ (0) (0) (S) _ _ ls (Nat.lt_succ_self _) (by omega) (rfl) (hR) hP hD hS (lv_sub hl [0, 1, 2, 3] rfl)
  · refine lv_iconst (v := (nI (0))) hx hb dX0_divertMoved_7 (by decide) ?_
    exact hret _ (S) _ ls _ _ (⟨by rw [dvN_0 c_4], by rw [dvN_0 c_4]; exact hR⟩) hP hD hS dX0_divertMoved_8
