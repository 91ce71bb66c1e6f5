def nxU (n : Nat) (w past er : Nat → Int32) (r : Int32) (u : MV) : Prop :=
  (n = 0 → r = -3 ∧ u.1 = w ∧ u.2.1 = past ∧ u.2.2.1 = upd er 1 (er 1 + nI 1) ∧ u.2.2.2.2.2.1 = nI n) ∧
  (¬ n = 0 → r = nI (n - 1) ∧ (∀ k, k < 470 → u.1 k = past (470 * (n - 1) + k)) ∧ u.2.1 = past ∧ u.2.2.1 = er ∧ u.2.2.2.2.2.1 = nI (n - 1))
def dgs (w er : Nat → Int32) (n : Nat) : Int64 := mxH w (mxDs w (mxS w (mx (mxC w (mx (mx (mx (mx 12144 (er 0)) (er 1)) (er 2)) (nI n))) (nI (nn w))) (nn w)) 6)
set_option maxHeartbeats 4000000 in
set_option maxRecDepth 100000 in
theorem c_X3_undo (l : Launch) (D : va_G) (cI cO : ClassId) (sz : Nat) (h : Nat) (b : Nat → Nat) (w past er bf tk : Nat → Int32) (sv : Int32) (hs : Int64) (c0 : Nat) (hW : WF c0 w)  (n_ : Nat) (hc9 : c0 < 900) (hn_ : n_ ≤ 4) (hsv : sv = nI n_) : Met l yX3_undo (Cond.code yX3_undo cX3_undo 2 (some .int) :: WL) ({ frames := 1, cells := 0, slots := 0, locals := 21 } : Room) (va_Pc [.ref (h)] (PW D cI cO (mdW cI h b w past er bf tk sv hs) sz)) (va_Qi (fun (r : Int32) (u : MV) => nxU n_ w past er r u) (QB D (mdW cI h b w past er bf tk sv hs) sz (fun (u : MV) => mdU cI h b u)) (va_A (mdW cI h b w past er bf tk sv hs) sz)) 0 0 (va_A (mdW cI h b w past er bf tk sv hs) sz) := by
  refine wr_int (by decide) (Nat.le_of_ble_eq_true rfl) ?_
  intro p e s m args below meth c Q ls A F hP hC hD hA hret hl
  have hx := F.1
  have hb := F.2.1
  have hml := F.2.2.1
  have hown := F.2.2.2.1
  have hts := F.2.2.2.2
  replace hl : lv_has ls 2 [(0, .ref (h))] := hl
  have hS : va_S A s.heap s.heap [] := va_S.rf
  have hn4 := hW.n.2
  refine lv_aload_n hx hb dX3_undo_0 rfl (lv_at hl 0 rfl) ?_
  refine gt3 hx hb hts hown hC.1 hP 0 rfl 2 (by decide) qw458 rfl dX3_undo_1 ?_
  refine w_cv (y := (nI (n_))) hsv ?_
  refine n_if_ne (tgt := 14) hx hb dX3_undo_4 (by decide) (by omega) (fun c_4 => ?_) (fun c_4 => ?_)
  · refine lv_aload_n hx hb dX3_undo_14 rfl (lv_at hl 0 rfl) ?_
    refine lv_dup hx hb dX3_undo_15 rfl ?_
    refine gt3 hx hb hts hown hC.1 hP 0 rfl 2 (by decide) qw458 rfl dX3_undo_16 ?_
    refine w_cv (y := (nI (n_))) hsv ?_
    refine lv_iconst (v := (nI (1))) hx hb dX3_undo_19 (by decide) ?_
    refine n_isub hx hb dX3_undo_20 (by omega) ?_
    refine pt3 (ty := .int) hx hb hts hown hC.1 hP hD hS 0 rfl 2 (by decide) qw458 rfl (by decide +kernel) rfl rfl (Nat.le_of_ble_eq_true rfl) dX3_undo_21 (fun H locs hP hD hS => ?_)
    replace hP : va_P D vwCl (mdW cI h b w past er bf tk ((nI (n_ - 1))) hs) H := by exact hP
    replace hD : va_D A (mdW cI h b w past er bf tk ((nI (n_ - 1))) hs) := by exact hD
    refine lv_iconst (v := (nI (0))) hx hb dX3_undo_24 (by decide) ?_
    refine lv_istore_n (lv' := [(1, .int (nI (0))), (0, .ref (h))]) hx hb dX3_undo_25 rfl hl (by decide) rfl (fun ls hl => ?_)
    have lp_26 : ∀ (fu_26 : Nat) (j : Nat) (wk : Nat → Int32) (H : Heap) (locs : List Loc) (ls : Array Slot), 470 - j < fu_26 → (j ≤ 470) → (∀ k, k < j → wk k = past (470 * (n_ - 1) + k)) → va_P D vwCl (mdW cI h b wk past er bf tk ((nI (n_ - 1))) hs) H → va_D A (mdW cI h b wk past er bf tk ((nI (n_ - 1))) hs) → va_S A s.heap H locs → lv_has ls 2 [(1, .int (nI (j))), (0, .ref (h))] → W p l e ({ frames := 1, cells := 0, slots := 0, locals := 21 } : Room) s m args below meth c H locs 0 0 Q (F0 m 26 ls []) := by
      intro fu_26
      induction fu_26 with
      | zero => intro j wk H locs ls hmu_26; exact absurd hmu_26 (Nat.not_lt_zero _)
      | succ fu_26 ih_26 =>
        intro j wk H locs ls hmu_26 hj hwk hP hD hS hl
        refine lv_iload_n hx hb dX3_undo_26 rfl (lv_at hl 0 rfl) ?_
        refine lv_sipush (v := (nI (470))) hx hb dX3_undo_27 (by decide) ?_
        refine n_icmp_ge (tgt := 60) hx hb dX3_undo_30 (by decide) (by omega) (by omega) (fun c_30 => ?_) (fun c_30 => ?_)
        · refine lv_aload_n hx hb dX3_undo_60 rfl (lv_at hl 1 rfl) ?_
          refine gt3 hx hb hts hown hC.1 hP 0 rfl 2 (by decide) qw458 rfl dX3_undo_61 ?_
          exact hret _ (wk, past, er, bf, tk, (nI (n_ - 1)), hs) _ ls _ _ (⟨fun q => absurd q c_4, fun _ => ⟨rfl, fun k hk => hwk k (by omega), rfl, rfl, rfl⟩⟩) hP hD hS dX3_undo_64
        · refine lv_aload_n hx hb dX3_undo_33 rfl (lv_at hl 1 rfl) ?_
          refine gt3 hx hb hts hown hC.1 hP 0 rfl 0 (by decide) qw456 rfl dX3_undo_34 ?_
          refine lv_iload_n hx hb dX3_undo_37 rfl (lv_at hl 0 rfl) ?_
          refine lv_aload_n hx hb dX3_undo_38 rfl (lv_at hl 1 rfl) ?_
          refine gt3 hx hb hts hown hC.1 hP 0 rfl 1 (by decide) qw457 rfl dX3_undo_39 ?_
          refine lv_sipush (v := (nI (470))) hx hb dX3_undo_42 (by decide) ?_
          refine lv_aload_n hx hb dX3_undo_45 rfl (lv_at hl 1 rfl) ?_
          refine gt3 hx hb hts hown hC.1 hP 0 rfl 2 (by decide) qw458 rfl dX3_undo_46 ?_
          refine n_imul hx hb dX3_undo_49  ?_
          refine lv_iload_n hx hb dX3_undo_50 rfl (lv_at hl 0 rfl) ?_
          refine n_iadd hx hb dX3_undo_51  ?_
          refine n_iald hx hb hC.1 hP 2 0 rfl rfl (by omega) (by decide) dX3_undo_52 ?_
          refine n_iast hx hb hC.1 hP hD hS 1 0 rfl rfl (by omega) (by decide) dX3_undo_53 (fun H locs hP hD hS => ?_)
          obtain ⟨w_1, hw_1⟩ : ∃ z : Nat → Int32, z = upd wk (j) (past ((470 * (n_ - 1)) + j)) := ⟨_, rfl⟩
          replace hP : va_P D vwCl (mdW cI h b w_1 past er bf tk ((nI (n_ - 1))) hs) H := by rw [hw_1]; exact hP
          replace hD : va_D A (mdW cI h b w_1 past er bf tk ((nI (n_ - 1))) hs) := by rw [hw_1]; exact hD
          refine n_iinc (a := j) (b := 1) (lv' := [(1, .int (nI (j + 1))), (0, .ref (h))]) hx hb dX3_undo_54 hl (k := 0) rfl rfl (by decide) rfl (fun ls hl => ?_)
          refine lv_goto (tgt := 26) hx hb dX3_undo_57 (by decide) ?_
          exact ih_26 (j + 1) (w_1) _ _ ls (by omega) (by omega) (fun k hk => by rw [hw_1]; exact if h9 : k = j then (by rw [h9, upd_eq]) else (by rw [pk_un h9]; exact hwk k (by omega))) hP hD hS (lv_sub hl [0, 1] rfl)
    exact lp_26 _ (0) (w) _ _ ls (Nat.lt_succ_self _) (Nat.zero_le _) (fun k hk => absurd hk (by omega)) hP hD hS (lv_sub hl [0, 1] rfl)
  · refine lv_aload_n hx hb dX3_undo_7 rfl (lv_at hl 0 rfl) ?_
    refine lv_bipush (v := (-3)) hx hb dX3_undo_8 (by decide) ?_
    refine goWi (pre := []) (wc := mdW cI h b w past er bf tk sv hs) (suf := []) (kV (As := [.int (-3)]) (rest := []) F (c_X3_fails l D cI cO _ h b w past er bf tk sv hs c0 hW 1 (by decide)) ywX3_fails qw482 qw484 qs33 ⟨rfl, rfl⟩ ⟨Nat.le_of_ble_eq_true rfl, Nat.le_of_ble_eq_true rfl⟩ (preV (preW hP hC hD) hC hP (ci := 3) (q0 := 0) rfl rfl rfl) rfl hl.1 rfl (Nat.le_of_ble_eq_true rfl) dX3_undo_10 ⟨Nat.zero_le _, Nat.zero_le _⟩) (by simpa only [List.append_assoc, List.nil_append, List.append_nil] using hP) (by simpa only [List.append_assoc, List.nil_append, List.append_nil] using hD) hS hA (fun r_10 er_1 H locs h_10 hP hD hS => ?_)
    replace hP : va_P D vwCl (mdW cI h b w past er_1 bf tk sv hs) H := by simpa only [List.append_assoc, List.nil_append, List.append_nil] using hP
    replace hD : va_D A (mdW cI h b w past er_1 bf tk sv hs) := by simpa only [List.append_assoc, List.nil_append, List.append_nil] using hD
    obtain ⟨h_10, k_10⟩ := h_10
    subst h_10
    exact hret _ (w, past, er_1, bf, tk, sv, hs) _ ls _ _ (⟨fun _ => ⟨rfl, rfl, rfl, k_10, hsv⟩, fun q => absurd c_4 q⟩) hP hD hS dX3_undo_13

set_option maxHeartbeats 4000000 in
set_option maxRecDepth 100000 in
theorem c_X3_digest (l : Launch) (D : va_G) (cI cO : ClassId) (sz : Nat) (h : Nat) (b : Nat → Nat) (w past er bf tk : Nat → Int32) (sv : Int32) (hs : Int64) (c0 : Nat) (hW : WF c0 w)  (n_ : Nat) (hc9 : c0 < 900) (hn_ : n_ ≤ 4) (hsv : sv = nI n_) : Met l yX3_digest (Cond.code yX3_digest cX3_digest 3 (some .long) :: WL) ({ frames := 5, cells := 0, slots := 0, locals := 119 } : Room) (va_Pc [.ref (h)] (PW D cI cO (mdW cI h b w past er bf tk sv hs) sz)) (va_Ql (fun (r : Int64) (u : Int64) => r = dgs w er n_) (QB D (mdW cI h b w past er bf tk sv hs) sz (fun (u : Int64) => mdW cI h b w past er bf tk sv u)) (va_A (mdW cI h b w past er bf tk sv hs) sz)) 0 0 (va_A (mdW cI h b w past er bf tk sv hs) sz) := by
  refine wr_long (by decide) (Nat.le_of_ble_eq_true rfl) ?_
  intro p e s m args below meth c Q ls A F hP hC hD hA hret hl
  have hx := F.1
  have hb := F.2.1
  have hml := F.2.2.1
  have hown := F.2.2.2.1
  have hts := F.2.2.2.2
  replace hl : lv_has ls 3 [(0, .ref (h))] := hl
  have hS : va_S A s.heap s.heap [] := va_S.rf
  have hn4 := hW.n.2
  have hc : c0 < 1000 := by omega
  have hh24 := hW.h.2
  have hsn := hW.e.2
  refine lv_aload_n hx hb dX3_digest_0 rfl (lv_at hl 0 rfl) ?_
  refine lv_ldc2 (own := "SignallingPointModel") (v := 12144) hx hb hown (hts _ qw662) dX3_digest_1 ?_
  refine pt3 (ty := .long) hx hb hts hown hC.1 hP hD hS 0 rfl 6 (by decide) qw462 rfl (by decide +kernel) rfl rfl (Nat.le_of_ble_eq_true rfl) dX3_digest_4 (fun H locs hP hD hS => ?_)
  obtain ⟨hs_1, hhs_1⟩ : ∃ z : Int64, z = (12144) := ⟨_, rfl⟩
  replace hP : va_P D vwCl (mdW cI h b w past er bf tk sv hs_1) H := by rw [hhs_1]; exact hP
  replace hD : va_D A (mdW cI h b w past er bf tk sv hs_1) := by rw [hhs_1]; exact hD
  refine lv_iconst (v := (nI (0))) hx hb dX3_digest_7 (by decide) ?_
  refine lv_istore_n (lv' := [(1, .int (nI (0))), (0, .ref (h))]) hx hb dX3_digest_8 rfl hl (by decide) rfl (fun ls hl => ?_)
  have lp_9 : ∀ (fu_9 : Nat) (e1 : Nat) (g1 : Int64) (H : Heap) (locs : List Loc) (ls : Array Slot), 3 - e1 < fu_9 → (e1 ≤ 3) → (g1 = mxN er 12144 e1) → va_P D vwCl (mdW cI h b w past er bf tk sv g1) H → va_D A (mdW cI h b w past er bf tk sv g1) → va_S A s.heap H locs → lv_has ls 3 [(1, .int (nI (e1))), (0, .ref (h))] → W p l e ({ frames := 5, cells := 0, slots := 0, locals := 119 } : Room) s m args below meth c H locs 0 0 Q (F0 m 9 ls []) := by
    intro fu_9
    induction fu_9 with
    | zero => intro e1 g1 H locs ls hmu_9; exact absurd hmu_9 (Nat.not_lt_zero _)
    | succ fu_9 ih_9 =>
      intro e1 g1 H locs ls hmu_9 he1 hg1 hP hD hS hl
      refine lv_iload_n hx hb dX3_digest_9 rfl (lv_at hl 0 rfl) ?_
      refine lv_iconst (v := (nI (3))) hx hb dX3_digest_10 (by decide) ?_
      refine n_icmp_ge (tgt := 30) hx hb dX3_digest_11 (by decide) (by omega) (by omega) (fun c_11 => ?_) (fun c_11 => ?_)
      · refine lv_aload_n hx hb dX3_digest_30 rfl (lv_at hl 1 rfl) ?_
        refine lv_aload_n hx hb dX3_digest_31 rfl (lv_at hl 1 rfl) ?_
        refine gt3 hx hb hts hown hC.1 hP 0 rfl 2 (by decide) qw458 rfl dX3_digest_32 ?_
        refine w_cv (y := (nI (n_))) hsv ?_
        refine goWv (pre := []) (wc := mdW cI h b w past er bf tk sv g1) (suf := []) (kV (As := [.int (nI (n_))]) (rest := []) F (c_X3_mix l D cI cO _ h b w past er bf tk sv g1 c0 hW (nI (n_))) ywX3_mix qw663 qw665 qs47 ⟨rfl, rfl⟩ ⟨Nat.le_of_ble_eq_true rfl, Nat.le_of_ble_eq_true rfl⟩ (preV (preW hP hC hD) hC hP (ci := 3) (q0 := 0) rfl rfl rfl) rfl hl.1 rfl (Nat.le_of_ble_eq_true rfl) dX3_digest_35 ⟨Nat.zero_le _, Nat.zero_le _⟩) (by simpa only [List.append_assoc, List.nil_append, List.append_nil] using hP) (by simpa only [List.append_assoc, List.nil_append, List.append_nil] using hD) hS hA (fun hs_2 H locs h_35 hP hD hS => ?_)
        replace hP : va_P D vwCl (mdW cI h b w past er bf tk sv hs_2) H := by simpa only [List.append_assoc, List.nil_append, List.append_nil] using hP
        replace hD : va_D A (mdW cI h b w past er bf tk sv hs_2) := by simpa only [List.append_assoc, List.nil_append, List.append_nil] using hD
        refine lv_sipush (v := (nI (462))) hx hb dX3_digest_38 (by decide) ?_
        refine lv_istore_n (lv' := [(1, .int (nI (462))), (0, .ref (h))]) hx hb dX3_digest_41 rfl hl (by decide) rfl (fun ls hl => ?_)
        have lp_42 : ∀ (fu_42 : Nat) (t_ : Nat) (g2 : Int64) (H : Heap) (locs : List Loc) (ls : Array Slot), 8 - t_ < fu_42 → (t_ ≤ 8) → (g2 = mxN (fun j => w (462 + j)) (mx (mx (mx (mx 12144 (er 0)) (er 1)) (er 2)) (nI n_)) t_) → va_P D vwCl (mdW cI h b w past er bf tk sv g2) H → va_D A (mdW cI h b w past er bf tk sv g2) → va_S A s.heap H locs → lv_has ls 3 [(1, .int (nI (462 + t_))), (0, .ref (h))] → W p l e ({ frames := 5, cells := 0, slots := 0, locals := 119 } : Room) s m args below meth c H locs 0 0 Q (F0 m 42 ls []) := by
          intro fu_42
          induction fu_42 with
          | zero => intro t_ g2 H locs ls hmu_42; exact absurd hmu_42 (Nat.not_lt_zero _)
          | succ fu_42 ih_42 =>
            intro t_ g2 H locs ls hmu_42 ht hg2 hP hD hS hl
            refine lv_iload_n hx hb dX3_digest_42 rfl (lv_at hl 0 rfl) ?_
            refine lv_sipush (v := (nI (469))) hx hb dX3_digest_43 (by decide) ?_
            refine n_icmp_gt (tgt := 65) hx hb dX3_digest_46 (by decide) (by omega) (by omega) (fun c_46 => ?_) (fun c_46 => ?_)
            · refine lv_aload_n hx hb dX3_digest_65 rfl (lv_at hl 1 rfl) ?_
              refine lv_aload_n hx hb dX3_digest_66 rfl (lv_at hl 1 rfl) ?_
              refine gt3 hx hb hts hown hC.1 hP 0 rfl 0 (by decide) qw456 rfl dX3_digest_67 ?_
              refine lv_iconst (v := (nI (0))) hx hb dX3_digest_70 (by decide) ?_
              refine n_iald hx hb hC.1 hP 1 0 rfl rfl (by omega) (by decide) dX3_digest_71 ?_
              refine w_cv (y := (nI (nn w))) hW.n.1 ?_
              refine goWv (pre := []) (wc := mdW cI h b w past er bf tk sv g2) (suf := []) (kV (As := [.int (nI (nn w))]) (rest := []) F (c_X3_mix l D cI cO _ h b w past er bf tk sv g2 c0 hW (nI (nn w))) ywX3_mix qw663 qw665 qs47 ⟨rfl, rfl⟩ ⟨Nat.le_of_ble_eq_true rfl, Nat.le_of_ble_eq_true rfl⟩ (preV (preW hP hC hD) hC hP (ci := 3) (q0 := 0) rfl rfl rfl) rfl hl.1 rfl (Nat.le_of_ble_eq_true rfl) dX3_digest_72 ⟨Nat.zero_le _, Nat.zero_le _⟩) (by simpa only [List.append_assoc, List.nil_append, List.append_nil] using hP) (by simpa only [List.append_assoc, List.nil_append, List.append_nil] using hD) hS hA (fun hs_3 H locs h_72 hP hD hS => ?_)
              replace hP : va_P D vwCl (mdW cI h b w past er bf tk sv hs_3) H := by simpa only [List.append_assoc, List.nil_append, List.append_nil] using hP
              replace hD : va_D A (mdW cI h b w past er bf tk sv hs_3) := by simpa only [List.append_assoc, List.nil_append, List.append_nil] using hD
              refine lv_iconst (v := (nI (0))) hx hb dX3_digest_75 (by decide) ?_
              refine lv_istore_n (lv' := [(1, .int (nI (0))), (0, .ref (h))]) hx hb dX3_digest_76 rfl hl (by decide) rfl (fun ls hl => ?_)
              have lp_77 : ∀ (fu_77 : Nat) (i_ : Nat) (g3 : Int64) (H : Heap) (locs : List Loc) (ls : Array Slot), nn w - i_ < fu_77 → (i_ ≤ nn w) → (g3 = mxS w (mx (mxC w (mx (mx (mx (mx 12144 (er 0)) (er 1)) (er 2)) (nI n_))) (nI (nn w))) i_) → va_P D vwCl (mdW cI h b w past er bf tk sv g3) H → va_D A (mdW cI h b w past er bf tk sv g3) → va_S A s.heap H locs → lv_has ls 3 [(1, .int (nI (i_))), (0, .ref (h))] → W p l e ({ frames := 5, cells := 0, slots := 0, locals := 119 } : Room) s m args below meth c H locs 0 0 Q (F0 m 77 ls []) := by
                intro fu_77
                induction fu_77 with
                | zero => intro i_ g3 H locs ls hmu_77; exact absurd hmu_77 (Nat.not_lt_zero _)
                | succ fu_77 ih_77 =>
                  intro i_ g3 H locs ls hmu_77 hi_ hg3 hP hD hS hl
                  refine lv_iload_n hx hb dX3_digest_77 rfl (lv_at hl 0 rfl) ?_
                  refine lv_aload_n hx hb dX3_digest_78 rfl (lv_at hl 1 rfl) ?_
                  refine gt3 hx hb hts hown hC.1 hP 0 rfl 0 (by decide) qw456 rfl dX3_digest_79 ?_
                  refine lv_iconst (v := (nI (0))) hx hb dX3_digest_82 (by decide) ?_
                  refine n_iald hx hb hC.1 hP 1 0 rfl rfl (by omega) (by decide) dX3_digest_83 ?_
                  refine w_cv (y := (nI (nn w))) hW.n.1 ?_
                  refine n_icmp_ge (tgt := 134) hx hb dX3_digest_84 (by decide) (by omega) (by omega) (fun c_84 => ?_) (fun c_84 => ?_)
                  · refine lv_iconst (v := (nI (0))) hx hb dX3_digest_134 (by decide) ?_
                    refine lv_istore_n (lv' := [(1, .int (nI (0))), (0, .ref (h))]) hx hb dX3_digest_135 rfl hl (by decide) rfl (fun ls hl => ?_)
                    have lp_136 : ∀ (fu_136 : Nat) (d_ : Nat) (g5 : Int64) (H : Heap) (locs : List Loc) (ls : Array Slot), 6 - d_ < fu_136 → (d_ ≤ 6) → (g5 = mxDs w (mxS w (mx (mxC w (mx (mx (mx (mx 12144 (er 0)) (er 1)) (er 2)) (nI n_))) (nI (nn w))) (nn w)) d_) → va_P D vwCl (mdW cI h b w past er bf tk sv g5) H → va_D A (mdW cI h b w past er bf tk sv g5) → va_S A s.heap H locs → lv_has ls 3 [(1, .int (nI (d_))), (0, .ref (h))] → W p l e ({ frames := 5, cells := 0, slots := 0, locals := 119 } : Room) s m args below meth c H locs 0 0 Q (F0 m 136 ls []) := by
                      intro fu_136
                      induction fu_136 with
                      | zero => intro d_ g5 H locs ls hmu_136; exact absurd hmu_136 (Nat.not_lt_zero _)
                      | succ fu_136 ih_136 =>
                        intro d_ g5 H locs ls hmu_136 hd_ hg5 hP hD hS hl
                        refine lv_iload_n hx hb dX3_digest_136 rfl (lv_at hl 0 rfl) ?_
                        refine lv_bipush (v := (nI (6))) hx hb dX3_digest_137 (by decide) ?_
                        refine n_icmp_ge (tgt := 153) hx hb dX3_digest_139 (by decide) (by omega) (by omega) (fun c_139 => ?_) (fun c_139 => ?_)
                        · refine lv_aload_n hx hb dX3_digest_153 rfl (lv_at hl 1 rfl) ?_
                          refine lv_aload_n hx hb dX3_digest_154 rfl (lv_at hl 1 rfl) ?_
                          refine gt3 hx hb hts hown hC.1 hP 0 rfl 0 (by decide) qw456 rfl dX3_digest_155 ?_
                          refine lv_sipush (v := (nI (341))) hx hb dX3_digest_158 (by decide) ?_
                          refine n_iald hx hb hC.1 hP 1 0 rfl rfl (by omega) (by decide) dX3_digest_161 ?_
                          refine w_cv (y := (nI (he w))) hW.h.1 ?_
                          refine goWv (pre := []) (wc := mdW cI h b w past er bf tk sv g5) (suf := []) (kV (As := [.int (nI (he w))]) (rest := []) F (c_X3_mix l D cI cO _ h b w past er bf tk sv g5 c0 hW (nI (he w))) ywX3_mix qw663 qw665 qs47 ⟨rfl, rfl⟩ ⟨Nat.le_of_ble_eq_true rfl, Nat.le_of_ble_eq_true rfl⟩ (preV (preW hP hC hD) hC hP (ci := 3) (q0 := 0) rfl rfl rfl) rfl hl.1 rfl (Nat.le_of_ble_eq_true rfl) dX3_digest_162 ⟨Nat.zero_le _, Nat.zero_le _⟩) (by simpa only [List.append_assoc, List.nil_append, List.append_nil] using hP) (by simpa only [List.append_assoc, List.nil_append, List.append_nil] using hD) hS hA (fun hs_4 H locs h_162 hP hD hS => ?_)
                          replace hP : va_P D vwCl (mdW cI h b w past er bf tk sv hs_4) H := by simpa only [List.append_assoc, List.nil_append, List.append_nil] using hP
                          replace hD : va_D A (mdW cI h b w past er bf tk sv hs_4) := by simpa only [List.append_assoc, List.nil_append, List.append_nil] using hD
                          refine lv_iconst (v := (nI (0))) hx hb dX3_digest_165 (by decide) ?_
                          refine lv_istore_n (lv' := [(1, .int (nI (0))), (0, .ref (h))]) hx hb dX3_digest_166 rfl hl (by decide) rfl (fun ls hl => ?_)
                          have lp_167 : ∀ (fu_167 : Nat) (p_ : Nat) (g6 : Int64) (H : Heap) (locs : List Loc) (ls : Array Slot), he w - p_ < fu_167 → (p_ ≤ he w) → (g6 = mxN (fun j => nI (nv (w (342 + j)) / 128)) (mx (mxDs w (mxS w (mx (mxC w (mx (mx (mx (mx 12144 (er 0)) (er 1)) (er 2)) (nI n_))) (nI (nn w))) (nn w)) 6) (nI (he w))) p_) → va_P D vwCl (mdW cI h b w past er bf tk sv g6) H → va_D A (mdW cI h b w past er bf tk sv g6) → va_S A s.heap H locs → lv_has ls 3 [(1, .int (nI (p_))), (0, .ref (h))] → W p l e ({ frames := 5, cells := 0, slots := 0, locals := 119 } : Room) s m args below meth c H locs 0 0 Q (F0 m 167 ls []) := by
                            intro fu_167
                            induction fu_167 with
                            | zero => intro p_ g6 H locs ls hmu_167; exact absurd hmu_167 (Nat.not_lt_zero _)
                            | succ fu_167 ih_167 =>
                              intro p_ g6 H locs ls hmu_167 hp_ hg6 hP hD hS hl
                              refine lv_iload_n hx hb dX3_digest_167 rfl (lv_at hl 0 rfl) ?_
                              refine lv_aload_n hx hb dX3_digest_168 rfl (lv_at hl 1 rfl) ?_
                              refine gt3 hx hb hts hown hC.1 hP 0 rfl 0 (by decide) qw456 rfl dX3_digest_169 ?_
                              refine lv_sipush (v := (nI (341))) hx hb dX3_digest_172 (by decide) ?_
                              refine n_iald hx hb hC.1 hP 1 0 rfl rfl (by omega) (by decide) dX3_digest_175 ?_
                              refine w_cv (y := (nI (he w))) hW.h.1 ?_
                              refine n_icmp_ge (tgt := 203) hx hb dX3_digest_176 (by decide) (by omega) (by omega) (fun c_176 => ?_) (fun c_176 => ?_)
                              · refine lv_aload_n hx hb dX3_digest_203 rfl (lv_at hl 1 rfl) ?_
                                refine gt3 hx hb hts hown hC.1 hP 0 rfl 6 (by decide) qw462 rfl dX3_digest_204 ?_
                                exact hret _ (g6) _ ls _ _ (by rw [hg6, show p_ = he w by omega]; rfl) hP hD hS dX3_digest_207
                              · obtain ⟨b_, kk, hb0, hkk, hx_⟩ := hW.b p_ (by omega)
                                have hM_ : nv (w (342 + p_)) = 128 * b_ + kk := by rw [hx_, nv_nI (by omega)]
                                refine lv_aload_n hx hb dX3_digest_179 rfl (lv_at hl 1 rfl) ?_
                                refine lv_aload_n hx hb dX3_digest_180 rfl (lv_at hl 1 rfl) ?_
                                refine gt3 hx hb hts hown hC.1 hP 0 rfl 0 (by decide) qw456 rfl dX3_digest_181 ?_
                                refine lv_sipush (v := (nI (342))) hx hb dX3_digest_184 (by decide) ?_
                                refine lv_iload_n hx hb dX3_digest_187 rfl (lv_at hl 0 rfl) ?_
                                refine n_iadd hx hb dX3_digest_188  ?_
                                refine n_iald hx hb hC.1 hP 1 0 rfl rfl (by omega) (by decide) dX3_digest_189 ?_
                                refine w_cv (y := (nI (nv (w (342 + p_))))) (by rw [hx_, nv_nI (by omega)]) ?_
                                refine lv_sipush (v := (nI (128))) hx hb dX3_digest_190 (by decide) ?_
                                refine n_idiv hx hb dX3_digest_193 (by omega) (by omega) (by omega) ?_
                                refine goWv (pre := []) (wc := mdW cI h b w past er bf tk sv g6) (suf := []) (kV (As := [.int (nI ((nv (w (342 + p_))) / 128))]) (rest := []) F (c_X3_mix l D cI cO _ h b w past er bf tk sv g6 c0 hW (nI ((nv (w (342 + p_))) / 128))) ywX3_mix qw663 qw665 qs47 ⟨rfl, rfl⟩ ⟨Nat.le_of_ble_eq_true rfl, Nat.le_of_ble_eq_true rfl⟩ (preV (preW hP hC hD) hC hP (ci := 3) (q0 := 0) rfl rfl rfl) rfl hl.1 rfl (Nat.le_of_ble_eq_true rfl) dX3_digest_194 ⟨Nat.zero_le _, Nat.zero_le _⟩) (by simpa only [List.append_assoc, List.nil_append, List.append_nil] using hP) (by simpa only [List.append_assoc, List.nil_append, List.append_nil] using hD) hS hA (fun hs_5 H locs h_194 hP hD hS => ?_)
                                replace hP : va_P D vwCl (mdW cI h b w past er bf tk sv hs_5) H := by simpa only [List.append_assoc, List.nil_append, List.append_nil] using hP
                                replace hD : va_D A (mdW cI h b w past er bf tk sv hs_5) := by simpa only [List.append_assoc, List.nil_append, List.append_nil] using hD
                                refine n_iinc (a := p_) (b := 1) (lv' := [(1, .int (nI (p_ + 1))), (0, .ref (h))]) hx hb dX3_digest_197 hl (k := 0) rfl rfl (by decide) rfl (fun ls hl => ?_)
                                refine lv_goto (tgt := 167) hx hb dX3_digest_200 (by decide) ?_
                                exact ih_167 (p_ + 1) (hs_5) _ _ ls (by omega) (by omega) (by rw [h_194, hg6]; rfl) hP hD hS (lv_sub hl [0, 1] rfl)
                          exact lp_167 _ (0) (hs_4) _ _ ls (Nat.lt_succ_self _) (Nat.zero_le _) (by rw [h_162, hg5, show d_ = 6 by omega]; rfl) hP hD hS (lv_sub hl [0, 1] rfl)
                        · refine lv_aload_n hx hb dX3_digest_142 rfl (lv_at hl 1 rfl) ?_
                          refine lv_iload_n hx hb dX3_digest_143 rfl (lv_at hl 0 rfl) ?_
                          refine goWv (pre := []) (wc := mdW cI h b w past er bf tk sv g5) (suf := []) (kV (As := [.int (nI (d_))]) (rest := []) F (c_X3_mixDestination l D cI cO _ h b w past er bf tk sv g5 c0 hW (d_) hc (by omega)) ywX3_mixDestination qw672 qw674 qs49 ⟨rfl, rfl⟩ ⟨Nat.le_of_ble_eq_true rfl, Nat.le_of_ble_eq_true rfl⟩ (preV (preW hP hC hD) hC hP (ci := 3) (q0 := 0) rfl rfl rfl) rfl hl.1 rfl (Nat.le_of_ble_eq_true rfl) dX3_digest_144 ⟨Nat.zero_le _, Nat.zero_le _⟩) (by simpa only [List.append_assoc, List.nil_append, List.append_nil] using hP) (by simpa only [List.append_assoc, List.nil_append, List.append_nil] using hD) hS hA (fun hs_6 H locs h_144 hP hD hS => ?_)
                          replace hP : va_P D vwCl (mdW cI h b w past er bf tk sv hs_6) H := by simpa only [List.append_assoc, List.nil_append, List.append_nil] using hP
                          replace hD : va_D A (mdW cI h b w past er bf tk sv hs_6) := by simpa only [List.append_assoc, List.nil_append, List.append_nil] using hD
                          refine n_iinc (a := d_) (b := 1) (lv' := [(1, .int (nI (d_ + 1))), (0, .ref (h))]) hx hb dX3_digest_147 hl (k := 0) rfl rfl (by decide) rfl (fun ls hl => ?_)
                          refine lv_goto (tgt := 136) hx hb dX3_digest_150 (by decide) ?_
                          exact ih_136 (d_ + 1) (hs_6) _ _ ls (by omega) (by omega) (by rw [h_144, hg5]; rfl) hP hD hS (lv_sub hl [0, 1] rfl)
                    exact lp_136 _ (0) (g3) _ _ ls (Nat.lt_succ_self _) (Nat.zero_le _) (by rw [hg3, show i_ = nn w by omega]; rfl) hP hD hS (lv_sub hl [0, 1] rfl)
                  · have hm4 := (hW.m i_ (by omega)).2
                    refine lv_aload_n hx hb dX3_digest_87 rfl (lv_at hl 1 rfl) ?_
                    refine lv_aload_n hx hb dX3_digest_88 rfl (lv_at hl 1 rfl) ?_
                    refine gt3 hx hb hts hown hC.1 hP 0 rfl 0 (by decide) qw456 rfl dX3_digest_89 ?_
                    refine lv_iconst (v := (nI (1))) hx hb dX3_digest_92 (by decide) ?_
                    refine lv_iload_n hx hb dX3_digest_93 rfl (lv_at hl 0 rfl) ?_
                    refine n_iadd hx hb dX3_digest_94  ?_
                    refine n_iald hx hb hC.1 hP 1 0 rfl rfl (by omega) (by decide) dX3_digest_95 ?_
                    refine w_cv (y := (nI (mn w i_))) (hW.m i_ (by omega)).1 ?_
                    refine goWv (pre := []) (wc := mdW cI h b w past er bf tk sv g3) (suf := []) (kV (As := [.int (nI (mn w i_))]) (rest := []) F (c_X3_mix l D cI cO _ h b w past er bf tk sv g3 c0 hW (nI (mn w i_))) ywX3_mix qw663 qw665 qs47 ⟨rfl, rfl⟩ ⟨Nat.le_of_ble_eq_true rfl, Nat.le_of_ble_eq_true rfl⟩ (preV (preW hP hC hD) hC hP (ci := 3) (q0 := 0) rfl rfl rfl) rfl hl.1 rfl (Nat.le_of_ble_eq_true rfl) dX3_digest_96 ⟨Nat.zero_le _, Nat.zero_le _⟩) (by simpa only [List.append_assoc, List.nil_append, List.append_nil] using hP) (by simpa only [List.append_assoc, List.nil_append, List.append_nil] using hD) hS hA (fun hs_7 H locs h_96 hP hD hS => ?_)
                    replace hP : va_P D vwCl (mdW cI h b w past er bf tk sv hs_7) H := by simpa only [List.append_assoc, List.nil_append, List.append_nil] using hP
                    replace hD : va_D A (mdW cI h b w past er bf tk sv hs_7) := by simpa only [List.append_assoc, List.nil_append, List.append_nil] using hD
                    refine lv_iconst (v := (nI (0))) hx hb dX3_digest_99 (by decide) ?_
                    refine lv_istore_n (lv' := [(2, .int (nI (0))), (1, .int (nI (i_))), (0, .ref (h))]) hx hb dX3_digest_100 rfl hl (by decide) rfl (fun ls hl => ?_)
                    have lp_101 : ∀ (fu_101 : Nat) (l_ : Nat) (g4 : Int64) (H : Heap) (locs : List Loc) (ls : Array Slot), mn w i_ - l_ < fu_101 → (l_ ≤ mn w i_) → (g4 = mxK w i_ (mx g3 (nI (mn w i_))) l_) → va_P D vwCl (mdW cI h b w past er bf tk sv g4) H → va_D A (mdW cI h b w past er bf tk sv g4) → va_S A s.heap H locs → lv_has ls 3 [(2, .int (nI (l_))), (1, .int (nI (i_))), (0, .ref (h))] → W p l e ({ frames := 5, cells := 0, slots := 0, locals := 119 } : Room) s m args below meth c H locs 0 0 Q (F0 m 101 ls []) := by
                      intro fu_101
                      induction fu_101 with
                      | zero => intro l_ g4 H locs ls hmu_101; exact absurd hmu_101 (Nat.not_lt_zero _)
                      | succ fu_101 ih_101 =>
                        intro l_ g4 H locs ls hmu_101 hl_ hg4 hP hD hS hl
                        refine lv_iload_n hx hb dX3_digest_101 rfl (lv_at hl 0 rfl) ?_
                        refine lv_aload_n hx hb dX3_digest_102 rfl (lv_at hl 2 rfl) ?_
                        refine gt3 hx hb hts hown hC.1 hP 0 rfl 0 (by decide) qw456 rfl dX3_digest_103 ?_
                        refine lv_iconst (v := (nI (1))) hx hb dX3_digest_106 (by decide) ?_
                        refine lv_iload_n hx hb dX3_digest_107 rfl (lv_at hl 1 rfl) ?_
                        refine n_iadd hx hb dX3_digest_108  ?_
                        refine n_iald hx hb hC.1 hP 1 0 rfl rfl (by omega) (by decide) dX3_digest_109 ?_
                        refine w_cv (y := (nI (mn w i_))) (hW.m i_ (by omega)).1 ?_
                        refine n_icmp_ge (tgt := 128) hx hb dX3_digest_110 (by decide) (by omega) (by omega) (fun c_110 => ?_) (fun c_110 => ?_)
                        · refine n_iinc (a := i_) (b := 1) (lv' := [(1, .int (nI (i_ + 1))), (2, .int (nI (l_))), (0, .ref (h))]) hx hb dX3_digest_128 hl (k := 1) rfl rfl (by decide) rfl (fun ls hl => ?_)
                          refine lv_goto (tgt := 77) hx hb dX3_digest_131 (by decide) ?_
                          exact ih_77 (i_ + 1) (g4) _ _ ls (by omega) (by omega) (by rw [hg4, show l_ = mn w i_ by omega, hg3]; rfl) hP hD hS (lv_sub hl [0, 2] rfl)
                        · refine lv_aload_n hx hb dX3_digest_113 rfl (lv_at hl 2 rfl) ?_
                          refine lv_iconst (v := (nI (4))) hx hb dX3_digest_114 (by decide) ?_
                          refine lv_iload_n hx hb dX3_digest_115 rfl (lv_at hl 1 rfl) ?_
                          refine n_imul hx hb dX3_digest_116  ?_
                          refine lv_iload_n hx hb dX3_digest_117 rfl (lv_at hl 0 rfl) ?_
                          refine n_iadd hx hb dX3_digest_118  ?_
                          refine goWv (pre := []) (wc := mdW cI h b w past er bf tk sv g4) (suf := []) (kV (As := [.int (nI ((4 * i_) + l_))]) (rest := []) F (c_X3_mixLink l D cI cO _ h b w past er bf tk sv g4 c0 hW ((4 * i_) + l_) hc (by omega)) ywX3_mixLink qw668 qw670 qs48 ⟨rfl, rfl⟩ ⟨Nat.le_of_ble_eq_true rfl, Nat.le_of_ble_eq_true rfl⟩ (preV (preW hP hC hD) hC hP (ci := 3) (q0 := 0) rfl rfl rfl) rfl hl.1 rfl (Nat.le_of_ble_eq_true rfl) dX3_digest_119 ⟨Nat.zero_le _, Nat.zero_le _⟩) (by simpa only [List.append_assoc, List.nil_append, List.append_nil] using hP) (by simpa only [List.append_assoc, List.nil_append, List.append_nil] using hD) hS hA (fun hs_8 H locs h_119 hP hD hS => ?_)
                          replace hP : va_P D vwCl (mdW cI h b w past er bf tk sv hs_8) H := by simpa only [List.append_assoc, List.nil_append, List.append_nil] using hP
                          replace hD : va_D A (mdW cI h b w past er bf tk sv hs_8) := by simpa only [List.append_assoc, List.nil_append, List.append_nil] using hD
                          refine n_iinc (a := l_) (b := 1) (lv' := [(2, .int (nI (l_ + 1))), (1, .int (nI (i_))), (0, .ref (h))]) hx hb dX3_digest_122 hl (k := 0) rfl rfl (by decide) rfl (fun ls hl => ?_)
                          refine lv_goto (tgt := 101) hx hb dX3_digest_125 (by decide) ?_
                          exact ih_101 (l_ + 1) (hs_8) _ _ ls (by omega) (by omega) (by rw [h_119, hg4]; show mxQ w (4 * i_ + l_) _ = mxQ w (i_ * 4 + l_) _; rw [Nat.mul_comm 4 i_]) hP hD hS (lv_sub hl [0, 1, 2] rfl)
                    exact lp_101 _ (0) (hs_7) _ _ ls (Nat.lt_succ_self _) (Nat.zero_le _) (by rw [h_96]; rfl) hP hD hS (lv_sub hl [0, 1, 2] rfl)
              exact lp_77 _ (0) (hs_3) _ _ ls (Nat.lt_succ_self _) (Nat.zero_le _) (by rw [h_72, hg2, show t_ = 8 by omega]; rfl) hP hD hS (lv_sub hl [0, 1] rfl)
            · refine lv_aload_n hx hb dX3_digest_49 rfl (lv_at hl 1 rfl) ?_
              refine lv_aload_n hx hb dX3_digest_50 rfl (lv_at hl 1 rfl) ?_
              refine gt3 hx hb hts hown hC.1 hP 0 rfl 0 (by decide) qw456 rfl dX3_digest_51 ?_
              refine lv_iload_n hx hb dX3_digest_54 rfl (lv_at hl 0 rfl) ?_
              refine n_iald hx hb hC.1 hP 1 0 rfl rfl (by omega) (by decide) dX3_digest_55 ?_
              refine goWv (pre := []) (wc := mdW cI h b w past er bf tk sv g2) (suf := []) (kV (As := [.int (w (462 + t_))]) (rest := []) F (c_X3_mix l D cI cO _ h b w past er bf tk sv g2 c0 hW (w (462 + t_))) ywX3_mix qw663 qw665 qs47 ⟨rfl, rfl⟩ ⟨Nat.le_of_ble_eq_true rfl, Nat.le_of_ble_eq_true rfl⟩ (preV (preW hP hC hD) hC hP (ci := 3) (q0 := 0) rfl rfl rfl) rfl hl.1 rfl (Nat.le_of_ble_eq_true rfl) dX3_digest_56 ⟨Nat.zero_le _, Nat.zero_le _⟩) (by simpa only [List.append_assoc, List.nil_append, List.append_nil] using hP) (by simpa only [List.append_assoc, List.nil_append, List.append_nil] using hD) hS hA (fun hs_9 H locs h_56 hP hD hS => ?_)
              replace hP : va_P D vwCl (mdW cI h b w past er bf tk sv hs_9) H := by simpa only [List.append_assoc, List.nil_append, List.append_nil] using hP
              replace hD : va_D A (mdW cI h b w past er bf tk sv hs_9) := by simpa only [List.append_assoc, List.nil_append, List.append_nil] using hD
              refine n_iinc (a := 462 + t_) (b := 1) (lv' := [(1, .int (nI (462 + t_ + 1))), (0, .ref (h))]) hx hb dX3_digest_59 hl (k := 0) rfl rfl (by decide) rfl (fun ls hl => ?_)
              refine lv_goto (tgt := 42) hx hb dX3_digest_62 (by decide) ?_
              exact ih_42 (t_ + 1) (hs_9) _ _ ls (by omega) (by omega) (by rw [h_56, hg2]; rfl) hP hD hS (lv_sub hl [0, 1] rfl)
        exact lp_42 _ (0) (hs_2) _ _ ls (Nat.lt_succ_self _) (Nat.zero_le _) (by rw [h_35, hg1, show e1 = 3 by omega]; rfl) hP hD hS (lv_sub hl [0, 1] rfl)
      · refine lv_aload_n hx hb dX3_digest_14 rfl (lv_at hl 1 rfl) ?_
        refine lv_aload_n hx hb dX3_digest_15 rfl (lv_at hl 1 rfl) ?_
        refine gt3 hx hb hts hown hC.1 hP 0 rfl 3 (by decide) qw459 rfl dX3_digest_16 ?_
        refine lv_iload_n hx hb dX3_digest_19 rfl (lv_at hl 0 rfl) ?_
        refine n_iald hx hb hC.1 hP 3 0 rfl rfl (by omega) (by decide) dX3_digest_20 ?_
        refine goWv (pre := []) (wc := mdW cI h b w past er bf tk sv g1) (suf := []) (kV (As := [.int (er (e1))]) (rest := []) F (c_X3_mix l D cI cO _ h b w past er bf tk sv g1 c0 hW (er (e1))) ywX3_mix qw663 qw665 qs47 ⟨rfl, rfl⟩ ⟨Nat.le_of_ble_eq_true rfl, Nat.le_of_ble_eq_true rfl⟩ (preV (preW hP hC hD) hC hP (ci := 3) (q0 := 0) rfl rfl rfl) rfl hl.1 rfl (Nat.le_of_ble_eq_true rfl) dX3_digest_21 ⟨Nat.zero_le _, Nat.zero_le _⟩) (by simpa only [List.append_assoc, List.nil_append, List.append_nil] using hP) (by simpa only [List.append_assoc, List.nil_append, List.append_nil] using hD) hS hA (fun hs_10 H locs h_21 hP hD hS => ?_)
        replace hP : va_P D vwCl (mdW cI h b w past er bf tk sv hs_10) H := by simpa only [List.append_assoc, List.nil_append, List.append_nil] using hP
        replace hD : va_D A (mdW cI h b w past er bf tk sv hs_10) := by simpa only [List.append_assoc, List.nil_append, List.append_nil] using hD
        refine n_iinc (a := e1) (b := 1) (lv' := [(1, .int (nI (e1 + 1))), (0, .ref (h))]) hx hb dX3_digest_24 hl (k := 0) rfl rfl (by decide) rfl (fun ls hl => ?_)
        refine lv_goto (tgt := 9) hx hb dX3_digest_27 (by decide) ?_
        exact ih_9 (e1 + 1) (hs_10) _ _ ls (by omega) (by omega) (by rw [h_21, hg1]; rfl) hP hD hS (lv_sub hl [0, 1] rfl)
  exact lp_9 _ (0) (hs_1) _ _ ls (Nat.lt_succ_self _) (Nat.zero_le _) (hhs_1) hP hD hS (lv_sub hl [0, 1] rfl)
