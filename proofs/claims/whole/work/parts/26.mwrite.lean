def ecode (e : Nat) : Int32 := match e with
  | 0 => -2
  | 1 => -3
  | _ => -4
theorem ecode_i : ∀ e, e < 3 → (-2 : Int32) - ecode e = nI e := by decide +kernel
theorem WF_dvN {c : Nat} {w B : Nat → Int32} (h : WF c w) (hc : c < 1000) : ∀ n, n ≤ 96 → WF c (dvN w B n).1
  | 0, _ => h
  | n + 1, hn => by
    have ih := WF_dvN (B := B) h hc n (by omega)
    simp only [dvN]
    split
    · rename_i e
      have ht : tm (dvN w B n).1 = tm w := by unfold tm; rw [dvN_ne n (by omega)]
      have hd2 : hd (dvN w B n).1 = hd w := by unfold hd; rw [dvN_ne n (by omega)]
      have h9 := (RC_until (k0 := n) (by omega) (by rw [hd2]; exact e.1) hc (RC_S0 ih)).wf
      rw [ht, hd2] at h9
      exact h9
    · exact ih
/-- the past with one more row, of four at most -/
def sn1 (n : Nat) : Nat := if n = 4 then 4 else n + 1
def pshP (past : Nat → Int32) (n : Nat) (w : Nat → Int32) (i k : Nat) : Int32 := if n = 4 then (if i < 3 then past (470 * (i + 1) + k) else w k) else (if i = n then w k else past (470 * i + k))
def SV (past : Nat → Int32) (n : Nat) (w P : Nat → Int32) : Prop := ∀ i, i < sn1 n → ∀ k, k < 470 → P (470 * i + k) = pshP past n w i k
theorem SV_4 {past w p1 pk : Nat → Int32} {n j1 j : Nat} (hn : n = 4) (h1 : ∀ x, p1 x = if x < j1 then past (x + 470) else past x) (h2 : ∀ x, pk x = if 470 * (n - 1) ≤ x ∧ x < 470 * (n - 1) + j then w (x - 470 * (n - 1)) else p1 x) (hj1 : j1 = 1410) (hj : j = 470) : SV past n w pk := by
  intro i hi k hk
  subst hn hj1 hj
  unfold sn1 at hi
  rw [if_pos rfl] at hi
  rw [h2]
  unfold pshP
  rw [if_pos rfl]
  by_cases e : i < 3
  · rw [if_neg (by omega), if_pos e, h1, if_pos (by omega), show 470 * i + k + 470 = 470 * (i + 1) + k by omega]
  · rw [if_pos (by omega), if_neg e, show 470 * i + k - 470 * (4 - 1) = k by omega]
theorem SV_3 {past w pk : Nat → Int32} {n j : Nat} (hn : ¬ n = 4) (h2 : ∀ x, pk x = if 470 * n ≤ x ∧ x < 470 * n + j then w (x - 470 * n) else past x) (hj : j = 470) : SV past n w pk := by
  intro i hi k hk
  subst hj
  unfold sn1 at hi
  rw [if_neg hn] at hi
  rw [h2]
  unfold pshP
  rw [if_neg hn]
  by_cases e : i = n
  · rw [if_pos (by subst e; omega), if_pos e, show 470 * i + k - 470 * n = k by subst e; omega]
  · rw [if_neg (by omega), if_neg e]
set_option maxHeartbeats 4000000 in
set_option maxRecDepth 100000 in
theorem c_X3_fails (l : Launch) (D : va_G) (cI cO : ClassId) (sz : Nat) (h : Nat) (b : Nat → Nat) (w past er bf tk : Nat → Int32) (sv : Int32) (hs : Int64) (c0 : Nat) (hW : WF c0 w)  (e_ : Nat) (he3 : e_ < 3) : Met l yX3_fails (Cond.code yX3_fails cX3_fails 2 (some .int) :: WL) ({ frames := 0, cells := 0, slots := 0, locals := 0 } : Room) (va_Pc [.ref (h), .int (ecode e_)] (PW D cI cO (mdW cI h b w past er bf tk sv hs) sz)) (va_Qi (fun (r : Int32) (u : Nat → Int32) => r = ecode e_ ∧ u = upd er e_ (er e_ + nI 1)) (QB D (mdW cI h b w past er bf tk sv hs) sz (fun (u : Nat → Int32) => mdW cI h b w past u bf tk sv hs)) (va_A (mdW cI h b w past er bf tk sv hs) sz)) 0 0 (va_A (mdW cI h b w past er bf tk sv hs) sz) := by
  refine wr_int (by decide) (Nat.le_of_ble_eq_true rfl) ?_
  intro p e s m args below meth c Q ls A F hP hC hD hA hret hl
  have hx := F.1
  have hb := F.2.1
  have hml := F.2.2.1
  have hown := F.2.2.2.1
  have hts := F.2.2.2.2
  replace hl : lv_has ls 2 [(0, .ref (h)), (1, .int (ecode e_))] := hl
  have hS : va_S A s.heap s.heap [] := va_S.rf
  have hn4 := hW.n.2
  refine lv_aload_n hx hb dX3_fails_0 rfl (lv_at hl 0 rfl) ?_
  refine gt3 hx hb hts hown hC.1 hP 0 rfl 3 (by decide) qw459 rfl dX3_fails_1 ?_
  refine lv_bipush (v := (-2)) hx hb dX3_fails_4 (by decide) ?_
  refine lv_iload_n hx hb dX3_fails_6 rfl (lv_at hl 1 rfl) ?_
  refine lv_isub hx hb dX3_fails_7  ?_
  refine w_cv (y := (nI (e_))) (ecode_i e_ he3) ?_
  refine lv_dup2_11 hx hb dX3_fails_8 rfl rfl ?_
  refine n_iald hx hb hC.1 hP 3 0 rfl rfl (by omega) (by decide) dX3_fails_9 ?_
  refine lv_iconst (v := (nI (1))) hx hb dX3_fails_10 (by decide) ?_
  refine lv_iadd hx hb dX3_fails_11  ?_
  refine n_iast hx hb hC.1 hP hD hS 3 0 rfl rfl (by omega) (by decide) dX3_fails_12 (fun H locs hP hD hS => ?_)
  obtain ⟨er_1, her_1⟩ : ∃ z : Nat → Int32, z = upd er (e_) ((er (e_)) + (nI (1))) := ⟨_, rfl⟩
  replace hP : va_P D vwCl (mdW cI h b w past er_1 bf tk sv hs) H := by rw [her_1]; exact hP
  replace hD : va_D A (mdW cI h b w past er_1 bf tk sv hs) := by rw [her_1]; exact hD
  refine lv_iload_n hx hb dX3_fails_13 rfl (lv_at hl 1 rfl) ?_
  exact hret _ (er_1) _ ls _ _ (⟨rfl, her_1⟩) hP hD hS dX3_fails_14

set_option maxHeartbeats 4000000 in
set_option maxRecDepth 100000 in
theorem c_X3_dispatches (l : Launch) (D : va_G) (cI cO : ClassId) (sz : Nat) (h : Nat) (b : Nat → Nat) (w past er bf tk : Nat → Int32) (sv : Int32) (hs : Int64) (c0 : Nat) (hW : WF c0 w)  (b_ k : Nat) (hb_ : b_ < 1000) (hk : k < 96) : Met l yX3_dispatches (Cond.code yX3_dispatches cX3_dispatches 3 none :: WL) ({ frames := 4, cells := 0, slots := 0, locals := 97 } : Room) (va_Pc [.ref (h), .int (nI (128 * b_ + k))] (PW D cI cO (mdW cI h b w past er bf tk sv hs) sz)) (va_Qv (fun (u : Nat → Int32) => u = dsp w (128 * b_ + k)) (QB D (mdW cI h b w past er bf tk sv hs) sz (fun (u : Nat → Int32) => mdW cI h b u past er bf tk sv hs)) (va_A (mdW cI h b w past er bf tk sv hs) sz)) 0 0 (va_A (mdW cI h b w past er bf tk sv hs) sz) := by
  refine wr_void (by decide) (Nat.le_of_ble_eq_true rfl) ?_
  intro p e s m args below meth c Q ls A F hP hC hD hA hret hl
  have hx := F.1
  have hb := F.2.1
  have hml := F.2.2.1
  have hown := F.2.2.2.1
  have hts := F.2.2.2.2
  replace hl : lv_has ls 3 [(0, .ref (h)), (1, .int (nI (128 * b_ + k)))] := hl
  have hS : va_S A s.heap s.heap [] := va_S.rf
  have hn4 := hW.n.2
  have hsn := hW.e.2
  refine lv_aload_n hx hb dX3_dispatches_0 rfl (lv_at hl 0 rfl) ?_
  refine lv_iload_n hx hb dX3_dispatches_1 rfl (lv_at hl 1 rfl) ?_
  refine lv_sipush (v := (nI (128))) hx hb dX3_dispatches_2 (by decide) ?_
  refine n_irem hx hb dX3_dispatches_5 (by omega) (by omega) (by omega) ?_
  refine w_cv (y := (nI (k))) (congrArg nI (by omega)) ?_
  refine goR (kV (As := [.int (nI (k))]) (rest := []) F (c_X3_linkOf l D cI cO h b w past er bf tk sv hs c0 hW (k) (by omega)) ywX3_linkOf qw513 qw515 qs38 ⟨rfl, rfl⟩ ⟨Nat.le_of_ble_eq_true rfl, Nat.le_of_ble_eq_true rfl⟩ (preV (preR hP hC) hC hP (ci := 3) (q0 := 0) rfl rfl rfl) rfl hl.1 rfl (Nat.le_of_ble_eq_true rfl) dX3_dispatches_6 ⟨Nat.zero_le _, Nat.zero_le _⟩) (fun r_6 h_6 => ?_)
  subst h_6
  refine lv_istore_n (lv' := [(2, .int (lk w k)), (0, .ref (h)), (1, .int (nI (128 * b_ + k)))]) hx hb dX3_dispatches_9 rfl hl (by decide) rfl (fun ls hl => ?_)
  refine lv_iload_n hx hb dX3_dispatches_10 rfl (lv_at hl 0 rfl) ?_
  refine lv_iconst (v := (-1)) hx hb dX3_dispatches_11 (by decide) ?_
  refine lv_icmp_ne (tgt := 30) hx hb dX3_dispatches_12 (by decide)  (fun c_12 => ?_) (fun c_12 => ?_)
  · obtain ⟨v_, hp16, hpn, hpa, hlk⟩ := lk_some hW hk c_12
    rw [hlk] at hl
    have hl10 := (hW.l v_ hp16).2
    refine lv_aload_n hx hb dX3_dispatches_30 rfl (lv_at hl 1 rfl) ?_
    refine gt3 hx hb hts hown hC.1 hP 0 rfl 0 (by decide) qw456 rfl dX3_dispatches_31 ?_
    refine lv_bipush (v := (nI (21))) hx hb dX3_dispatches_34 (by decide) ?_
    refine lv_iload_n hx hb dX3_dispatches_36 rfl (lv_at hl 0 rfl) ?_
    refine n_iadd hx hb dX3_dispatches_37  ?_
    refine n_iald hx hb hC.1 hP 1 0 rfl rfl (by omega) (by decide) dX3_dispatches_38 ?_
    refine w_cv (y := (nI (le w v_))) (hW.l v_ hp16).1 ?_
    refine lv_bipush (v := (nI (10))) hx hb dX3_dispatches_39 (by decide) ?_
    refine n_icmp_ne (tgt := 59) hx hb dX3_dispatches_41 (by decide) (by omega) (by omega) (fun c_41 => ?_) (fun c_41 => ?_)
    · refine lv_aload_n hx hb dX3_dispatches_59 rfl (lv_at hl 1 rfl) ?_
      refine gt3 hx hb hts hown hC.1 hP 0 rfl 0 (by decide) qw456 rfl dX3_dispatches_60 ?_
      refine lv_bipush (v := (nI (37))) hx hb dX3_dispatches_63 (by decide) ?_
      refine lv_bipush (v := (nI (10))) hx hb dX3_dispatches_65 (by decide) ?_
      refine lv_iload_n hx hb dX3_dispatches_67 rfl (lv_at hl 0 rfl) ?_
      refine n_imul hx hb dX3_dispatches_68  ?_
      refine n_iadd hx hb dX3_dispatches_69  ?_
      refine lv_aload_n hx hb dX3_dispatches_70 rfl (lv_at hl 1 rfl) ?_
      refine gt3 hx hb hts hown hC.1 hP 0 rfl 0 (by decide) qw456 rfl dX3_dispatches_71 ?_
      refine lv_bipush (v := (nI (21))) hx hb dX3_dispatches_74 (by decide) ?_
      refine lv_iload_n hx hb dX3_dispatches_76 rfl (lv_at hl 0 rfl) ?_
      refine n_iadd hx hb dX3_dispatches_77  ?_
      refine n_iald hx hb hC.1 hP 1 0 rfl rfl (by omega) (by decide) dX3_dispatches_78 ?_
      refine w_cv (y := (nI (le w v_))) (hW.l v_ hp16).1 ?_
      refine n_iadd hx hb dX3_dispatches_79  ?_
      refine lv_iload_n hx hb dX3_dispatches_80 rfl (lv_at hl 2 rfl) ?_
      refine n_iast hx hb hC.1 hP hD hS 1 0 rfl rfl (by omega) (by decide) dX3_dispatches_81 (fun H locs hP hD hS => ?_)
      obtain ⟨w_1, hw_1⟩ : ∃ z : Nat → Int32, z = upd w ((37 + (10 * v_)) + (le w v_)) (nI (128 * b_ + k)) := ⟨_, rfl⟩
      replace hP : va_P D vwCl (mdW cI h b w_1 past er bf tk sv hs) H := by rw [hw_1]; exact hP
      replace hD : va_D A (mdW cI h b w_1 past er bf tk sv hs) := by rw [hw_1]; exact hD
      refine lv_aload_n hx hb dX3_dispatches_82 rfl (lv_at hl 1 rfl) ?_
      refine gt3 hx hb hts hown hC.1 hP 0 rfl 0 (by decide) qw456 rfl dX3_dispatches_83 ?_
      refine lv_bipush (v := (nI (21))) hx hb dX3_dispatches_86 (by decide) ?_
      refine lv_iload_n hx hb dX3_dispatches_88 rfl (lv_at hl 0 rfl) ?_
      refine n_iadd hx hb dX3_dispatches_89  ?_
      refine lv_dup2_11 hx hb dX3_dispatches_90 rfl rfl ?_
      refine n_iald hx hb hC.1 hP 1 0 rfl rfl (by omega) (by decide) dX3_dispatches_91 ?_
      refine w_cv (y := (nI (le w v_))) (by rw [hw_1, pk_un (by omega)]; exact (hW.l v_ hp16).1) ?_
      refine lv_iconst (v := (nI (1))) hx hb dX3_dispatches_92 (by decide) ?_
      refine n_iadd hx hb dX3_dispatches_93  ?_
      refine n_iast hx hb hC.1 hP hD hS 1 0 rfl rfl (by omega) (by decide) dX3_dispatches_94 (fun H locs hP hD hS => ?_)
      obtain ⟨w_2, hw_2⟩ : ∃ z : Nat → Int32, z = upd w_1 (21 + v_) (nI ((le w v_) + 1)) := ⟨_, rfl⟩
      replace hP : va_P D vwCl (mdW cI h b w_2 past er bf tk sv hs) H := by rw [hw_2]; exact hP
      replace hD : va_D A (mdW cI h b w_2 past er bf tk sv hs) := by rw [hw_2]; exact hD
      exact hret (w_2) _ ls _ _ (by subst hw_2; subst hw_1; exact (dsp_3 (k := k) (by omega) hlk hp16 c_41).symm) hP hD hS dX3_dispatches_95
    · refine lv_aload_n hx hb dX3_dispatches_44 rfl (lv_at hl 1 rfl) ?_
      refine gt3 hx hb hts hown hC.1 hP 0 rfl 0 (by decide) qw456 rfl dX3_dispatches_45 ?_
      refine lv_sipush (v := (nI (469))) hx hb dX3_dispatches_48 (by decide) ?_
      refine lv_dup2_11 hx hb dX3_dispatches_51 rfl rfl ?_
      refine n_iald hx hb hC.1 hP 1 0 rfl rfl (by omega) (by decide) dX3_dispatches_52 ?_
      refine lv_iconst (v := (nI (1))) hx hb dX3_dispatches_53 (by decide) ?_
      refine lv_iadd hx hb dX3_dispatches_54  ?_
      refine n_iast hx hb hC.1 hP hD hS 1 0 rfl rfl (by omega) (by decide) dX3_dispatches_55 (fun H locs hP hD hS => ?_)
      obtain ⟨w_3, hw_3⟩ : ∃ z : Nat → Int32, z = upd w (469) ((w (469)) + (nI (1))) := ⟨_, rfl⟩
      replace hP : va_P D vwCl (mdW cI h b w_3 past er bf tk sv hs) H := by rw [hw_3]; exact hP
      replace hD : va_D A (mdW cI h b w_3 past er bf tk sv hs) := by rw [hw_3]; exact hD
      refine lv_goto (tgt := 95) hx hb dX3_dispatches_56 (by decide) ?_
      exact hret (w_3) _ ls _ _ (by subst hw_3; exact (dsp_2 (k := k) (by omega) hlk hp16 c_41).symm) hP hD hS dX3_dispatches_95
  · refine lv_aload_n hx hb dX3_dispatches_15 rfl (lv_at hl 1 rfl) ?_
    refine gt3 hx hb hts hown hC.1 hP 0 rfl 0 (by decide) qw456 rfl dX3_dispatches_16 ?_
    refine lv_sipush (v := (nI (467))) hx hb dX3_dispatches_19 (by decide) ?_
    refine lv_dup2_11 hx hb dX3_dispatches_22 rfl rfl ?_
    refine n_iald hx hb hC.1 hP 1 0 rfl rfl (by omega) (by decide) dX3_dispatches_23 ?_
    refine lv_iconst (v := (nI (1))) hx hb dX3_dispatches_24 (by decide) ?_
    refine lv_iadd hx hb dX3_dispatches_25  ?_
    refine n_iast hx hb hC.1 hP hD hS 1 0 rfl rfl (by omega) (by decide) dX3_dispatches_26 (fun H locs hP hD hS => ?_)
    obtain ⟨w_4, hw_4⟩ : ∃ z : Nat → Int32, z = upd w (467) ((w (467)) + (nI (1))) := ⟨_, rfl⟩
    replace hP : va_P D vwCl (mdW cI h b w_4 past er bf tk sv hs) H := by rw [hw_4]; exact hP
    replace hD : va_D A (mdW cI h b w_4 past er bf tk sv hs) := by rw [hw_4]; exact hD
    refine lv_goto (tgt := 95) hx hb dX3_dispatches_27 (by decide) ?_
    exact hret (w_4) _ ls _ _ (by subst hw_4; exact (dsp_1 (k := k) (by omega) c_12).symm) hP hD hS dX3_dispatches_95

set_option maxHeartbeats 4000000 in
set_option maxRecDepth 100000 in
theorem c_X3_delivers (l : Launch) (D : va_G) (cI cO : ClassId) (sz : Nat) (h : Nat) (b : Nat → Nat) (w past er bf tk : Nat → Int32) (sv : Int32) (hs : Int64) (c0 : Nat) (hW : WF c0 w)  (b_ k : Nat) (hc : c0 < 1000) (hb_ : b_ < sn w) (hk : k < 96) : Met l yX3_delivers (Cond.code yX3_delivers cX3_delivers 3 none :: WL) ({ frames := 0, cells := 0, slots := 0, locals := 0 } : Room) (va_Pc [.ref (h), .int (nI (128 * b_ + k))] (PW D cI cO (mdW cI h b w past er bf tk sv hs) sz)) (va_Qv (fun (u : Nat → Int32) => u = dlv w (128 * b_ + k)) (QB D (mdW cI h b w past er bf tk sv hs) sz (fun (u : Nat → Int32) => mdW cI h b u past er bf tk sv hs)) (va_A (mdW cI h b w past er bf tk sv hs) sz)) 0 0 (va_A (mdW cI h b w past er bf tk sv hs) sz) := by
  refine wr_void (by decide) (Nat.le_of_ble_eq_true rfl) ?_
  intro p e s m args below meth c Q ls A F hP hC hD hA hret hl
  have hx := F.1
  have hb := F.2.1
  have hml := F.2.2.1
  have hown := F.2.2.2.1
  have hts := F.2.2.2.2
  replace hl : lv_has ls 3 [(0, .ref (h)), (1, .int (nI (128 * b_ + k)))] := hl
  have hS : va_S A s.heap s.heap [] := va_S.rf
  have hn4 := hW.n.2
  have hsn := hW.e.2
  refine lv_iload_n hx hb dX3_delivers_0 rfl (lv_at hl 1 rfl) ?_
  refine lv_sipush (v := (nI (128))) hx hb dX3_delivers_1 (by decide) ?_
  refine n_irem hx hb dX3_delivers_4 (by omega) (by omega) (by omega) ?_
  refine w_cv (y := (nI (k))) (congrArg nI (by omega)) ?_
  refine lv_istore_n (lv' := [(2, .int (nI (k))), (0, .ref (h)), (1, .int (nI (128 * b_ + k)))]) hx hb dX3_delivers_5 rfl hl (by decide) rfl (fun ls hl => ?_)
  refine lv_aload_n hx hb dX3_delivers_6 rfl (lv_at hl 1 rfl) ?_
  refine gt3 hx hb hts hown hC.1 hP 0 rfl 0 (by decide) qw456 rfl dX3_delivers_7 ?_
  refine lv_sipush (v := (nI (465))) hx hb dX3_delivers_10 (by decide) ?_
  refine lv_dup2_11 hx hb dX3_delivers_13 rfl rfl ?_
  refine n_iald hx hb hC.1 hP 1 0 rfl rfl (by omega) (by decide) dX3_delivers_14 ?_
  refine lv_iconst (v := (nI (1))) hx hb dX3_delivers_15 (by decide) ?_
  refine lv_iadd hx hb dX3_delivers_16  ?_
  refine n_iast hx hb hC.1 hP hD hS 1 0 rfl rfl (by omega) (by decide) dX3_delivers_17 (fun H locs hP hD hS => ?_)
  obtain ⟨w_1, hw_1⟩ : ∃ z : Nat → Int32, z = upd w (465) ((w (465)) + (nI (1))) := ⟨_, rfl⟩
  replace hP : va_P D vwCl (mdW cI h b w_1 past er bf tk sv hs) H := by rw [hw_1]; exact hP
  replace hD : va_D A (mdW cI h b w_1 past er bf tk sv hs) := by rw [hw_1]; exact hD
  refine lv_aload_n hx hb dX3_delivers_18 rfl (lv_at hl 1 rfl) ?_
  refine gt3 hx hb hts hown hC.1 hP 0 rfl 0 (by decide) qw456 rfl dX3_delivers_19 ?_
  refine lv_sipush (v := (nI (466))) hx hb dX3_delivers_22 (by decide) ?_
  refine lv_dup2_11 hx hb dX3_delivers_25 rfl rfl ?_
  refine n_iald hx hb hC.1 hP 1 0 rfl rfl (by omega) (by decide) dX3_delivers_26 ?_
  refine w_cv (y := (w 466)) (by rw [hw_1, pk_un (by omega)]) ?_
  refine lv_aload_n hx hb dX3_delivers_27 rfl (lv_at hl 1 rfl) ?_
  refine gt3 hx hb hts hown hC.1 hP 0 rfl 0 (by decide) qw456 rfl dX3_delivers_28 ?_
  refine lv_sipush (v := (nI (366))) hx hb dX3_delivers_31 (by decide) ?_
  refine lv_iload_n hx hb dX3_delivers_34 rfl (lv_at hl 0 rfl) ?_
  refine n_iadd hx hb dX3_delivers_35  ?_
  refine n_iald hx hb hC.1 hP 1 0 rfl rfl (by omega) (by decide) dX3_delivers_36 ?_
  refine w_cv (y := (w (366 + k))) (by rw [hw_1, pk_un (by omega)]) ?_
  refine lv_iload_n hx hb dX3_delivers_37 rfl (lv_at hl 2 rfl) ?_
  refine lv_icmp_le (tgt := 45) hx hb dX3_delivers_38 (by decide)  (fun c_38 => ?_) (fun c_38 => ?_)
  · refine lv_iconst (v := (nI (0))) hx hb dX3_delivers_45 (by decide) ?_
    refine lv_iadd hx hb dX3_delivers_46  ?_
    refine n_iast hx hb hC.1 hP hD hS 1 0 rfl rfl (by omega) (by decide) dX3_delivers_47 (fun H locs hP hD hS => ?_)
    obtain ⟨w_2, hw_2⟩ : ∃ z : Nat → Int32, z = upd w_1 (466) ((w 466) + (nI (0))) := ⟨_, rfl⟩
    replace hP : va_P D vwCl (mdW cI h b w_2 past er bf tk sv hs) H := by rw [hw_2]; exact hP
    replace hD : va_D A (mdW cI h b w_2 past er bf tk sv hs) := by rw [hw_2]; exact hD
    refine lv_aload_n hx hb dX3_delivers_48 rfl (lv_at hl 1 rfl) ?_
    refine gt3 hx hb hts hown hC.1 hP 0 rfl 0 (by decide) qw456 rfl dX3_delivers_49 ?_
    refine lv_sipush (v := (nI (366))) hx hb dX3_delivers_52 (by decide) ?_
    refine lv_iload_n hx hb dX3_delivers_55 rfl (lv_at hl 0 rfl) ?_
    refine n_iadd hx hb dX3_delivers_56  ?_
    refine lv_aload_n hx hb dX3_delivers_57 rfl (lv_at hl 1 rfl) ?_
    refine gt3 hx hb hts hown hC.1 hP 0 rfl 0 (by decide) qw456 rfl dX3_delivers_58 ?_
    refine lv_sipush (v := (nI (366))) hx hb dX3_delivers_61 (by decide) ?_
    refine lv_iload_n hx hb dX3_delivers_64 rfl (lv_at hl 0 rfl) ?_
    refine n_iadd hx hb dX3_delivers_65  ?_
    refine n_iald hx hb hC.1 hP 1 0 rfl rfl (by omega) (by decide) dX3_delivers_66 ?_
    refine w_cv (y := (w (366 + k))) (by subst hw_2; subst hw_1; rw [pk_un (by omega), pk_un (by omega)]) ?_
    refine lv_iload_n hx hb dX3_delivers_67 rfl (lv_at hl 2 rfl) ?_
    refine lv_icmp_le (tgt := 84) hx hb dX3_delivers_68 (by decide)  (fun c_68 => ?_) (fun c_68 => ?_)
    · refine lv_iload_n hx hb dX3_delivers_84 rfl (lv_at hl 2 rfl) ?_
      refine n_iast hx hb hC.1 hP hD hS 1 0 rfl rfl (by omega) (by decide) dX3_delivers_85 (fun H locs hP hD hS => ?_)
      obtain ⟨w_3, hw_3⟩ : ∃ z : Nat → Int32, z = upd w_2 (366 + k) (nI (128 * b_ + k)) := ⟨_, rfl⟩
      replace hP : va_P D vwCl (mdW cI h b w_3 past er bf tk sv hs) H := by rw [hw_3]; exact hP
      replace hD : va_D A (mdW cI h b w_3 past er bf tk sv hs) := by rw [hw_3]; exact hD
      exact hret (w_3) _ ls _ _ (by subst hw_3; subst hw_2; subst hw_1; unfold dlv; rw [show (128 * b_ + k) % 128 = k by omega, if_neg (Int32.not_lt.mpr c_38), if_neg (Int32.not_lt.mpr c_38)]) hP hD hS dX3_delivers_86
    · exact absurd c_38 c_68
  · refine lv_iconst (v := (nI (1))) hx hb dX3_delivers_41 (by decide) ?_
    refine lv_goto (tgt := 46) hx hb dX3_delivers_42 (by decide) ?_
    refine lv_iadd hx hb dX3_delivers_46  ?_
    refine n_iast hx hb hC.1 hP hD hS 1 0 rfl rfl (by omega) (by decide) dX3_delivers_47 (fun H locs hP hD hS => ?_)
    obtain ⟨w_4, hw_4⟩ : ∃ z : Nat → Int32, z = upd w_1 (466) ((w 466) + (nI (1))) := ⟨_, rfl⟩
    replace hP : va_P D vwCl (mdW cI h b w_4 past er bf tk sv hs) H := by rw [hw_4]; exact hP
    replace hD : va_D A (mdW cI h b w_4 past er bf tk sv hs) := by rw [hw_4]; exact hD
    refine lv_aload_n hx hb dX3_delivers_48 rfl (lv_at hl 1 rfl) ?_
    refine gt3 hx hb hts hown hC.1 hP 0 rfl 0 (by decide) qw456 rfl dX3_delivers_49 ?_
    refine lv_sipush (v := (nI (366))) hx hb dX3_delivers_52 (by decide) ?_
    refine lv_iload_n hx hb dX3_delivers_55 rfl (lv_at hl 0 rfl) ?_
    refine n_iadd hx hb dX3_delivers_56  ?_
    refine lv_aload_n hx hb dX3_delivers_57 rfl (lv_at hl 1 rfl) ?_
    refine gt3 hx hb hts hown hC.1 hP 0 rfl 0 (by decide) qw456 rfl dX3_delivers_58 ?_
    refine lv_sipush (v := (nI (366))) hx hb dX3_delivers_61 (by decide) ?_
    refine lv_iload_n hx hb dX3_delivers_64 rfl (lv_at hl 0 rfl) ?_
    refine n_iadd hx hb dX3_delivers_65  ?_
    refine n_iald hx hb hC.1 hP 1 0 rfl rfl (by omega) (by decide) dX3_delivers_66 ?_
    refine w_cv (y := (w (366 + k))) (by subst hw_4; subst hw_1; rw [pk_un (by omega), pk_un (by omega)]) ?_
    refine lv_iload_n hx hb dX3_delivers_67 rfl (lv_at hl 2 rfl) ?_
    refine lv_icmp_le (tgt := 84) hx hb dX3_delivers_68 (by decide)  (fun c_68 => ?_) (fun c_68 => ?_)
    · exact absurd c_68 c_38
    · refine lv_aload_n hx hb dX3_delivers_71 rfl (lv_at hl 1 rfl) ?_
      refine gt3 hx hb hts hown hC.1 hP 0 rfl 0 (by decide) qw456 rfl dX3_delivers_72 ?_
      refine lv_sipush (v := (nI (366))) hx hb dX3_delivers_75 (by decide) ?_
      refine lv_iload_n hx hb dX3_delivers_78 rfl (lv_at hl 0 rfl) ?_
      refine n_iadd hx hb dX3_delivers_79  ?_
      refine n_iald hx hb hC.1 hP 1 0 rfl rfl (by omega) (by decide) dX3_delivers_80 ?_
      refine w_cv (y := (w (366 + k))) (by subst hw_4; subst hw_1; rw [pk_un (by omega), pk_un (by omega)]) ?_
      refine lv_goto (tgt := 85) hx hb dX3_delivers_81 (by decide) ?_
      refine n_iast hx hb hC.1 hP hD hS 1 0 rfl rfl (by omega) (by decide) dX3_delivers_85 (fun H locs hP hD hS => ?_)
      obtain ⟨w_5, hw_5⟩ : ∃ z : Nat → Int32, z = upd w_4 (366 + k) (w (366 + k)) := ⟨_, rfl⟩
      replace hP : va_P D vwCl (mdW cI h b w_5 past er bf tk sv hs) H := by rw [hw_5]; exact hP
      replace hD : va_D A (mdW cI h b w_5 past er bf tk sv hs) := by rw [hw_5]; exact hD
      exact hret (w_5) _ ls _ _ (by subst hw_5; subst hw_4; subst hw_1; unfold dlv; rw [show (128 * b_ + k) % 128 = k by omega, if_pos (Int32.not_le.mp c_38), if_pos (Int32.not_le.mp c_38)]) hP hD hS dX3_delivers_86

set_option maxHeartbeats 4000000 in
set_option maxRecDepth 100000 in
theorem c_X3_laysBefore (l : Launch) (D : va_G) (cI cO : ClassId) (sz : Nat) (h : Nat) (b : Nat → Nat) (w past er bf tk : Nat → Int32) (sv : Int32) (hs : Int64) (c0 : Nat) (hW : WF c0 w)   : Met l yX3_laysBefore (Cond.code yX3_laysBefore cX3_laysBefore 2 none :: WL) ({ frames := 4, cells := 0, slots := 0, locals := 97 } : Room) (va_Pc [.ref (h)] (PW D cI cO (mdW cI h b w past er bf tk sv hs) sz)) (va_Qv (fun (u : Nat → Int32) => ∀ j, j < 96 → u j = lk w j) (QB D (mdW cI h b w past er bf tk sv hs) sz (fun (u : Nat → Int32) => mdW cI h b w past er u tk sv hs)) (va_A (mdW cI h b w past er bf tk sv hs) sz)) 0 0 (va_A (mdW cI h b w past er bf tk sv hs) sz) := by
  refine wr_void (by decide) (Nat.le_of_ble_eq_true rfl) ?_
  intro p e s m args below meth c Q ls A F hP hC hD hA hret hl
  have hx := F.1
  have hb := F.2.1
  have hml := F.2.2.1
  have hown := F.2.2.2.1
  have hts := F.2.2.2.2
  replace hl : lv_has ls 2 [(0, .ref (h))] := hl
  have hS : va_S A s.heap s.heap [] := va_S.rf
  have hn4 := hW.n.2
  refine lv_iconst (v := (nI (0))) hx hb dX3_laysBefore_0 (by decide) ?_
  refine lv_istore_n (lv' := [(1, .int (nI (0))), (0, .ref (h))]) hx hb dX3_laysBefore_1 rfl hl (by decide) rfl (fun ls hl => ?_)
  have lp_2 : ∀ (fu_2 : Nat) (k : Nat) (Bk : Nat → Int32) (H : Heap) (locs : List Loc) (ls : Array Slot), 96 - k < fu_2 → (k ≤ 96) → (∀ j, j < k → Bk j = lk w j) → va_P D vwCl (mdW cI h b w past er Bk tk sv hs) H → va_D A (mdW cI h b w past er Bk tk sv hs) → va_S A s.heap H locs → lv_has ls 2 [(1, .int (nI (k))), (0, .ref (h))] → W p l e ({ frames := 4, cells := 0, slots := 0, locals := 97 } : Room) s m args below meth c H locs 0 0 Q (F0 m 2 ls []) := by
    intro fu_2
    induction fu_2 with
    | zero => intro k Bk H locs ls hmu_2; exact absurd hmu_2 (Nat.not_lt_zero _)
    | succ fu_2 ih_2 =>
      intro k Bk H locs ls hmu_2 hk hB hP hD hS hl
      refine lv_iload_n hx hb dX3_laysBefore_2 rfl (lv_at hl 0 rfl) ?_
      refine lv_bipush (v := (nI (96))) hx hb dX3_laysBefore_3 (by decide) ?_
      refine n_icmp_ge (tgt := 25) hx hb dX3_laysBefore_5 (by decide) (by omega) (by omega) (fun c_5 => ?_) (fun c_5 => ?_)
      · exact hret (Bk) _ ls _ _ (fun j hj => hB j (by omega)) hP hD hS dX3_laysBefore_25
      · refine lv_aload_n hx hb dX3_laysBefore_8 rfl (lv_at hl 1 rfl) ?_
        refine gt3 hx hb hts hown hC.1 hP 0 rfl 4 (by decide) qw460 rfl dX3_laysBefore_9 ?_
        refine lv_iload_n hx hb dX3_laysBefore_12 rfl (lv_at hl 0 rfl) ?_
        refine lv_aload_n hx hb dX3_laysBefore_13 rfl (lv_at hl 1 rfl) ?_
        refine lv_iload_n hx hb dX3_laysBefore_14 rfl (lv_at hl 0 rfl) ?_
        refine goR (kV (As := [.int (nI (k))]) (rest := [.int (nI (k)), .ref (b 3)]) F (c_X3_linkOf l D cI cO h b w past er Bk tk sv hs c0 hW (k) (by omega)) ywX3_linkOf qw513 qw515 qs38 ⟨rfl, rfl⟩ ⟨Nat.le_of_ble_eq_true rfl, Nat.le_of_ble_eq_true rfl⟩ (preV (preR hP hC) hC hP (ci := 3) (q0 := 0) rfl rfl rfl) rfl hl.1 rfl (Nat.le_of_ble_eq_true rfl) dX3_laysBefore_15 ⟨Nat.zero_le _, Nat.zero_le _⟩) (fun r_15 h_15 => ?_)
        subst h_15
        refine n_iast hx hb hC.1 hP hD hS 4 0 rfl rfl (by omega) (by decide) dX3_laysBefore_18 (fun H locs hP hD hS => ?_)
        obtain ⟨bf_1, hbf_1⟩ : ∃ z : Nat → Int32, z = upd Bk (k) (lk w k) := ⟨_, rfl⟩
        replace hP : va_P D vwCl (mdW cI h b w past er bf_1 tk sv hs) H := by rw [hbf_1]; exact hP
        replace hD : va_D A (mdW cI h b w past er bf_1 tk sv hs) := by rw [hbf_1]; exact hD
        refine n_iinc (a := k) (b := 1) (lv' := [(1, .int (nI (k + 1))), (0, .ref (h))]) hx hb dX3_laysBefore_19 hl (k := 0) rfl rfl (by decide) rfl (fun ls hl => ?_)
        refine lv_goto (tgt := 2) hx hb dX3_laysBefore_22 (by decide) ?_
        exact ih_2 (k + 1) (bf_1) _ _ ls (by omega) (by omega) (fun j hj => by rw [hbf_1]; exact if h9 : j = k then (by rw [h9, upd_eq]) else (by rw [pk_un h9]; exact hB j (by omega))) hP hD hS (lv_sub hl [0, 1] rfl)
  exact lp_2 _ (0) (bf) _ _ ls (Nat.lt_succ_self _) (by omega) (fun j hj => absurd hj (by omega)) hP hD hS (lv_sub hl [0, 1] rfl)

set_option maxHeartbeats 4000000 in
set_option maxRecDepth 100000 in
theorem c_X3_diverts (l : Launch) (D : va_G) (cI cO : ClassId) (sz : Nat) (h : Nat) (b : Nat → Nat) (w past er bf tk : Nat → Int32) (sv : Int32) (hs : Int64) (c0 : Nat) (hW : WF c0 w)  (hc : c0 < 1000) : Met l yX3_diverts (Cond.code yX3_diverts cX3_diverts 4 (some .int) :: WL) ({ frames := 4, cells := 0, slots := 0, locals := 97 } : Room) (va_Pc [.ref (h)] (PW D cI cO (mdW cI h b w past er bf tk sv hs) sz)) (va_Qi (fun (r : Int32) (u : Nat → Int32) => r = nI (dvN w bf 96).2 ∧ u = (dvN w bf 96).1) (QB D (mdW cI h b w past er bf tk sv hs) sz (fun (u : Nat → Int32) => mdW cI h b u past er bf tk sv hs)) (va_A (mdW cI h b w past er bf tk sv hs) sz)) 0 0 (va_A (mdW cI h b w past er bf tk sv hs) sz) := by
  refine wr_int (by decide) (Nat.le_of_ble_eq_true rfl) ?_
  intro p e s m args below meth c Q ls A F hP hC hD hA hret hl
  have hx := F.1
  have hb := F.2.1
  have hml := F.2.2.1
  have hown := F.2.2.2.1
  have hts := F.2.2.2.2
  replace hl : lv_has ls 4 [(0, .ref (h))] := hl
  have hS : va_S A s.heap s.heap [] := va_S.rf
  have hn4 := hW.n.2
  have hd9 := hW.d.2
  have ht := hW.t.2
  refine lv_iconst (v := (nI (0))) hx hb dX3_diverts_0 (by decide) ?_
  refine lv_istore_n (lv' := [(1, .int (nI (0))), (0, .ref (h))]) hx hb dX3_diverts_1 rfl hl (by decide) rfl (fun ls hl => ?_)
  refine lv_iconst (v := (nI (0))) hx hb dX3_diverts_2 (by decide) ?_
  refine lv_istore_n (lv' := [(2, .int (nI (0))), (1, .int (nI (0))), (0, .ref (h))]) hx hb dX3_diverts_3 rfl hl (by decide) rfl (fun ls hl => ?_)
  have lp_4 : ∀ (fu_4 : Nat) (k : Nat) (cn : Nat) (wk : Nat → Int32) (H : Heap) (locs : List Loc) (ls : Array Slot), 96 - k < fu_4 → (k ≤ 96) → (cn = (dvN w bf k).2) → (wk = (dvN w bf k).1) → va_P D vwCl (mdW cI h b wk past er bf tk sv hs) H → va_D A (mdW cI h b wk past er bf tk sv hs) → va_S A s.heap H locs → lv_has ls 4 [(2, .int (nI (k))), (1, .int (nI (cn))), (0, .ref (h))] → W p l e ({ frames := 4, cells := 0, slots := 0, locals := 97 } : Room) s m args below meth c H locs 0 0 Q (F0 m 4 ls []) := by
    intro fu_4
    induction fu_4 with
    | zero => intro k cn wk H locs ls hmu_4; exact absurd hmu_4 (Nat.not_lt_zero _)
    | succ fu_4 ih_4 =>
      intro k cn wk H locs ls hmu_4 hk hcn hwk hP hD hS hl
      have hWk : WF c0 wk := by rw [hwk]; exact WF_dvN hW hc k hk
      refine lv_iload_n hx hb dX3_diverts_4 rfl (lv_at hl 0 rfl) ?_
      refine lv_bipush (v := (nI (96))) hx hb dX3_diverts_5 (by decide) ?_
      refine n_icmp_ge (tgt := 88) hx hb dX3_diverts_7 (by decide) (by omega) (by omega) (fun c_7 => ?_) (fun c_7 => ?_)
      · refine lv_iload_n hx hb dX3_diverts_88 rfl (lv_at hl 1 rfl) ?_
        exact hret _ (wk) _ ls _ _ (⟨by rw [hcn, show k = 96 by omega], by have e9 : k = 96 := (by omega); rw [← e9]; exact hwk⟩) hP hD hS dX3_diverts_89
      · refine lv_aload_n hx hb dX3_diverts_10 rfl (lv_at hl 2 rfl) ?_
        refine gt3 hx hb hts hown hC.1 hP 0 rfl 0 (by decide) qw456 rfl dX3_diverts_11 ?_
        refine lv_sipush (v := (nI (463))) hx hb dX3_diverts_14 (by decide) ?_
        refine n_iald hx hb hC.1 hP 1 0 rfl rfl (by omega) (by decide) dX3_diverts_17 ?_
        refine w_cv (y := (nI (hd w))) (by rw [hwk, dvN_ne k (by omega)]; exact hW.d.1) ?_
        refine n_if_le (tgt := 88) hx hb dX3_diverts_18 (by decide) (by omega) (fun c_18 => ?_) (fun c_18 => ?_)
        · refine lv_iload_n hx hb dX3_diverts_88 rfl (lv_at hl 1 rfl) ?_
          exact hret _ (wk) _ ls _ _ (⟨by rw [hcn, dvN_0 (by omega), dvN_0 (by omega)], by rw [hwk, dvN_0 (by omega), dvN_0 (by omega)]⟩) hP hD hS dX3_diverts_89
        · refine lv_aload_n hx hb dX3_diverts_21 rfl (lv_at hl 2 rfl) ?_
          refine lv_iload_n hx hb dX3_diverts_22 rfl (lv_at hl 0 rfl) ?_
          refine goR (kV (As := [.int (nI (k))]) (rest := []) F (c_X3_linkOf l D cI cO h b wk past er bf tk sv hs c0 hWk (k) (by omega)) ywX3_linkOf qw513 qw515 qs38 ⟨rfl, rfl⟩ ⟨Nat.le_of_ble_eq_true rfl, Nat.le_of_ble_eq_true rfl⟩ (preV (preR hP hC) hC hP (ci := 3) (q0 := 0) rfl rfl rfl) rfl hl.1 rfl (Nat.le_of_ble_eq_true rfl) dX3_diverts_23 ⟨Nat.zero_le _, Nat.zero_le _⟩) (fun r_23 h_23 => ?_)
          subst h_23
          refine w_cv (y := (lk w k)) (by rw [hwk]; exact lk_dvN hW hk (by omega)) ?_
          refine lv_istore_n (lv' := [(3, .int (lk w k)), (2, .int (nI (k))), (1, .int (nI (cn))), (0, .ref (h))]) hx hb dX3_diverts_26 rfl hl (by decide) rfl (fun ls hl => ?_)
          refine lv_aload_n hx hb dX3_diverts_27 rfl (lv_at hl 3 rfl) ?_
          refine gt3 hx hb hts hown hC.1 hP 0 rfl 4 (by decide) qw460 rfl dX3_diverts_28 ?_
          refine lv_iload_n hx hb dX3_diverts_31 rfl (lv_at hl 1 rfl) ?_
          refine n_iald hx hb hC.1 hP 4 0 rfl rfl (by omega) (by decide) dX3_diverts_32 ?_
          refine lv_iconst (v := (-1)) hx hb dX3_diverts_33 (by decide) ?_
          refine lv_icmp_eq (tgt := 82) hx hb dX3_diverts_34 (by decide)  (fun c_34 => ?_) (fun c_34 => ?_)
          · refine n_iinc (a := k) (b := 1) (lv' := [(2, .int (nI (k + 1))), (3, .int (lk w k)), (1, .int (nI (cn))), (0, .ref (h))]) hx hb dX3_diverts_82 hl (k := 1) rfl rfl (by decide) rfl (fun ls hl => ?_)
            refine lv_goto (tgt := 4) hx hb dX3_diverts_85 (by decide) ?_
            exact ih_4 (k + 1) (cn) (wk) _ _ ls (by omega) (by omega) (by simp only [dvN]; rw [if_neg (fun e9 => e9.2.1 c_34)]; exact hcn) (by simp only [dvN]; rw [if_neg (fun e9 => e9.2.1 c_34)]; exact hwk) hP hD hS (lv_sub hl [0, 2, 3] rfl)
          · refine lv_iload_n hx hb dX3_diverts_37 rfl (lv_at hl 0 rfl) ?_
            refine lv_iconst (v := (-1)) hx hb dX3_diverts_38 (by decide) ?_
            refine lv_icmp_eq (tgt := 82) hx hb dX3_diverts_39 (by decide)  (fun c_39 => ?_) (fun c_39 => ?_)
            · refine n_iinc (a := k) (b := 1) (lv' := [(2, .int (nI (k + 1))), (3, .int (lk w k)), (1, .int (nI (cn))), (0, .ref (h))]) hx hb dX3_diverts_82 hl (k := 1) rfl rfl (by decide) rfl (fun ls hl => ?_)
              refine lv_goto (tgt := 4) hx hb dX3_diverts_85 (by decide) ?_
              exact ih_4 (k + 1) (cn) (wk) _ _ ls (by omega) (by omega) (by simp only [dvN]; rw [if_neg (fun e9 => e9.2.2.1 c_39)]; exact hcn) (by simp only [dvN]; rw [if_neg (fun e9 => e9.2.2.1 c_39)]; exact hwk) hP hD hS (lv_sub hl [0, 2, 3] rfl)
            · refine lv_iload_n hx hb dX3_diverts_42 rfl (lv_at hl 0 rfl) ?_
              refine lv_aload_n hx hb dX3_diverts_43 rfl (lv_at hl 3 rfl) ?_
              refine gt3 hx hb hts hown hC.1 hP 0 rfl 4 (by decide) qw460 rfl dX3_diverts_44 ?_
              refine lv_iload_n hx hb dX3_diverts_47 rfl (lv_at hl 1 rfl) ?_
              refine n_iald hx hb hC.1 hP 4 0 rfl rfl (by omega) (by decide) dX3_diverts_48 ?_
              refine lv_icmp_eq (tgt := 82) hx hb dX3_diverts_49 (by decide)  (fun c_49 => ?_) (fun c_49 => ?_)
              · refine n_iinc (a := k) (b := 1) (lv' := [(2, .int (nI (k + 1))), (3, .int (lk w k)), (1, .int (nI (cn))), (0, .ref (h))]) hx hb dX3_diverts_82 hl (k := 1) rfl rfl (by decide) rfl (fun ls hl => ?_)
                refine lv_goto (tgt := 4) hx hb dX3_diverts_85 (by decide) ?_
                exact ih_4 (k + 1) (cn) (wk) _ _ ls (by omega) (by omega) (by simp only [dvN]; rw [if_neg (fun e9 => e9.2.2.2 c_49)]; exact hcn) (by simp only [dvN]; rw [if_neg (fun e9 => e9.2.2.2 c_49)]; exact hwk) hP hD hS (lv_sub hl [0, 2, 3] rfl)
              · refine lv_aload_n hx hb dX3_diverts_52 rfl (lv_at hl 3 rfl) ?_
                refine gt3 hx hb hts hown hC.1 hP 0 rfl 0 (by decide) qw456 rfl dX3_diverts_53 ?_
                refine lv_sipush (v := (nI (245))) hx hb dX3_diverts_56 (by decide) ?_
                refine lv_iload_n hx hb dX3_diverts_59 rfl (lv_at hl 1 rfl) ?_
                refine n_iadd hx hb dX3_diverts_60  ?_
                refine lv_aload_n hx hb dX3_diverts_61 rfl (lv_at hl 3 rfl) ?_
                refine gt3 hx hb hts hown hC.1 hP 0 rfl 0 (by decide) qw456 rfl dX3_diverts_62 ?_
                refine lv_sipush (v := (nI (462))) hx hb dX3_diverts_65 (by decide) ?_
                refine n_iald hx hb hC.1 hP 1 0 rfl rfl (by omega) (by decide) dX3_diverts_68 ?_
                refine w_cv (y := (nI (tm w))) (by rw [hwk, dvN_ne k (by omega)]; exact hW.t.1) ?_
                refine lv_aload_n hx hb dX3_diverts_69 rfl (lv_at hl 3 rfl) ?_
                refine gt3 hx hb hts hown hC.1 hP 0 rfl 0 (by decide) qw456 rfl dX3_diverts_70 ?_
                refine lv_sipush (v := (nI (463))) hx hb dX3_diverts_73 (by decide) ?_
                refine n_iald hx hb hC.1 hP 1 0 rfl rfl (by omega) (by decide) dX3_diverts_76 ?_
                refine w_cv (y := (nI (hd w))) (by rw [hwk, dvN_ne k (by omega)]; exact hW.d.1) ?_
                refine n_iadd hx hb dX3_diverts_77  ?_
                refine n_iast hx hb hC.1 hP hD hS 1 0 rfl rfl (by omega) (by decide) dX3_diverts_78 (fun H locs hP hD hS => ?_)
                obtain ⟨w_1, hw_1⟩ : ∃ z : Nat → Int32, z = upd wk (245 + k) (nI ((tm w) + (hd w))) := ⟨_, rfl⟩
                replace hP : va_P D vwCl (mdW cI h b w_1 past er bf tk sv hs) H := by rw [hw_1]; exact hP
                replace hD : va_D A (mdW cI h b w_1 past er bf tk sv hs) := by rw [hw_1]; exact hD
                refine n_iinc (a := cn) (b := 1) (lv' := [(1, .int (nI (cn + 1))), (3, .int (lk w k)), (2, .int (nI (k))), (0, .ref (h))]) hx hb dX3_diverts_79 hl (k := 2) rfl rfl (by decide) rfl (fun ls hl => ?_)
                refine n_iinc (a := k) (b := 1) (lv' := [(2, .int (nI (k + 1))), (1, .int (nI (cn + 1))), (3, .int (lk w k)), (0, .ref (h))]) hx hb dX3_diverts_82 hl (k := 2) rfl rfl (by decide) rfl (fun ls hl => ?_)
                refine lv_goto (tgt := 4) hx hb dX3_diverts_85 (by decide) ?_
                exact ih_4 (k + 1) (cn + 1) (w_1) _ _ ls (by omega) (by omega) (by simp only [dvN]; rw [if_pos ⟨by omega, c_34, c_39, c_49⟩]; show _ = _ + 1; omega) (by simp only [dvN]; rw [if_pos ⟨by omega, c_34, c_39, c_49⟩, hw_1, hwk]) hP hD hS (lv_sub hl [0, 1, 3] rfl)
  exact lp_4 _ (0) (0) (w) _ _ ls (Nat.lt_succ_self _) (by omega) (rfl) (rfl) hP hD hS (lv_sub hl [0, 1, 2] rfl)

set_option maxHeartbeats 4000000 in
set_option maxRecDepth 100000 in
theorem c_X3_saves (l : Launch) (D : va_G) (cI cO : ClassId) (sz : Nat) (h : Nat) (b : Nat → Nat) (w past er bf tk : Nat → Int32) (sv : Int32) (hs : Int64) (c0 : Nat) (hW : WF c0 w)  (n_ : Nat) (hn_ : n_ ≤ 4) (hsv : sv = nI n_) : Met l yX3_saves (Cond.code yX3_saves cX3_saves 2 none :: WL) ({ frames := 0, cells := 0, slots := 0, locals := 0 } : Room) (va_Pc [.ref (h)] (PW D cI cO (mdW cI h b w past er bf tk sv hs) sz)) (va_Qv (fun (u : (Nat → Int32) × Int32) => SV past n_ w u.1 ∧ u.2 = nI (sn1 n_)) (QB D (mdW cI h b w past er bf tk sv hs) sz (fun (u : (Nat → Int32) × Int32) => mdW cI h b w u.1 er bf tk u.2 hs)) (va_A (mdW cI h b w past er bf tk sv hs) sz)) 0 0 (va_A (mdW cI h b w past er bf tk sv hs) sz) := by
  refine wr_void (by decide) (Nat.le_of_ble_eq_true rfl) ?_
  intro p e s m args below meth c Q ls A F hP hC hD hA hret hl
  have hx := F.1
  have hb := F.2.1
  have hml := F.2.2.1
  have hown := F.2.2.2.1
  have hts := F.2.2.2.2
  replace hl : lv_has ls 2 [(0, .ref (h))] := hl
  have hS : va_S A s.heap s.heap [] := va_S.rf
  have hn4 := hW.n.2
  refine lv_aload_n hx hb dX3_saves_0 rfl (lv_at hl 0 rfl) ?_
  refine gt3 hx hb hts hown hC.1 hP 0 rfl 2 (by decide) qw458 rfl dX3_saves_1 ?_
  refine w_cv (y := (nI (n_))) hsv ?_
  refine lv_iconst (v := (nI (4))) hx hb dX3_saves_4 (by decide) ?_
  refine n_icmp_ne (tgt := 49) hx hb dX3_saves_5 (by decide) (by omega) (by omega) (fun c_5 => ?_) (fun c_5 => ?_)
  · refine lv_iconst (v := (nI (0))) hx hb dX3_saves_49 (by decide) ?_
    refine lv_istore_n (lv' := [(1, .int (nI (0))), (0, .ref (h))]) hx hb dX3_saves_50 rfl hl (by decide) rfl (fun ls hl => ?_)
    have lp_51 : ∀ (fu_51 : Nat) (j : Nat) (pk : Nat → Int32) (H : Heap) (locs : List Loc) (ls : Array Slot), 470 - j < fu_51 → (j ≤ 470) → (∀ x, pk x = if 470 * (n_) ≤ x ∧ x < 470 * (n_) + j then w (x - 470 * (n_)) else past x) → va_P D vwCl (mdW cI h b w pk er bf tk sv hs) H → va_D A (mdW cI h b w pk er bf tk sv hs) → va_S A s.heap H locs → lv_has ls 2 [(1, .int (nI (j))), (0, .ref (h))] → W p l e ({ frames := 0, cells := 0, slots := 0, locals := 0 } : Room) s m args below meth c H locs 0 0 Q (F0 m 51 ls []) := by
      intro fu_51
      induction fu_51 with
      | zero => intro j pk H locs ls hmu_51; exact absurd hmu_51 (Nat.not_lt_zero _)
      | succ fu_51 ih_51 =>
        intro j pk H locs ls hmu_51 hj hpk hP hD hS hl
        refine lv_iload_n hx hb dX3_saves_51 rfl (lv_at hl 0 rfl) ?_
        refine lv_sipush (v := (nI (470))) hx hb dX3_saves_52 (by decide) ?_
        refine n_icmp_ge (tgt := 85) hx hb dX3_saves_55 (by decide) (by omega) (by omega) (fun c_55 => ?_) (fun c_55 => ?_)
        · refine lv_aload_n hx hb dX3_saves_85 rfl (lv_at hl 1 rfl) ?_
          refine lv_dup hx hb dX3_saves_86 rfl ?_
          refine gt3 hx hb hts hown hC.1 hP 0 rfl 2 (by decide) qw458 rfl dX3_saves_87 ?_
          refine w_cv (y := (nI (n_))) hsv ?_
          refine lv_iconst (v := (nI (1))) hx hb dX3_saves_90 (by decide) ?_
          refine n_iadd hx hb dX3_saves_91  ?_
          refine pt3 (ty := .int) hx hb hts hown hC.1 hP hD hS 0 rfl 2 (by decide) qw458 rfl (by decide +kernel) rfl rfl (Nat.le_of_ble_eq_true rfl) dX3_saves_92 (fun H locs hP hD hS => ?_)
          replace hP : va_P D vwCl (mdW cI h b w pk er bf tk ((nI (n_ + 1))) hs) H := by exact hP
          replace hD : va_D A (mdW cI h b w pk er bf tk ((nI (n_ + 1))) hs) := by exact hD
          exact hret ((pk, (nI (n_ + 1)))) _ ls _ _ (⟨SV_3 c_5 hpk (by omega), by unfold sn1; rw [if_neg c_5]⟩) hP hD hS dX3_saves_95
        · refine lv_aload_n hx hb dX3_saves_58 rfl (lv_at hl 1 rfl) ?_
          refine gt3 hx hb hts hown hC.1 hP 0 rfl 1 (by decide) qw457 rfl dX3_saves_59 ?_
          refine lv_sipush (v := (nI (470))) hx hb dX3_saves_62 (by decide) ?_
          refine lv_aload_n hx hb dX3_saves_65 rfl (lv_at hl 1 rfl) ?_
          refine gt3 hx hb hts hown hC.1 hP 0 rfl 2 (by decide) qw458 rfl dX3_saves_66 ?_
          refine w_cv (y := (nI (n_))) hsv ?_
          refine n_imul hx hb dX3_saves_69  ?_
          refine lv_iload_n hx hb dX3_saves_70 rfl (lv_at hl 0 rfl) ?_
          refine n_iadd hx hb dX3_saves_71  ?_
          refine lv_aload_n hx hb dX3_saves_72 rfl (lv_at hl 1 rfl) ?_
          refine gt3 hx hb hts hown hC.1 hP 0 rfl 0 (by decide) qw456 rfl dX3_saves_73 ?_
          refine lv_iload_n hx hb dX3_saves_76 rfl (lv_at hl 0 rfl) ?_
          refine n_iald hx hb hC.1 hP 1 0 rfl rfl (by omega) (by decide) dX3_saves_77 ?_
          refine n_iast hx hb hC.1 hP hD hS 2 0 rfl rfl (by omega) (by decide) dX3_saves_78 (fun H locs hP hD hS => ?_)
          obtain ⟨past_1, hpast_1⟩ : ∃ z : Nat → Int32, z = upd pk ((470 * n_) + j) (w (j)) := ⟨_, rfl⟩
          replace hP : va_P D vwCl (mdW cI h b w past_1 er bf tk sv hs) H := by rw [hpast_1]; exact hP
          replace hD : va_D A (mdW cI h b w past_1 er bf tk sv hs) := by rw [hpast_1]; exact hD
          refine n_iinc (a := j) (b := 1) (lv' := [(1, .int (nI (j + 1))), (0, .ref (h))]) hx hb dX3_saves_79 hl (k := 0) rfl rfl (by decide) rfl (fun ls hl => ?_)
          refine lv_goto (tgt := 51) hx hb dX3_saves_82 (by decide) ?_
          exact ih_51 (j + 1) (past_1) _ _ ls (by omega) (by omega) (fun x => by rw [hpast_1]; exact if h9 : x = 470 * (n_) + j then (by rw [h9, upd_eq, if_pos (by omega), show 470 * (n_) + j - 470 * (n_) = j by omega]) else (by rw [pk_un h9, hpk x]; by_cases h8 : 470 * (n_) ≤ x ∧ x < 470 * (n_) + j; rw [if_pos h8, if_pos (by omega)]; rw [if_neg h8, if_neg (by omega)])) hP hD hS (lv_sub hl [0, 1] rfl)
    exact lp_51 _ (0) (past) _ _ ls (Nat.lt_succ_self _) (Nat.zero_le _) (fun x => by rw [if_neg (by omega)]) hP hD hS (lv_sub hl [0, 1] rfl)
  · refine lv_iconst (v := (nI (0))) hx hb dX3_saves_8 (by decide) ?_
    refine lv_istore_n (lv' := [(1, .int (nI (0))), (0, .ref (h))]) hx hb dX3_saves_9 rfl hl (by decide) rfl (fun ls hl => ?_)
    have lp_10 : ∀ (fu_10 : Nat) (j1 : Nat) (pk1 : Nat → Int32) (H : Heap) (locs : List Loc) (ls : Array Slot), 1410 - j1 < fu_10 → (j1 ≤ 1410) → (∀ x, pk1 x = if x < j1 then past (x + 470) else past x) → va_P D vwCl (mdW cI h b w pk1 er bf tk sv hs) H → va_D A (mdW cI h b w pk1 er bf tk sv hs) → va_S A s.heap H locs → lv_has ls 2 [(1, .int (nI (j1))), (0, .ref (h))] → W p l e ({ frames := 0, cells := 0, slots := 0, locals := 0 } : Room) s m args below meth c H locs 0 0 Q (F0 m 10 ls []) := by
      intro fu_10
      induction fu_10 with
      | zero => intro j1 pk1 H locs ls hmu_10; exact absurd hmu_10 (Nat.not_lt_zero _)
      | succ fu_10 ih_10 =>
        intro j1 pk1 H locs ls hmu_10 hj1 hpk1 hP hD hS hl
        refine lv_iload_n hx hb dX3_saves_10 rfl (lv_at hl 0 rfl) ?_
        refine lv_sipush (v := (nI (1410))) hx hb dX3_saves_11 (by decide) ?_
        refine n_icmp_ge (tgt := 39) hx hb dX3_saves_14 (by decide) (by omega) (by omega) (fun c_14 => ?_) (fun c_14 => ?_)
        · refine lv_aload_n hx hb dX3_saves_39 rfl (lv_at hl 1 rfl) ?_
          refine lv_dup hx hb dX3_saves_40 rfl ?_
          refine gt3 hx hb hts hown hC.1 hP 0 rfl 2 (by decide) qw458 rfl dX3_saves_41 ?_
          refine w_cv (y := (nI (n_))) hsv ?_
          refine lv_iconst (v := (nI (1))) hx hb dX3_saves_44 (by decide) ?_
          refine n_isub hx hb dX3_saves_45 (by omega) ?_
          refine pt3 (ty := .int) hx hb hts hown hC.1 hP hD hS 0 rfl 2 (by decide) qw458 rfl (by decide +kernel) rfl rfl (Nat.le_of_ble_eq_true rfl) dX3_saves_46 (fun H locs hP hD hS => ?_)
          replace hP : va_P D vwCl (mdW cI h b w pk1 er bf tk ((nI (n_ - 1))) hs) H := by exact hP
          replace hD : va_D A (mdW cI h b w pk1 er bf tk ((nI (n_ - 1))) hs) := by exact hD
          refine lv_iconst (v := (nI (0))) hx hb dX3_saves_49 (by decide) ?_
          refine lv_istore_n (lv' := [(1, .int (nI (0))), (0, .ref (h))]) hx hb dX3_saves_50 rfl hl (by decide) rfl (fun ls hl => ?_)
          have lp_51 : ∀ (fu_51 : Nat) (j : Nat) (pk : Nat → Int32) (H : Heap) (locs : List Loc) (ls : Array Slot), 470 - j < fu_51 → (j ≤ 470) → (∀ x, pk x = if 470 * (n_ - 1) ≤ x ∧ x < 470 * (n_ - 1) + j then w (x - 470 * (n_ - 1)) else pk1 x) → va_P D vwCl (mdW cI h b w pk er bf tk ((nI (n_ - 1))) hs) H → va_D A (mdW cI h b w pk er bf tk ((nI (n_ - 1))) hs) → va_S A s.heap H locs → lv_has ls 2 [(1, .int (nI (j))), (0, .ref (h))] → W p l e ({ frames := 0, cells := 0, slots := 0, locals := 0 } : Room) s m args below meth c H locs 0 0 Q (F0 m 51 ls []) := by
            intro fu_51
            induction fu_51 with
            | zero => intro j pk H locs ls hmu_51; exact absurd hmu_51 (Nat.not_lt_zero _)
            | succ fu_51 ih_51 =>
              intro j pk H locs ls hmu_51 hj hpk hP hD hS hl
              refine lv_iload_n hx hb dX3_saves_51 rfl (lv_at hl 0 rfl) ?_
              refine lv_sipush (v := (nI (470))) hx hb dX3_saves_52 (by decide) ?_
              refine n_icmp_ge (tgt := 85) hx hb dX3_saves_55 (by decide) (by omega) (by omega) (fun c_55 => ?_) (fun c_55 => ?_)
              · refine lv_aload_n hx hb dX3_saves_85 rfl (lv_at hl 1 rfl) ?_
                refine lv_dup hx hb dX3_saves_86 rfl ?_
                refine gt3 hx hb hts hown hC.1 hP 0 rfl 2 (by decide) qw458 rfl dX3_saves_87 ?_
                refine w_cv (y := (nI (n_ - 1))) rfl ?_
                refine lv_iconst (v := (nI (1))) hx hb dX3_saves_90 (by decide) ?_
                refine n_iadd hx hb dX3_saves_91  ?_
                refine pt3 (ty := .int) hx hb hts hown hC.1 hP hD hS 0 rfl 2 (by decide) qw458 rfl (by decide +kernel) rfl rfl (Nat.le_of_ble_eq_true rfl) dX3_saves_92 (fun H locs hP hD hS => ?_)
                replace hP : va_P D vwCl (mdW cI h b w pk er bf tk ((nI ((n_ - 1) + 1))) hs) H := by exact hP
                replace hD : va_D A (mdW cI h b w pk er bf tk ((nI ((n_ - 1) + 1))) hs) := by exact hD
                exact hret ((pk, (nI ((n_ - 1) + 1)))) _ ls _ _ (⟨SV_4 c_5 hpk1 hpk (by omega) (by omega), by unfold sn1; rw [if_pos c_5, c_5]⟩) hP hD hS dX3_saves_95
              · refine lv_aload_n hx hb dX3_saves_58 rfl (lv_at hl 1 rfl) ?_
                refine gt3 hx hb hts hown hC.1 hP 0 rfl 1 (by decide) qw457 rfl dX3_saves_59 ?_
                refine lv_sipush (v := (nI (470))) hx hb dX3_saves_62 (by decide) ?_
                refine lv_aload_n hx hb dX3_saves_65 rfl (lv_at hl 1 rfl) ?_
                refine gt3 hx hb hts hown hC.1 hP 0 rfl 2 (by decide) qw458 rfl dX3_saves_66 ?_
                refine w_cv (y := (nI (n_ - 1))) rfl ?_
                refine n_imul hx hb dX3_saves_69  ?_
                refine lv_iload_n hx hb dX3_saves_70 rfl (lv_at hl 0 rfl) ?_
                refine n_iadd hx hb dX3_saves_71  ?_
                refine lv_aload_n hx hb dX3_saves_72 rfl (lv_at hl 1 rfl) ?_
                refine gt3 hx hb hts hown hC.1 hP 0 rfl 0 (by decide) qw456 rfl dX3_saves_73 ?_
                refine lv_iload_n hx hb dX3_saves_76 rfl (lv_at hl 0 rfl) ?_
                refine n_iald hx hb hC.1 hP 1 0 rfl rfl (by omega) (by decide) dX3_saves_77 ?_
                refine n_iast hx hb hC.1 hP hD hS 2 0 rfl rfl (by omega) (by decide) dX3_saves_78 (fun H locs hP hD hS => ?_)
                obtain ⟨past_2, hpast_2⟩ : ∃ z : Nat → Int32, z = upd pk ((470 * (n_ - 1)) + j) (w (j)) := ⟨_, rfl⟩
                replace hP : va_P D vwCl (mdW cI h b w past_2 er bf tk ((nI (n_ - 1))) hs) H := by rw [hpast_2]; exact hP
                replace hD : va_D A (mdW cI h b w past_2 er bf tk ((nI (n_ - 1))) hs) := by rw [hpast_2]; exact hD
                refine n_iinc (a := j) (b := 1) (lv' := [(1, .int (nI (j + 1))), (0, .ref (h))]) hx hb dX3_saves_79 hl (k := 0) rfl rfl (by decide) rfl (fun ls hl => ?_)
                refine lv_goto (tgt := 51) hx hb dX3_saves_82 (by decide) ?_
                exact ih_51 (j + 1) (past_2) _ _ ls (by omega) (by omega) (fun x => by rw [hpast_2]; exact if h9 : x = 470 * (n_ - 1) + j then (by rw [h9, upd_eq, if_pos (by omega), show 470 * (n_ - 1) + j - 470 * (n_ - 1) = j by omega]) else (by rw [pk_un h9, hpk x]; by_cases h8 : 470 * (n_ - 1) ≤ x ∧ x < 470 * (n_ - 1) + j; rw [if_pos h8, if_pos (by omega)]; rw [if_neg h8, if_neg (by omega)])) hP hD hS (lv_sub hl [0, 1] rfl)
          exact lp_51 _ (0) (pk1) _ _ ls (Nat.lt_succ_self _) (Nat.zero_le _) (fun x => by rw [if_neg (by omega)]) hP hD hS (lv_sub hl [0, 1] rfl)
        · refine lv_aload_n hx hb dX3_saves_17 rfl (lv_at hl 1 rfl) ?_
          refine gt3 hx hb hts hown hC.1 hP 0 rfl 1 (by decide) qw457 rfl dX3_saves_18 ?_
          refine lv_iload_n hx hb dX3_saves_21 rfl (lv_at hl 0 rfl) ?_
          refine lv_aload_n hx hb dX3_saves_22 rfl (lv_at hl 1 rfl) ?_
          refine gt3 hx hb hts hown hC.1 hP 0 rfl 1 (by decide) qw457 rfl dX3_saves_23 ?_
          refine lv_iload_n hx hb dX3_saves_26 rfl (lv_at hl 0 rfl) ?_
          refine lv_sipush (v := (nI (470))) hx hb dX3_saves_27 (by decide) ?_
          refine n_iadd hx hb dX3_saves_30  ?_
          refine n_iald hx hb hC.1 hP 2 0 rfl rfl (by omega) (by decide) dX3_saves_31 ?_
          refine n_iast hx hb hC.1 hP hD hS 2 0 rfl rfl (by omega) (by decide) dX3_saves_32 (fun H locs hP hD hS => ?_)
          obtain ⟨past_3, hpast_3⟩ : ∃ z : Nat → Int32, z = upd pk1 (j1) (pk1 (j1 + 470)) := ⟨_, rfl⟩
          replace hP : va_P D vwCl (mdW cI h b w past_3 er bf tk sv hs) H := by rw [hpast_3]; exact hP
          replace hD : va_D A (mdW cI h b w past_3 er bf tk sv hs) := by rw [hpast_3]; exact hD
          refine n_iinc (a := j1) (b := 1) (lv' := [(1, .int (nI (j1 + 1))), (0, .ref (h))]) hx hb dX3_saves_33 hl (k := 0) rfl rfl (by decide) rfl (fun ls hl => ?_)
          refine lv_goto (tgt := 10) hx hb dX3_saves_36 (by decide) ?_
          exact ih_10 (j1 + 1) (past_3) _ _ ls (by omega) (by omega) (fun x => by rw [hpast_3]; exact if h9 : x = j1 then (by rw [h9, upd_eq, hpk1, if_neg (by omega), if_pos (by omega)]) else (by rw [pk_un h9, hpk1 x]; by_cases h8 : x < j1; rw [if_pos h8, if_pos (by omega)]; rw [if_neg h8, if_neg (by omega)])) hP hD hS (lv_sub hl [0, 1] rfl)
    exact lp_10 _ (0) (past) _ _ ls (Nat.lt_succ_self _) (Nat.zero_le _) (fun x => by rw [if_neg (by omega)]) hP hD hS (lv_sub hl [0, 1] rfl)

set_option maxHeartbeats 4000000 in
set_option maxRecDepth 100000 in
theorem c_X3_mix (l : Launch) (D : va_G) (cI cO : ClassId) (sz : Nat) (h : Nat) (b : Nat → Nat) (w past er bf tk : Nat → Int32) (sv : Int32) (hs : Int64) (c0 : Nat) (hW : WF c0 w)  (v_ : Int32) : Met l yX3_mix (Cond.code yX3_mix cX3_mix 2 none :: WL) ({ frames := 0, cells := 0, slots := 0, locals := 0 } : Room) (va_Pc [.ref (h), .int (v_)] (PW D cI cO (mdW cI h b w past er bf tk sv hs) sz)) (va_Qv (fun (u : Int64) => u = mx hs v_) (QB D (mdW cI h b w past er bf tk sv hs) sz (fun (u : Int64) => mdW cI h b w past er bf tk sv u)) (va_A (mdW cI h b w past er bf tk sv hs) sz)) 0 0 (va_A (mdW cI h b w past er bf tk sv hs) sz) := by
  refine wr_void (by decide) (Nat.le_of_ble_eq_true rfl) ?_
  intro p e s m args below meth c Q ls A F hP hC hD hA hret hl
  have hx := F.1
  have hb := F.2.1
  have hml := F.2.2.1
  have hown := F.2.2.2.1
  have hts := F.2.2.2.2
  replace hl : lv_has ls 2 [(0, .ref (h)), (1, .int (v_))] := hl
  have hS : va_S A s.heap s.heap [] := va_S.rf
  have hn4 := hW.n.2
  refine lv_aload_n hx hb dX3_mix_0 rfl (lv_at hl 0 rfl) ?_
  refine lv_ldc2 (own := "SignallingPointModel") (v := 31) hx hb hown (hts _ qw667) dX3_mix_1 ?_
  refine lv_aload_n hx hb dX3_mix_4 rfl (lv_at hl 0 rfl) ?_
  refine gt3 hx hb hts hown hC.1 hP 0 rfl 6 (by decide) qw462 rfl dX3_mix_5 ?_
  refine lv_lmul hx hb dX3_mix_8 ?_
  refine lv_iload_n hx hb dX3_mix_9 rfl (lv_at hl 1 rfl) ?_
  refine lv_i2l (v := Int32.toInt64 (v_)) hx hb dX3_mix_10 rfl ?_
  refine lv_ladd hx hb dX3_mix_11 ?_
  refine pt3 (ty := .long) hx hb hts hown hC.1 hP hD hS 0 rfl 6 (by decide) qw462 rfl (by decide +kernel) rfl rfl (Nat.le_of_ble_eq_true rfl) dX3_mix_12 (fun H locs hP hD hS => ?_)
  obtain ⟨hs_1, hhs_1⟩ : ∃ z : Int64, z = (((31) * (hs)) + (Int32.toInt64 (v_))) := ⟨_, rfl⟩
  replace hP : va_P D vwCl (mdW cI h b w past er bf tk sv hs_1) H := by rw [hhs_1]; exact hP
  replace hD : va_D A (mdW cI h b w past er bf tk sv hs_1) := by rw [hhs_1]; exact hD
  exact hret (hs_1) _ ls _ _ (hhs_1) hP hD hS dX3_mix_15

set_option maxHeartbeats 4000000 in
set_option maxRecDepth 100000 in
theorem c_X3_mixLink (l : Launch) (D : va_G) (cI cO : ClassId) (sz : Nat) (h : Nat) (b : Nat → Nat) (w past er bf tk : Nat → Int32) (sv : Int32) (hs : Int64) (c0 : Nat) (hW : WF c0 w)  (v_ : Nat) (hc : c0 < 1000) (hv : v_ < 16) : Met l yX3_mixLink (Cond.code yX3_mixLink cX3_mixLink 3 none :: WL) ({ frames := 1, cells := 0, slots := 0, locals := 21 } : Room) (va_Pc [.ref (h), .int (nI (v_))] (PW D cI cO (mdW cI h b w past er bf tk sv hs) sz)) (va_Qv (fun (u : Int64) => u = mxQ w v_ (mx hs (nI (ac w v_)))) (QB D (mdW cI h b w past er bf tk sv hs) sz (fun (u : Int64) => mdW cI h b w past er bf tk sv u)) (va_A (mdW cI h b w past er bf tk sv hs) sz)) 0 0 (va_A (mdW cI h b w past er bf tk sv hs) sz) := by
  refine wr_void (by decide) (Nat.le_of_ble_eq_true rfl) ?_
  intro p e s m args below meth c Q ls A F hP hC hD hA hret hl
  have hx := F.1
  have hb := F.2.1
  have hml := F.2.2.1
  have hown := F.2.2.2.1
  have hts := F.2.2.2.2
  replace hl : lv_has ls 3 [(0, .ref (h)), (1, .int (nI (v_)))] := hl
  have hS : va_S A s.heap s.heap [] := va_S.rf
  have hn4 := hW.n.2
  have hl10 := (hW.l v_ hv).2
  have hsn := hW.e.2
  refine lv_aload_n hx hb dX3_mixLink_0 rfl (lv_at hl 0 rfl) ?_
  refine lv_aload_n hx hb dX3_mixLink_1 rfl (lv_at hl 0 rfl) ?_
  refine gt3 hx hb hts hown hC.1 hP 0 rfl 0 (by decide) qw456 rfl dX3_mixLink_2 ?_
  refine lv_iconst (v := (nI (5))) hx hb dX3_mixLink_5 (by decide) ?_
  refine lv_iload_n hx hb dX3_mixLink_6 rfl (lv_at hl 1 rfl) ?_
  refine n_iadd hx hb dX3_mixLink_7  ?_
  refine n_iald hx hb hC.1 hP 1 0 rfl rfl (by omega) (by decide) dX3_mixLink_8 ?_
  refine w_cv (y := (nI (ac w v_))) (hW.a v_ hv).1 ?_
  refine goWv (pre := []) (wc := mdW cI h b w past er bf tk sv hs) (suf := []) (kV (As := [.int (nI (ac w v_))]) (rest := []) F (c_X3_mix l D cI cO _ h b w past er bf tk sv hs c0 hW (nI (ac w v_))) ywX3_mix qw663 qw665 qs47 ⟨rfl, rfl⟩ ⟨Nat.le_of_ble_eq_true rfl, Nat.le_of_ble_eq_true rfl⟩ (preV (preW hP hC hD) hC hP (ci := 3) (q0 := 0) rfl rfl rfl) rfl hl.1 rfl (Nat.le_of_ble_eq_true rfl) dX3_mixLink_9 ⟨Nat.zero_le _, Nat.zero_le _⟩) (by simpa only [List.append_assoc, List.nil_append, List.append_nil] using hP) (by simpa only [List.append_assoc, List.nil_append, List.append_nil] using hD) hS hA (fun hs_1 H locs h_9 hP hD hS => ?_)
  replace hP : va_P D vwCl (mdW cI h b w past er bf tk sv hs_1) H := by simpa only [List.append_assoc, List.nil_append, List.append_nil] using hP
  replace hD : va_D A (mdW cI h b w past er bf tk sv hs_1) := by simpa only [List.append_assoc, List.nil_append, List.append_nil] using hD
  refine lv_aload_n hx hb dX3_mixLink_12 rfl (lv_at hl 0 rfl) ?_
  refine lv_aload_n hx hb dX3_mixLink_13 rfl (lv_at hl 0 rfl) ?_
  refine gt3 hx hb hts hown hC.1 hP 0 rfl 0 (by decide) qw456 rfl dX3_mixLink_14 ?_
  refine lv_bipush (v := (nI (21))) hx hb dX3_mixLink_17 (by decide) ?_
  refine lv_iload_n hx hb dX3_mixLink_19 rfl (lv_at hl 1 rfl) ?_
  refine n_iadd hx hb dX3_mixLink_20  ?_
  refine n_iald hx hb hC.1 hP 1 0 rfl rfl (by omega) (by decide) dX3_mixLink_21 ?_
  refine w_cv (y := (nI (le w v_))) (hW.l v_ hv).1 ?_
  refine goWv (pre := []) (wc := mdW cI h b w past er bf tk sv hs_1) (suf := []) (kV (As := [.int (nI (le w v_))]) (rest := []) F (c_X3_mix l D cI cO _ h b w past er bf tk sv hs_1 c0 hW (nI (le w v_))) ywX3_mix qw663 qw665 qs47 ⟨rfl, rfl⟩ ⟨Nat.le_of_ble_eq_true rfl, Nat.le_of_ble_eq_true rfl⟩ (preV (preW hP hC hD) hC hP (ci := 3) (q0 := 0) rfl rfl rfl) rfl hl.1 rfl (Nat.le_of_ble_eq_true rfl) dX3_mixLink_22 ⟨Nat.zero_le _, Nat.zero_le _⟩) (by simpa only [List.append_assoc, List.nil_append, List.append_nil] using hP) (by simpa only [List.append_assoc, List.nil_append, List.append_nil] using hD) hS hA (fun hs_2 H locs h_22 hP hD hS => ?_)
  replace hP : va_P D vwCl (mdW cI h b w past er bf tk sv hs_2) H := by simpa only [List.append_assoc, List.nil_append, List.append_nil] using hP
  replace hD : va_D A (mdW cI h b w past er bf tk sv hs_2) := by simpa only [List.append_assoc, List.nil_append, List.append_nil] using hD
  refine lv_iconst (v := (nI (0))) hx hb dX3_mixLink_25 (by decide) ?_
  refine lv_istore_n (lv' := [(2, .int (nI (0))), (0, .ref (h)), (1, .int (nI (v_)))]) hx hb dX3_mixLink_26 rfl hl (by decide) rfl (fun ls hl => ?_)
  have lp_27 : ∀ (fu_27 : Nat) (i_ : Nat) (g2 : Int64) (H : Heap) (locs : List Loc) (ls : Array Slot), le w v_ - i_ < fu_27 → (i_ ≤ le w v_) → (g2 = mxN (fun j => nI (msg w v_ j / 128)) (mx (mx hs (nI (ac w v_))) (nI (le w v_))) i_) → va_P D vwCl (mdW cI h b w past er bf tk sv g2) H → va_D A (mdW cI h b w past er bf tk sv g2) → va_S A s.heap H locs → lv_has ls 3 [(2, .int (nI (i_))), (0, .ref (h)), (1, .int (nI (v_)))] → W p l e ({ frames := 1, cells := 0, slots := 0, locals := 21 } : Room) s m args below meth c H locs 0 0 Q (F0 m 27 ls []) := by
    intro fu_27
    induction fu_27 with
    | zero => intro i_ g2 H locs ls hmu_27; exact absurd hmu_27 (Nat.not_lt_zero _)
    | succ fu_27 ih_27 =>
      intro i_ g2 H locs ls hmu_27 hi_ hg2 hP hD hS hl
      refine lv_iload_n hx hb dX3_mixLink_27 rfl (lv_at hl 0 rfl) ?_
      refine lv_aload_n hx hb dX3_mixLink_28 rfl (lv_at hl 1 rfl) ?_
      refine gt3 hx hb hts hown hC.1 hP 0 rfl 0 (by decide) qw456 rfl dX3_mixLink_29 ?_
      refine lv_bipush (v := (nI (21))) hx hb dX3_mixLink_32 (by decide) ?_
      refine lv_iload_n hx hb dX3_mixLink_34 rfl (lv_at hl 2 rfl) ?_
      refine n_iadd hx hb dX3_mixLink_35  ?_
      refine n_iald hx hb hC.1 hP 1 0 rfl rfl (by omega) (by decide) dX3_mixLink_36 ?_
      refine w_cv (y := (nI (le w v_))) (hW.l v_ hv).1 ?_
      refine n_icmp_ge (tgt := 68) hx hb dX3_mixLink_37 (by decide) (by omega) (by omega) (fun c_37 => ?_) (fun c_37 => ?_)
      · exact hret (g2) _ ls _ _ (by rw [hg2, show i_ = le w v_ by omega]; rfl) hP hD hS dX3_mixLink_68
      · obtain ⟨b_, k_, hb0, hk_, hx_, hms⟩ := msg_ok hW hc hv (i := i_) (by omega)
        refine lv_aload_n hx hb dX3_mixLink_40 rfl (lv_at hl 1 rfl) ?_
        refine lv_aload_n hx hb dX3_mixLink_41 rfl (lv_at hl 1 rfl) ?_
        refine gt3 hx hb hts hown hC.1 hP 0 rfl 0 (by decide) qw456 rfl dX3_mixLink_42 ?_
        refine lv_bipush (v := (nI (37))) hx hb dX3_mixLink_45 (by decide) ?_
        refine lv_bipush (v := (nI (10))) hx hb dX3_mixLink_47 (by decide) ?_
        refine lv_iload_n hx hb dX3_mixLink_49 rfl (lv_at hl 2 rfl) ?_
        refine n_imul hx hb dX3_mixLink_50  ?_
        refine n_iadd hx hb dX3_mixLink_51  ?_
        refine lv_iload_n hx hb dX3_mixLink_52 rfl (lv_at hl 0 rfl) ?_
        refine n_iadd hx hb dX3_mixLink_53  ?_
        refine n_iald hx hb hC.1 hP 1 0 rfl rfl (by omega) (by decide) dX3_mixLink_54 ?_
        refine w_cv (y := (nI (msg w v_ i_))) (by rw [hx_, hms]) ?_
        refine lv_sipush (v := (nI (128))) hx hb dX3_mixLink_55 (by decide) ?_
        refine n_idiv hx hb dX3_mixLink_58 (by omega) (by omega) (by omega) ?_
        refine goWv (pre := []) (wc := mdW cI h b w past er bf tk sv g2) (suf := []) (kV (As := [.int (nI ((msg w v_ i_) / 128))]) (rest := []) F (c_X3_mix l D cI cO _ h b w past er bf tk sv g2 c0 hW (nI ((msg w v_ i_) / 128))) ywX3_mix qw663 qw665 qs47 ⟨rfl, rfl⟩ ⟨Nat.le_of_ble_eq_true rfl, Nat.le_of_ble_eq_true rfl⟩ (preV (preW hP hC hD) hC hP (ci := 3) (q0 := 0) rfl rfl rfl) rfl hl.1 rfl (Nat.le_of_ble_eq_true rfl) dX3_mixLink_59 ⟨Nat.zero_le _, Nat.zero_le _⟩) (by simpa only [List.append_assoc, List.nil_append, List.append_nil] using hP) (by simpa only [List.append_assoc, List.nil_append, List.append_nil] using hD) hS hA (fun hs_3 H locs h_59 hP hD hS => ?_)
        replace hP : va_P D vwCl (mdW cI h b w past er bf tk sv hs_3) H := by simpa only [List.append_assoc, List.nil_append, List.append_nil] using hP
        replace hD : va_D A (mdW cI h b w past er bf tk sv hs_3) := by simpa only [List.append_assoc, List.nil_append, List.append_nil] using hD
        refine n_iinc (a := i_) (b := 1) (lv' := [(2, .int (nI (i_ + 1))), (0, .ref (h)), (1, .int (nI (v_)))]) hx hb dX3_mixLink_62 hl (k := 0) rfl rfl (by decide) rfl (fun ls hl => ?_)
        refine lv_goto (tgt := 27) hx hb dX3_mixLink_65 (by decide) ?_
        exact ih_27 (i_ + 1) (hs_3) _ _ ls (by omega) (by omega) (by rw [h_59, hg2]; rfl) hP hD hS (lv_sub hl [0, 1, 2] rfl)
  exact lp_27 _ (0) (hs_2) _ _ ls (Nat.lt_succ_self _) (Nat.zero_le _) (by rw [h_22, h_9]; rfl) hP hD hS (lv_sub hl [0, 1, 2] rfl)

set_option maxHeartbeats 4000000 in
set_option maxRecDepth 100000 in
theorem c_X3_mixDestination (l : Launch) (D : va_G) (cI cO : ClassId) (sz : Nat) (h : Nat) (b : Nat → Nat) (w past er bf tk : Nat → Int32) (sv : Int32) (hs : Int64) (c0 : Nat) (hW : WF c0 w)  (d_ : Nat) (hc : c0 < 1000) (hd6 : d_ < 6) : Met l yX3_mixDestination (Cond.code yX3_mixDestination cX3_mixDestination 3 none :: WL) ({ frames := 4, cells := 0, slots := 0, locals := 97 } : Room) (va_Pc [.ref (h), .int (nI (d_))] (PW D cI cO (mdW cI h b w past er bf tk sv hs) sz)) (va_Qv (fun (u : Int64) => u = mxD w d_ hs) (QB D (mdW cI h b w past er bf tk sv hs) sz (fun (u : Int64) => mdW cI h b w past er bf tk sv u)) (va_A (mdW cI h b w past er bf tk sv hs) sz)) 0 0 (va_A (mdW cI h b w past er bf tk sv hs) sz) := by
  refine wr_void (by decide) (Nat.le_of_ble_eq_true rfl) ?_
  intro p e s m args below meth c Q ls A F hP hC hD hA hret hl
  have hx := F.1
  have hb := F.2.1
  have hml := F.2.2.1
  have hown := F.2.2.2.1
  have hts := F.2.2.2.2
  replace hl : lv_has ls 3 [(0, .ref (h)), (1, .int (nI (d_)))] := hl
  have hS : va_S A s.heap s.heap [] := va_S.rf
  have hn4 := hW.n.2
  refine lv_iconst (v := (nI (0))) hx hb dX3_mixDestination_0 (by decide) ?_
  refine lv_istore_n (lv' := [(2, .int (nI (0))), (0, .ref (h)), (1, .int (nI (d_)))]) hx hb dX3_mixDestination_1 rfl hl (by decide) rfl (fun ls hl => ?_)
  have lp_2 : ∀ (fu_2 : Nat) (i_ : Nat) (g2 : Int64) (H : Heap) (locs : List Loc) (ls : Array Slot), nn w - i_ < fu_2 → (i_ ≤ nn w) → (g2 = mxR w d_ hs i_) → va_P D vwCl (mdW cI h b w past er bf tk sv g2) H → va_D A (mdW cI h b w past er bf tk sv g2) → va_S A s.heap H locs → lv_has ls 3 [(2, .int (nI (i_))), (0, .ref (h)), (1, .int (nI (d_)))] → W p l e ({ frames := 4, cells := 0, slots := 0, locals := 97 } : Room) s m args below meth c H locs 0 0 Q (F0 m 2 ls []) := by
    intro fu_2
    induction fu_2 with
    | zero => intro i_ g2 H locs ls hmu_2; exact absurd hmu_2 (Nat.not_lt_zero _)
    | succ fu_2 ih_2 =>
      intro i_ g2 H locs ls hmu_2 hi_ hg2 hP hD hS hl
      refine lv_iload_n hx hb dX3_mixDestination_2 rfl (lv_at hl 0 rfl) ?_
      refine lv_aload_n hx hb dX3_mixDestination_3 rfl (lv_at hl 1 rfl) ?_
      refine gt3 hx hb hts hown hC.1 hP 0 rfl 0 (by decide) qw456 rfl dX3_mixDestination_4 ?_
      refine lv_iconst (v := (nI (0))) hx hb dX3_mixDestination_7 (by decide) ?_
      refine n_iald hx hb hC.1 hP 1 0 rfl rfl (by omega) (by decide) dX3_mixDestination_8 ?_
      refine w_cv (y := (nI (nn w))) hW.n.1 ?_
      refine n_icmp_ge (tgt := 54) hx hb dX3_mixDestination_9 (by decide) (by omega) (by omega) (fun c_9 => ?_) (fun c_9 => ?_)
      · refine lv_bipush (v := (nI (16))) hx hb dX3_mixDestination_54 (by decide) ?_
        refine lv_iload_n hx hb dX3_mixDestination_56 rfl (lv_at hl 2 rfl) ?_
        refine n_imul hx hb dX3_mixDestination_57  ?_
        refine lv_istore_n (lv' := [(2, .int (nI (16 * d_))), (0, .ref (h)), (1, .int (nI (d_)))]) hx hb dX3_mixDestination_58 rfl hl (by decide) rfl (fun ls hl => ?_)
        have lp_59 : ∀ (fu_59 : Nat) (s_ : Nat) (g3 : Int64) (H : Heap) (locs : List Loc) (ls : Array Slot), 16 - s_ < fu_59 → (s_ ≤ 16) → (g3 = mxT w d_ (mxR w d_ hs (nn w)) s_) → va_P D vwCl (mdW cI h b w past er bf tk sv g3) H → va_D A (mdW cI h b w past er bf tk sv g3) → va_S A s.heap H locs → lv_has ls 3 [(2, .int (nI (16 * d_ + s_))), (0, .ref (h)), (1, .int (nI (d_)))] → W p l e ({ frames := 4, cells := 0, slots := 0, locals := 97 } : Room) s m args below meth c H locs 0 0 Q (F0 m 59 ls []) := by
          intro fu_59
          induction fu_59 with
          | zero => intro s_ g3 H locs ls hmu_59; exact absurd hmu_59 (Nat.not_lt_zero _)
          | succ fu_59 ih_59 =>
            intro s_ g3 H locs ls hmu_59 hs_ hg3 hP hD hS hl
            refine lv_iload_n hx hb dX3_mixDestination_59 rfl (lv_at hl 0 rfl) ?_
            refine lv_bipush (v := (nI (16))) hx hb dX3_mixDestination_60 (by decide) ?_
            refine lv_iload_n hx hb dX3_mixDestination_62 rfl (lv_at hl 2 rfl) ?_
            refine n_imul hx hb dX3_mixDestination_63  ?_
            refine lv_bipush (v := (nI (16))) hx hb dX3_mixDestination_64 (by decide) ?_
            refine n_iadd hx hb dX3_mixDestination_66  ?_
            refine n_icmp_ge (tgt := 107) hx hb dX3_mixDestination_67 (by decide) (by omega) (by omega) (fun c_67 => ?_) (fun c_67 => ?_)
            · exact hret (g3) _ ls _ _ (by rw [hg3, show s_ = 16 by omega]; rfl) hP hD hS dX3_mixDestination_107
            · have hu9 := (hW.u (d_ * 16 + s_) (by omega)).2.1
              refine lv_aload_n hx hb dX3_mixDestination_70 rfl (lv_at hl 1 rfl) ?_
              refine lv_aload_n hx hb dX3_mixDestination_71 rfl (lv_at hl 1 rfl) ?_
              refine lv_iload_n hx hb dX3_mixDestination_72 rfl (lv_at hl 0 rfl) ?_
              refine goR (kV (As := [.int (nI (16 * d_ + s_))]) (rest := [.ref (h)]) F (c_X3_linkOf l D cI cO h b w past er bf tk sv g3 c0 hW (16 * d_ + s_) (by omega)) ywX3_linkOf qw513 qw515 qs38 ⟨rfl, rfl⟩ ⟨Nat.le_of_ble_eq_true rfl, Nat.le_of_ble_eq_true rfl⟩ (preV (preR hP hC) hC hP (ci := 3) (q0 := 0) rfl rfl rfl) rfl hl.1 rfl (Nat.le_of_ble_eq_true rfl) dX3_mixDestination_73 ⟨Nat.zero_le _, Nat.zero_le _⟩) (fun r_73 h_73 => ?_)
              subst h_73
              refine w_cv (y := (lkm w (rts w d_) s_)) (by rw [show 16 * d_ + s_ = d_ * 16 + s_ by omega]; exact lk_lkm (by omega)) ?_
              refine goWv (pre := []) (wc := mdW cI h b w past er bf tk sv g3) (suf := []) (kV (As := [.int (lkm w (rts w d_) s_)]) (rest := []) F (c_X3_mix l D cI cO _ h b w past er bf tk sv g3 c0 hW (lkm w (rts w d_) s_)) ywX3_mix qw663 qw665 qs47 ⟨rfl, rfl⟩ ⟨Nat.le_of_ble_eq_true rfl, Nat.le_of_ble_eq_true rfl⟩ (preV (preW hP hC hD) hC hP (ci := 3) (q0 := 0) rfl rfl rfl) rfl hl.1 rfl (Nat.le_of_ble_eq_true rfl) dX3_mixDestination_76 ⟨Nat.zero_le _, Nat.zero_le _⟩) (by simpa only [List.append_assoc, List.nil_append, List.append_nil] using hP) (by simpa only [List.append_assoc, List.nil_append, List.append_nil] using hD) hS hA (fun hs_1 H locs h_76 hP hD hS => ?_)
              replace hP : va_P D vwCl (mdW cI h b w past er bf tk sv hs_1) H := by simpa only [List.append_assoc, List.nil_append, List.append_nil] using hP
              replace hD : va_D A (mdW cI h b w past er bf tk sv hs_1) := by simpa only [List.append_assoc, List.nil_append, List.append_nil] using hD
              refine lv_aload_n hx hb dX3_mixDestination_79 rfl (lv_at hl 1 rfl) ?_
              refine lv_aload_n hx hb dX3_mixDestination_80 rfl (lv_at hl 1 rfl) ?_
              refine gt3 hx hb hts hown hC.1 hP 0 rfl 0 (by decide) qw456 rfl dX3_mixDestination_81 ?_
              refine lv_sipush (v := (nI (245))) hx hb dX3_mixDestination_84 (by decide) ?_
              refine lv_iload_n hx hb dX3_mixDestination_87 rfl (lv_at hl 0 rfl) ?_
              refine n_iadd hx hb dX3_mixDestination_88  ?_
              refine n_iald hx hb hC.1 hP 1 0 rfl rfl (by omega) (by decide) dX3_mixDestination_89 ?_
              refine w_cv (y := (nI (un w (d_ * 16 + s_)))) ((congrArg w (by omega)).trans (hW.u (d_ * 16 + s_) (by omega)).1) ?_
              refine n_if_le (tgt := 97) hx hb dX3_mixDestination_90 (by decide) (by omega) (fun c_90 => ?_) (fun c_90 => ?_)
              · refine lv_iconst (v := (nI (0))) hx hb dX3_mixDestination_97 (by decide) ?_
                refine goWv (pre := []) (wc := mdW cI h b w past er bf tk sv hs_1) (suf := []) (kV (As := [.int (nI (0))]) (rest := []) F (c_X3_mix l D cI cO _ h b w past er bf tk sv hs_1 c0 hW (nI (0))) ywX3_mix qw663 qw665 qs47 ⟨rfl, rfl⟩ ⟨Nat.le_of_ble_eq_true rfl, Nat.le_of_ble_eq_true rfl⟩ (preV (preW hP hC hD) hC hP (ci := 3) (q0 := 0) rfl rfl rfl) rfl hl.1 rfl (Nat.le_of_ble_eq_true rfl) dX3_mixDestination_98 ⟨Nat.zero_le _, Nat.zero_le _⟩) (by simpa only [List.append_assoc, List.nil_append, List.append_nil] using hP) (by simpa only [List.append_assoc, List.nil_append, List.append_nil] using hD) hS hA (fun hs_2 H locs h_98 hP hD hS => ?_)
                replace hP : va_P D vwCl (mdW cI h b w past er bf tk sv hs_2) H := by simpa only [List.append_assoc, List.nil_append, List.append_nil] using hP
                replace hD : va_D A (mdW cI h b w past er bf tk sv hs_2) := by simpa only [List.append_assoc, List.nil_append, List.append_nil] using hD
                refine n_iinc (a := 16 * d_ + s_) (b := 1) (lv' := [(2, .int (nI (16 * d_ + s_ + 1))), (0, .ref (h)), (1, .int (nI (d_)))]) hx hb dX3_mixDestination_101 hl (k := 0) rfl rfl (by decide) rfl (fun ls hl => ?_)
                refine lv_goto (tgt := 59) hx hb dX3_mixDestination_104 (by decide) ?_
                exact ih_59 (s_ + 1) (hs_2) _ _ ls (by omega) (by omega) (by rw [h_98, h_76, hg3]; show _ = mx (mx (mxT w d_ (mxR w d_ hs (nn w)) s_) (lkm w (rts w d_) s_)) (nI (if un w (d_ * 16 + s_) = 0 then 0 else 1)); rw [if_pos (by omega)]) hP hD hS (lv_sub hl [0, 1, 2] rfl)
              · refine lv_iconst (v := (nI (1))) hx hb dX3_mixDestination_93 (by decide) ?_
                refine lv_goto (tgt := 98) hx hb dX3_mixDestination_94 (by decide) ?_
                refine goWv (pre := []) (wc := mdW cI h b w past er bf tk sv hs_1) (suf := []) (kV (As := [.int (nI (1))]) (rest := []) F (c_X3_mix l D cI cO _ h b w past er bf tk sv hs_1 c0 hW (nI (1))) ywX3_mix qw663 qw665 qs47 ⟨rfl, rfl⟩ ⟨Nat.le_of_ble_eq_true rfl, Nat.le_of_ble_eq_true rfl⟩ (preV (preW hP hC hD) hC hP (ci := 3) (q0 := 0) rfl rfl rfl) rfl hl.1 rfl (Nat.le_of_ble_eq_true rfl) dX3_mixDestination_98 ⟨Nat.zero_le _, Nat.zero_le _⟩) (by simpa only [List.append_assoc, List.nil_append, List.append_nil] using hP) (by simpa only [List.append_assoc, List.nil_append, List.append_nil] using hD) hS hA (fun hs_3 H locs h_98 hP hD hS => ?_)
                replace hP : va_P D vwCl (mdW cI h b w past er bf tk sv hs_3) H := by simpa only [List.append_assoc, List.nil_append, List.append_nil] using hP
                replace hD : va_D A (mdW cI h b w past er bf tk sv hs_3) := by simpa only [List.append_assoc, List.nil_append, List.append_nil] using hD
                refine n_iinc (a := 16 * d_ + s_) (b := 1) (lv' := [(2, .int (nI (16 * d_ + s_ + 1))), (0, .ref (h)), (1, .int (nI (d_)))]) hx hb dX3_mixDestination_101 hl (k := 0) rfl rfl (by decide) rfl (fun ls hl => ?_)
                refine lv_goto (tgt := 59) hx hb dX3_mixDestination_104 (by decide) ?_
                exact ih_59 (s_ + 1) (hs_3) _ _ ls (by omega) (by omega) (by rw [h_98, h_76, hg3]; show _ = mx (mx (mxT w d_ (mxR w d_ hs (nn w)) s_) (lkm w (rts w d_) s_)) (nI (if un w (d_ * 16 + s_) = 0 then 0 else 1)); rw [if_neg (by omega)]) hP hD hS (lv_sub hl [0, 1, 2] rfl)
        exact lp_59 _ (0) (g2) _ _ ls (Nat.lt_succ_self _) (Nat.zero_le _) (by rw [hg2, show i_ = nn w by omega]; rfl) hP hD hS (lv_sub hl [0, 1, 2] rfl)
      · refine lv_aload_n hx hb dX3_mixDestination_12 rfl (lv_at hl 1 rfl) ?_
        refine lv_aload_n hx hb dX3_mixDestination_13 rfl (lv_at hl 1 rfl) ?_
        refine gt3 hx hb hts hown hC.1 hP 0 rfl 0 (by decide) qw456 rfl dX3_mixDestination_14 ?_
        refine lv_sipush (v := (nI (197))) hx hb dX3_mixDestination_17 (by decide) ?_
        refine lv_iconst (v := (nI (4))) hx hb dX3_mixDestination_20 (by decide) ?_
        refine lv_iload_n hx hb dX3_mixDestination_21 rfl (lv_at hl 2 rfl) ?_
        refine n_imul hx hb dX3_mixDestination_22  ?_
        refine n_iadd hx hb dX3_mixDestination_23  ?_
        refine lv_iload_n hx hb dX3_mixDestination_24 rfl (lv_at hl 0 rfl) ?_
        refine n_iadd hx hb dX3_mixDestination_25  ?_
        refine n_iald hx hb hC.1 hP 1 0 rfl rfl (by omega) (by decide) dX3_mixDestination_26 ?_
        refine w_cv (y := (w (197 + 4 * d_ + i_))) rfl ?_
        refine goWv (pre := []) (wc := mdW cI h b w past er bf tk sv g2) (suf := []) (kV (As := [.int (w (197 + 4 * d_ + i_))]) (rest := []) F (c_X3_mix l D cI cO _ h b w past er bf tk sv g2 c0 hW (w (197 + 4 * d_ + i_))) ywX3_mix qw663 qw665 qs47 ⟨rfl, rfl⟩ ⟨Nat.le_of_ble_eq_true rfl, Nat.le_of_ble_eq_true rfl⟩ (preV (preW hP hC hD) hC hP (ci := 3) (q0 := 0) rfl rfl rfl) rfl hl.1 rfl (Nat.le_of_ble_eq_true rfl) dX3_mixDestination_27 ⟨Nat.zero_le _, Nat.zero_le _⟩) (by simpa only [List.append_assoc, List.nil_append, List.append_nil] using hP) (by simpa only [List.append_assoc, List.nil_append, List.append_nil] using hD) hS hA (fun hs_4 H locs h_27 hP hD hS => ?_)
        replace hP : va_P D vwCl (mdW cI h b w past er bf tk sv hs_4) H := by simpa only [List.append_assoc, List.nil_append, List.append_nil] using hP
        replace hD : va_D A (mdW cI h b w past er bf tk sv hs_4) := by simpa only [List.append_assoc, List.nil_append, List.append_nil] using hD
        refine lv_aload_n hx hb dX3_mixDestination_30 rfl (lv_at hl 1 rfl) ?_
        refine lv_aload_n hx hb dX3_mixDestination_31 rfl (lv_at hl 1 rfl) ?_
        refine gt3 hx hb hts hown hC.1 hP 0 rfl 0 (by decide) qw456 rfl dX3_mixDestination_32 ?_
        refine lv_sipush (v := (nI (221))) hx hb dX3_mixDestination_35 (by decide) ?_
        refine lv_iconst (v := (nI (4))) hx hb dX3_mixDestination_38 (by decide) ?_
        refine lv_iload_n hx hb dX3_mixDestination_39 rfl (lv_at hl 2 rfl) ?_
        refine n_imul hx hb dX3_mixDestination_40  ?_
        refine n_iadd hx hb dX3_mixDestination_41  ?_
        refine lv_iload_n hx hb dX3_mixDestination_42 rfl (lv_at hl 0 rfl) ?_
        refine n_iadd hx hb dX3_mixDestination_43  ?_
        refine n_iald hx hb hC.1 hP 1 0 rfl rfl (by omega) (by decide) dX3_mixDestination_44 ?_
        refine w_cv (y := (w (221 + 4 * d_ + i_))) rfl ?_
        refine goWv (pre := []) (wc := mdW cI h b w past er bf tk sv hs_4) (suf := []) (kV (As := [.int (w (221 + 4 * d_ + i_))]) (rest := []) F (c_X3_mix l D cI cO _ h b w past er bf tk sv hs_4 c0 hW (w (221 + 4 * d_ + i_))) ywX3_mix qw663 qw665 qs47 ⟨rfl, rfl⟩ ⟨Nat.le_of_ble_eq_true rfl, Nat.le_of_ble_eq_true rfl⟩ (preV (preW hP hC hD) hC hP (ci := 3) (q0 := 0) rfl rfl rfl) rfl hl.1 rfl (Nat.le_of_ble_eq_true rfl) dX3_mixDestination_45 ⟨Nat.zero_le _, Nat.zero_le _⟩) (by simpa only [List.append_assoc, List.nil_append, List.append_nil] using hP) (by simpa only [List.append_assoc, List.nil_append, List.append_nil] using hD) hS hA (fun hs_5 H locs h_45 hP hD hS => ?_)
        replace hP : va_P D vwCl (mdW cI h b w past er bf tk sv hs_5) H := by simpa only [List.append_assoc, List.nil_append, List.append_nil] using hP
        replace hD : va_D A (mdW cI h b w past er bf tk sv hs_5) := by simpa only [List.append_assoc, List.nil_append, List.append_nil] using hD
        refine n_iinc (a := i_) (b := 1) (lv' := [(2, .int (nI (i_ + 1))), (0, .ref (h)), (1, .int (nI (d_)))]) hx hb dX3_mixDestination_48 hl (k := 0) rfl rfl (by decide) rfl (fun ls hl => ?_)
        refine lv_goto (tgt := 2) hx hb dX3_mixDestination_51 (by decide) ?_
        exact ih_2 (i_ + 1) (hs_5) _ _ ls (by omega) (by omega) (by rw [h_45, h_27, hg2]; rfl) hP hD hS (lv_sub hl [0, 1, 2] rfl)
  exact lp_2 _ (0) (hs) _ _ ls (Nat.lt_succ_self _) (Nat.zero_le _) (rfl) hP hD hS (lv_sub hl [0, 1, 2] rfl)
