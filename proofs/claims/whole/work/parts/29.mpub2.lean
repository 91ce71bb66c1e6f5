theorem WF_fl {c : Nat} {w : Nat → Int32} (h : WF c w) {i l : Nat} (hi : i < 4) (hl : l < mn w i) : WF c (flR w (4 * i + l)) := by
  have hm := (h.m i hi).2
  exact (RC_len (p0 := 4 * i + l) (q0 := 0) (by omega) (Nat.zero_le _) (RC_flag (v0 := 0) hi hl (by omega) (RC_S0 h))).wf
theorem WF_dlv {c : Nat} {w : Nat → Int32} (h : WF c w) (hc : c < 1000) {a k : Nat} (ha : a < sn w) (hk : k < 96) : WF c (dlv w (128 * a + k)) := by
  have hR := RC_inc3 (RC_S0 h)
  have hs : sn (upd w 465 (w 465 + nI 1)) = sn w := by unfold sn; rw [pk_un (by omega)]
  by_cases e : nI (128 * a + k) < w (366 + k)
  · rw [dlv_1 (k := k) (by omega) hk e]; exact (RC_inc4 hR).wf
  · rw [dlv_2 (k := k) (by omega) e]; exact (RC_grt (by omega) hk hc hR).wf
theorem dlvN_ok {c : Nat} {w : Nat → Int32} {f : Nat → Nat} (h : WF c w) (hc : c < 1000) : ∀ n, (∀ i, i < n → ∃ a k, a < sn w ∧ k < 96 ∧ f i = 128 * a + k) → WF c (dlvN w f n)
  | 0, _ => h
  | n + 1, hf => by
    have ih := dlvN_ok h hc n (fun i hi => hf i (by omega))
    obtain ⟨a, k, ha, hk, e⟩ := hf n (by omega)
    have hs : sn (dlvN w f n) = sn w := by
      unfold sn
      rw [dlvN_ne (by omega) n (fun i hi => by obtain ⟨a, k, -, hk, e⟩ := hf i (by omega); omega)]
    have hd : dlvN w f (n + 1) = dlv (dlvN w f n) (128 * a + k) := by rw [← e]; rfl
    rw [hd]
    exact WF_dlv ih hc (by omega) hk
theorem msg_all {c : Nat} {w : Nat → Int32} (h : WF c w) (hc : c < 1000) {v : Nat} (hv : v < 16) {n : Nat} (hn : n ≤ le w v) : ∀ i, i < n → ∃ a k, a < sn w ∧ k < 96 ∧ msg w v i = 128 * a + k := fun i hi => by
  obtain ⟨a, k, ha, hk, -, e⟩ := msg_ok h hc hv (i := i) (by omega)
  exact ⟨a, k, ha, hk, e⟩
theorem RC_ar {c : Nat} {S : Nat → Nat → Int32} {w : Nat → Int32} {d i q : Nat} (hd : d < 6) (hi : i < 4) (hq : q ≤ 2) (hs : w (197 + 4 * d + i) = -1) (hR : RC c S w) : RC c (va_up (va_up S 14 (upd (S 14) (d * 4 + i) (nI 0))) 15 (upd (S 15) (d * 4 + i) (nI q))) (upd (upd w (197 + 4 * d + i) (nI 0)) (221 + 4 * d + i) (nI q)) := by
  have h1 := RC_rpr (x := nI q) hd hi (fun e => absurd hs e) hR
  have h2 := RC_rst (x := nI 0) hd hi (Or.inr (Or.inl rfl)) (fun _ => by unfold pq; rw [upd_eq, nv_nI (by omega)]; exact ⟨rfl, hq⟩) h1
  rw [upd_comm (by omega)] at h2
  have e : va_up (va_up S 15 (upd (S 15) (d * 4 + i) (nI q))) 14 (upd (va_up S 15 (upd (S 15) (d * 4 + i) (nI q)) 14) (d * 4 + i) (nI 0)) = va_up (va_up S 14 (upd (S 14) (d * 4 + i) (nI 0))) 15 (upd (S 15) (d * 4 + i) (nI q)) := by
    funext k
    unfold va_up
    (repeat' split) <;> first | rfl | omega
  rw [e] at h2
  exact h2
section SN
variable {c : Nat} {w : Nat → Int32} {k q : Nat}
theorem sndR_1 (hk : k < 96) (h1 : ¬ un w k = 0) (h2 : he w = 24) : sndR w k q = upd (upd w 469 (w 469 + nI 1)) 464 (nI (sn w + 1)) := by
  have e1 : un (upd w 464 (nI (sn w + 1))) k = un w k := by unfold un; rw [pk_un (by omega)]
  have e2 : he (upd w 464 (nI (sn w + 1))) = he w := by unfold he; rw [pk_un (by omega)]
  unfold sndR sndX hld
  rw [e1, if_pos h1, e2, if_pos h2, pk_un (f := w) (by omega), upd_comm (by omega)]
theorem sndR_2 (h : WF c w) (hk : k < 96) (h1 : ¬ un w k = 0) (h2 : ¬ he w = 24) : sndR w k q = upd (upd (upd w (342 + he w) (nI (128 * sn w + k))) 341 (nI (he w + 1))) 464 (nI (sn w + 1)) := by
  have e1 : un (upd w 464 (nI (sn w + 1))) k = un w k := by unfold un; rw [pk_un (by omega)]
  have e2 : he (upd w 464 (nI (sn w + 1))) = he w := by unfold he; rw [pk_un (by omega)]
  have h3 := h.h.2
  unfold sndR sndX hld
  rw [e1, if_pos h1, e2, if_neg h2, upd_comm (a := 464) (by omega), upd_comm (a := 464) (by omega)]
theorem sndR_c (h : WF c w) (hk : k < 96) : lk (upd w 464 (nI (sn w + 1))) k = lk w k := lk_congr (fun j hj => pk_un (by omega)) (fun j _ hj => pk_un (by omega)) h.n.2 hk
theorem sndR_3 (h : WF c w) (hk : k < 96) (h1 : un w k = 0) (h2 : ¬ lk w k = -1 ∧ q < lvl (le w (nv (lk w k)))) : sndR w k q = upd (upd w 468 (w 468 + nI 1)) 464 (nI (sn w + 1)) := by
  have e1 : un (upd w 464 (nI (sn w + 1))) k = un w k := by unfold un; rw [pk_un (by omega)]
  obtain ⟨p, hp, -, -, e3⟩ := lk_some h hk h2.1
  have e4 : nv (lk w k) = p := by rw [e3, nv_nI (by omega)]
  have e2 : le (upd w 464 (nI (sn w + 1))) (nv (lk w k)) = le w (nv (lk w k)) := by rw [e4]; unfold le; rw [pk_un (by omega)]
  unfold sndR sndX
  rw [e1, if_neg (fun e => e h1), sndR_c h hk, e2, if_pos h2, pk_un (f := w) (by omega), upd_comm (by omega)]
theorem sndR_4 (h : WF c w) (hk : k < 96) (h1 : un w k = 0) (h2 : ¬ (¬ lk w k = -1 ∧ q < lvl (le w (nv (lk w k))))) : sndR w k q = upd (dsp w (128 * sn w + k)) 464 (nI (sn w + 1)) := by
  have e1 : un (upd w 464 (nI (sn w + 1))) k = un w k := by unfold un; rw [pk_un (by omega)]
  unfold sndR sndX
  rw [e1, if_neg (fun e => e h1), sndR_c h hk, dsp_comm h _ (by omega) (by omega) (by omega) (by omega)]
  rw [if_neg]
  intro h3
  obtain ⟨p, hp, -, -, e3⟩ := lk_some h hk h3.1
  have e4 : nv (lk w k) = p := by rw [e3, nv_nI (by omega)]
  have e2 : le (upd w 464 (nI (sn w + 1))) (nv (lk w k)) = le w (nv (lk w k)) := by rw [e4]; unfold le; rw [pk_un (by omega)]
  rw [e2] at h3
  exact h2 h3
end SN
theorem tk_all {c : Nat} {W tkb : Nat → Int32} (h : WF c W) (htb : ∀ i, i < he W → un W (bst W i) = 0 → tkb (i - lfN W i) = W (342 + i)) {j : Nat} (hj : j < he W - lfN W (he W)) : ∃ a k, a < sn W ∧ k < 96 ∧ tkb j = nI (128 * a + k) := by
  obtain ⟨i, hi, hu, e⟩ := tk_surj W (he W) j hj
  obtain ⟨a, k, ha, hk, hx⟩ := h.b i hi
  exact ⟨a, k, ha, hk, by rw [← e, htb i hi hu, hx]⟩
set_option maxHeartbeats 4000000 in
set_option maxRecDepth 100000 in
theorem c_X3_addLinkset (l : Launch) (D : va_G) (cI cO : ClassId) (sz : Nat) (h : Nat) (b : Nat → Nat) (w past er bf tk : Nat → Int32) (sv : Int32) (hs : Int64) (c0 : Nat) (hW : WF c0 w)  (n_ : Nat) (hc9 : c0 < 900) (hn_ : n_ ≤ 4) (hsv : sv = nI n_) (x : Int32) : Met l yX3_addLinkset (Cond.code yX3_addLinkset cX3_addLinkset 4 (some .int) :: WL) ({ frames := 1, cells := 0, slots := 0, locals := 22 } : Room) (va_Pc [.ref (h), .int (x)] (PW D cI cO (mdW cI h b w past er bf tk sv hs) sz)) (va_Qi (fun (r : Int32) (u : MV) => r = (oAdd w x).1 ∧ nxM n_ w past er (oAdd w x) u) (QB D (mdW cI h b w past er bf tk sv hs) sz (fun (u : MV) => mdU cI h b u)) (va_A (mdW cI h b w past er bf tk sv hs) sz)) 0 0 (va_A (mdW cI h b w past er bf tk sv hs) sz) := by
  refine wr_int (by decide) (Nat.le_of_ble_eq_true rfl) ?_
  intro p e s m args below meth c Q ls A F hP hC hD hA hret hl
  have hx := F.1
  have hb := F.2.1
  have hml := F.2.2.1
  have hown := F.2.2.2.1
  have hts := F.2.2.2.2
  replace hl : lv_has ls 4 [(0, .ref (h)), (1, .int (x))] := hl
  have hS : va_S A s.heap s.heap [] := va_S.rf
  have hn4 := hW.n.2
  have hc : c0 < 1000 := by omega
  refine lv_iload_n hx hb dX3_addLinkset_0 rfl (lv_at hl 1 rfl) ?_
  refine lv_iconst (v := (nI (1))) hx hb dX3_addLinkset_1 (by decide) ?_
  refine lv_iconst (v := (nI (4))) hx hb dX3_addLinkset_2 (by decide) ?_
  refine goR (kS (As := [.int (x), .int (nI (1)), .int (nI (4))]) (rest := []) F (c_X3_within l D cI cO (x) (nI (1)) (nI (4))) ywX3_within qw490 qw491  ⟨rfl, rfl⟩ ⟨Nat.le_of_ble_eq_true rfl, Nat.le_of_ble_eq_true rfl⟩ (preR (fun k q h => by simp at h) hC) rfl hl.1 rfl (Nat.le_of_ble_eq_true rfl) dX3_addLinkset_3 ⟨Nat.zero_le _, Nat.zero_le _⟩) (fun r_3 h_3 => ?_)
  rcases h_3 with ⟨rfl, h_3⟩ | ⟨rfl, h_3⟩
  · obtain ⟨m0, hm1, hm4, rfl⟩ := in_ab (by decide) (id h_3) (by decide)
    refine n_if_ne (tgt := 16) hx hb dX3_addLinkset_6 (by decide) (by omega) (fun _ => ?_) (fun h => absurd h (by decide))
    refine lv_aload_n hx hb dX3_addLinkset_16 rfl (lv_at hl 0 rfl) ?_
    refine gt3 hx hb hts hown hC.1 hP 0 rfl 0 (by decide) qw456 rfl dX3_addLinkset_17 ?_
    refine lv_iconst (v := (nI (0))) hx hb dX3_addLinkset_20 (by decide) ?_
    refine n_iald hx hb hC.1 hP 1 0 rfl rfl (by omega) (by decide) dX3_addLinkset_21 ?_
    refine w_cv (y := (nI (nn w))) hW.n.1 ?_
    refine lv_iconst (v := (nI (4))) hx hb dX3_addLinkset_22 (by decide) ?_
    refine n_icmp_ne (tgt := 33) hx hb dX3_addLinkset_23 (by decide) (by omega) (by omega) (fun c_23 => ?_) (fun c_23 => ?_)
    · have hop : oAdd w (nI m0) = (nI (nn w), 1, addR w m0) := by unfold oAdd; rw [itc_t h_3, if_neg c_23, nv_nI (by omega)]
      refine lv_aload_n hx hb dX3_addLinkset_33 rfl (lv_at hl 0 rfl) ?_
      refine goWv (pre := []) (wc := mdW cI h b w past er bf tk sv hs) (suf := []) (kV (As := []) (rest := []) F (c_X3_saves l D cI cO _ h b w past er bf tk sv hs c0 hW n_ hn_ hsv) ywX3_saves qw493 qw495 qs34 ⟨rfl, rfl⟩ ⟨Nat.le_of_ble_eq_true rfl, Nat.le_of_ble_eq_true rfl⟩ (preV (preW hP hC hD) hC hP (ci := 3) (q0 := 0) rfl rfl rfl) rfl hl.1 rfl (Nat.le_of_ble_eq_true rfl) dX3_addLinkset_34 ⟨Nat.zero_le _, Nat.zero_le _⟩) (by simpa only [List.append_assoc, List.nil_append, List.append_nil] using hP) (by simpa only [List.append_assoc, List.nil_append, List.append_nil] using hD) hS hA (fun u_1 H locs h_34 hP hD hS => ?_)
      obtain ⟨past_1, sv_1⟩ := u_1
      replace hP : va_P D vwCl (mdW cI h b w past_1 er bf tk sv_1 hs) H := by simpa only [List.append_assoc, List.nil_append, List.append_nil] using hP
      replace hD : va_D A (mdW cI h b w past_1 er bf tk sv_1 hs) := by simpa only [List.append_assoc, List.nil_append, List.append_nil] using hD
      refine lv_aload_n hx hb dX3_addLinkset_37 rfl (lv_at hl 0 rfl) ?_
      refine gt3 hx hb hts hown hC.1 hP 0 rfl 0 (by decide) qw456 rfl dX3_addLinkset_38 ?_
      refine lv_iconst (v := (nI (0))) hx hb dX3_addLinkset_41 (by decide) ?_
      refine n_iald hx hb hC.1 hP 1 0 rfl rfl (by omega) (by decide) dX3_addLinkset_42 ?_
      refine w_cv (y := (nI (nn w))) hW.n.1 ?_
      refine lv_istore_n (lv' := [(2, .int (nI (nn w))), (0, .ref (h)), (1, .int (nI (m0)))]) hx hb dX3_addLinkset_43 rfl hl (by decide) rfl (fun ls hl => ?_)
      refine lv_aload_n hx hb dX3_addLinkset_44 rfl (lv_at hl 1 rfl) ?_
      refine gt3 hx hb hts hown hC.1 hP 0 rfl 0 (by decide) qw456 rfl dX3_addLinkset_45 ?_
      refine lv_iconst (v := (nI (1))) hx hb dX3_addLinkset_48 (by decide) ?_
      refine lv_iload_n hx hb dX3_addLinkset_49 rfl (lv_at hl 0 rfl) ?_
      refine n_iadd hx hb dX3_addLinkset_50  ?_
      refine lv_iload_n hx hb dX3_addLinkset_51 rfl (lv_at hl 2 rfl) ?_
      refine n_iast hx hb hC.1 hP hD hS 1 0 rfl rfl (by omega) (by decide) dX3_addLinkset_52 (fun H locs hP hD hS => ?_)
      obtain ⟨w_1, hw_1⟩ : ∃ z : Nat → Int32, z = upd w (1 + (nn w)) (nI (m0)) := ⟨_, rfl⟩
      replace hP : va_P D vwCl (mdW cI h b w_1 past_1 er bf tk sv_1 hs) H := by rw [hw_1]; exact hP
      replace hD : va_D A (mdW cI h b w_1 past_1 er bf tk sv_1 hs) := by rw [hw_1]; exact hD
      refine lv_iconst (v := (nI (0))) hx hb dX3_addLinkset_53 (by decide) ?_
      refine lv_istore_n (lv' := [(3, .int (nI (0))), (2, .int (nI (nn w))), (0, .ref (h)), (1, .int (nI (m0)))]) hx hb dX3_addLinkset_54 rfl hl (by decide) rfl (fun ls hl => ?_)
      have lp_55 : ∀ (fu_55 : Nat) (t_ : Nat) (wk : Nat → Int32) (H : Heap) (locs : List Loc) (ls : Array Slot), 4 - t_ < fu_55 → (t_ ≤ 4) → (∀ j, wk j = addQ w m0 t_ j) → va_P D vwCl (mdW cI h b wk past_1 er bf tk sv_1 hs) H → va_D A (mdW cI h b wk past_1 er bf tk sv_1 hs) → va_S A s.heap H locs → lv_has ls 4 [(3, .int (nI (t_))), (2, .int (nI (nn w))), (0, .ref (h)), (1, .int (nI (m0)))] → W p l e ({ frames := 1, cells := 0, slots := 0, locals := 22 } : Room) s m args below meth c H locs 0 0 Q (F0 m 55 ls []) := by
        intro fu_55
        induction fu_55 with
        | zero => intro t_ wk H locs ls hmu_55; exact absurd hmu_55 (Nat.not_lt_zero _)
        | succ fu_55 ih_55 =>
          intro t_ wk H locs ls hmu_55 ht hwk hP hD hS hl
          refine lv_iload_n hx hb dX3_addLinkset_55 rfl (lv_at hl 0 rfl) ?_
          refine lv_iconst (v := (nI (4))) hx hb dX3_addLinkset_56 (by decide) ?_
          refine n_icmp_ge (tgt := 102) hx hb dX3_addLinkset_57 (by decide) (by omega) (by omega) (fun c_57 => ?_) (fun c_57 => ?_)
          · refine lv_aload_n hx hb dX3_addLinkset_102 rfl (lv_at hl 2 rfl) ?_
            refine gt3 hx hb hts hown hC.1 hP 0 rfl 0 (by decide) qw456 rfl dX3_addLinkset_103 ?_
            refine lv_iconst (v := (nI (0))) hx hb dX3_addLinkset_106 (by decide) ?_
            refine lv_dup2_11 hx hb dX3_addLinkset_107 rfl rfl ?_
            refine n_iald hx hb hC.1 hP 1 0 rfl rfl (by omega) (by decide) dX3_addLinkset_108 ?_
            refine w_cv (y := (nI (nn w))) (by rw [hwk]; unfold addQ; rw [if_neg (by omega), if_neg (by omega), if_neg (by omega)]; exact hW.n.1) ?_
            refine lv_iconst (v := (nI (1))) hx hb dX3_addLinkset_109 (by decide) ?_
            refine n_iadd hx hb dX3_addLinkset_110  ?_
            refine n_iast hx hb hC.1 hP hD hS 1 0 rfl rfl (by omega) (by decide) dX3_addLinkset_111 (fun H locs hP hD hS => ?_)
            obtain ⟨w_2, hw_2⟩ : ∃ z : Nat → Int32, z = upd wk (0) (nI ((nn w) + 1)) := ⟨_, rfl⟩
            replace hP : va_P D vwCl (mdW cI h b w_2 past_1 er bf tk sv_1 hs) H := by rw [hw_2]; exact hP
            replace hD : va_D A (mdW cI h b w_2 past_1 er bf tk sv_1 hs) := by rw [hw_2]; exact hD
            refine lv_iload_n hx hb dX3_addLinkset_112 rfl (lv_at hl 1 rfl) ?_
            exact hret _ (w_2, past_1, er, bf, tk, sv_1, hs) _ ls _ _ (⟨(congrArg Prod.fst hop).symm, nxM_1 hop (by rw [hw_2]; exact addQ_e (by omega) (fun j => by rw [hwk j, show t_ = 4 by omega])) h_34⟩) hP hD hS dX3_addLinkset_113
          · refine lv_aload_n hx hb dX3_addLinkset_60 rfl (lv_at hl 2 rfl) ?_
            refine gt3 hx hb hts hown hC.1 hP 0 rfl 0 (by decide) qw456 rfl dX3_addLinkset_61 ?_
            refine lv_iconst (v := (nI (5))) hx hb dX3_addLinkset_64 (by decide) ?_
            refine lv_iconst (v := (nI (4))) hx hb dX3_addLinkset_65 (by decide) ?_
            refine lv_iload_n hx hb dX3_addLinkset_66 rfl (lv_at hl 1 rfl) ?_
            refine n_imul hx hb dX3_addLinkset_67  ?_
            refine n_iadd hx hb dX3_addLinkset_68  ?_
            refine lv_iload_n hx hb dX3_addLinkset_69 rfl (lv_at hl 0 rfl) ?_
            refine n_iadd hx hb dX3_addLinkset_70  ?_
            refine lv_iload_n hx hb dX3_addLinkset_71 rfl (lv_at hl 0 rfl) ?_
            refine lv_iload_n hx hb dX3_addLinkset_72 rfl (lv_at hl 3 rfl) ?_
            refine n_icmp_ge (tgt := 80) hx hb dX3_addLinkset_73 (by decide) (by omega) (by omega) (fun c_73 => ?_) (fun c_73 => ?_)
            · refine lv_iconst (v := (nI (0))) hx hb dX3_addLinkset_80 (by decide) ?_
              refine n_iast hx hb hC.1 hP hD hS 1 0 rfl rfl (by omega) (by decide) dX3_addLinkset_81 (fun H locs hP hD hS => ?_)
              obtain ⟨w_3, hw_3⟩ : ∃ z : Nat → Int32, z = upd wk ((5 + (4 * (nn w))) + t_) (nI (0)) := ⟨_, rfl⟩
              replace hP : va_P D vwCl (mdW cI h b w_3 past_1 er bf tk sv_1 hs) H := by rw [hw_3]; exact hP
              replace hD : va_D A (mdW cI h b w_3 past_1 er bf tk sv_1 hs) := by rw [hw_3]; exact hD
              refine lv_aload_n hx hb dX3_addLinkset_82 rfl (lv_at hl 2 rfl) ?_
              refine gt3 hx hb hts hown hC.1 hP 0 rfl 0 (by decide) qw456 rfl dX3_addLinkset_83 ?_
              refine lv_bipush (v := (nI (21))) hx hb dX3_addLinkset_86 (by decide) ?_
              refine lv_iconst (v := (nI (4))) hx hb dX3_addLinkset_88 (by decide) ?_
              refine lv_iload_n hx hb dX3_addLinkset_89 rfl (lv_at hl 1 rfl) ?_
              refine n_imul hx hb dX3_addLinkset_90  ?_
              refine n_iadd hx hb dX3_addLinkset_91  ?_
              refine lv_iload_n hx hb dX3_addLinkset_92 rfl (lv_at hl 0 rfl) ?_
              refine n_iadd hx hb dX3_addLinkset_93  ?_
              refine lv_iconst (v := (nI (0))) hx hb dX3_addLinkset_94 (by decide) ?_
              refine n_iast hx hb hC.1 hP hD hS 1 0 rfl rfl (by omega) (by decide) dX3_addLinkset_95 (fun H locs hP hD hS => ?_)
              obtain ⟨w_4, hw_4⟩ : ∃ z : Nat → Int32, z = upd w_3 ((21 + (4 * (nn w))) + t_) (nI (0)) := ⟨_, rfl⟩
              replace hP : va_P D vwCl (mdW cI h b w_4 past_1 er bf tk sv_1 hs) H := by rw [hw_4]; exact hP
              replace hD : va_D A (mdW cI h b w_4 past_1 er bf tk sv_1 hs) := by rw [hw_4]; exact hD
              refine n_iinc (a := t_) (b := 1) (lv' := [(3, .int (nI (t_ + 1))), (2, .int (nI (nn w))), (0, .ref (h)), (1, .int (nI (m0)))]) hx hb dX3_addLinkset_96 hl (k := 0) rfl rfl (by decide) rfl (fun ls hl => ?_)
              refine lv_goto (tgt := 55) hx hb dX3_addLinkset_99 (by decide) ?_
              exact ih_55 (t_ + 1) (w_4) _ _ ls (by omega) (by omega) (fun j => by rw [hw_4, hw_3]; exact addQ_s (by omega) (by omega) hwk (by rw [if_neg (by omega)]) j) hP hD hS (lv_sub hl [0, 1, 2, 3] rfl)
            · refine lv_iconst (v := (nI (1))) hx hb dX3_addLinkset_76 (by decide) ?_
              refine lv_goto (tgt := 81) hx hb dX3_addLinkset_77 (by decide) ?_
              refine n_iast hx hb hC.1 hP hD hS 1 0 rfl rfl (by omega) (by decide) dX3_addLinkset_81 (fun H locs hP hD hS => ?_)
              obtain ⟨w_5, hw_5⟩ : ∃ z : Nat → Int32, z = upd wk ((5 + (4 * (nn w))) + t_) (nI (1)) := ⟨_, rfl⟩
              replace hP : va_P D vwCl (mdW cI h b w_5 past_1 er bf tk sv_1 hs) H := by rw [hw_5]; exact hP
              replace hD : va_D A (mdW cI h b w_5 past_1 er bf tk sv_1 hs) := by rw [hw_5]; exact hD
              refine lv_aload_n hx hb dX3_addLinkset_82 rfl (lv_at hl 2 rfl) ?_
              refine gt3 hx hb hts hown hC.1 hP 0 rfl 0 (by decide) qw456 rfl dX3_addLinkset_83 ?_
              refine lv_bipush (v := (nI (21))) hx hb dX3_addLinkset_86 (by decide) ?_
              refine lv_iconst (v := (nI (4))) hx hb dX3_addLinkset_88 (by decide) ?_
              refine lv_iload_n hx hb dX3_addLinkset_89 rfl (lv_at hl 1 rfl) ?_
              refine n_imul hx hb dX3_addLinkset_90  ?_
              refine n_iadd hx hb dX3_addLinkset_91  ?_
              refine lv_iload_n hx hb dX3_addLinkset_92 rfl (lv_at hl 0 rfl) ?_
              refine n_iadd hx hb dX3_addLinkset_93  ?_
              refine lv_iconst (v := (nI (0))) hx hb dX3_addLinkset_94 (by decide) ?_
              refine n_iast hx hb hC.1 hP hD hS 1 0 rfl rfl (by omega) (by decide) dX3_addLinkset_95 (fun H locs hP hD hS => ?_)
              obtain ⟨w_6, hw_6⟩ : ∃ z : Nat → Int32, z = upd w_5 ((21 + (4 * (nn w))) + t_) (nI (0)) := ⟨_, rfl⟩
              replace hP : va_P D vwCl (mdW cI h b w_6 past_1 er bf tk sv_1 hs) H := by rw [hw_6]; exact hP
              replace hD : va_D A (mdW cI h b w_6 past_1 er bf tk sv_1 hs) := by rw [hw_6]; exact hD
              refine n_iinc (a := t_) (b := 1) (lv' := [(3, .int (nI (t_ + 1))), (2, .int (nI (nn w))), (0, .ref (h)), (1, .int (nI (m0)))]) hx hb dX3_addLinkset_96 hl (k := 0) rfl rfl (by decide) rfl (fun ls hl => ?_)
              refine lv_goto (tgt := 55) hx hb dX3_addLinkset_99 (by decide) ?_
              exact ih_55 (t_ + 1) (w_6) _ _ ls (by omega) (by omega) (fun j => by rw [hw_6, hw_5]; exact addQ_s (by omega) (by omega) hwk (by rw [if_pos (by omega)]) j) hP hD hS (lv_sub hl [0, 1, 2, 3] rfl)
      exact lp_55 _ (0) (w_1) _ _ ls (Nat.lt_succ_self _) (Nat.zero_le _) (fun j => by rw [hw_1]; exact addQ_0 j) hP hD hS (lv_sub hl [0, 1, 2, 3] rfl)
    · have hop : oAdd w (nI m0) = (-4, 4, w) := by unfold oAdd; rw [itc_t h_3, if_pos c_23]
      refine lv_aload_n hx hb dX3_addLinkset_26 rfl (lv_at hl 0 rfl) ?_
      refine lv_bipush (v := (-4)) hx hb dX3_addLinkset_27 (by decide) ?_
      refine goWi (pre := []) (wc := mdW cI h b w past er bf tk sv hs) (suf := []) (kV (As := [.int (-4)]) (rest := []) F (c_X3_fails l D cI cO _ h b w past er bf tk sv hs c0 hW 2 (by decide)) ywX3_fails qw482 qw484 qs33 ⟨rfl, rfl⟩ ⟨Nat.le_of_ble_eq_true rfl, Nat.le_of_ble_eq_true rfl⟩ (preV (preW hP hC hD) hC hP (ci := 3) (q0 := 0) rfl rfl rfl) rfl hl.1 rfl (Nat.le_of_ble_eq_true rfl) dX3_addLinkset_29 ⟨Nat.zero_le _, Nat.zero_le _⟩) (by simpa only [List.append_assoc, List.nil_append, List.append_nil] using hP) (by simpa only [List.append_assoc, List.nil_append, List.append_nil] using hD) hS hA (fun r_29 er_1 H locs h_29 hP hD hS => ?_)
      replace hP : va_P D vwCl (mdW cI h b w past er_1 bf tk sv hs) H := by simpa only [List.append_assoc, List.nil_append, List.append_nil] using hP
      replace hD : va_D A (mdW cI h b w past er_1 bf tk sv hs) := by simpa only [List.append_assoc, List.nil_append, List.append_nil] using hD
      obtain ⟨h_29, k_29⟩ := h_29
      subst h_29
      exact hret _ (w, past, er_1, bf, tk, sv, hs) _ ls _ _ (⟨(congrArg Prod.fst hop).symm, nxM_e (e := 2) hop k_29 hsv⟩) hP hD hS dX3_addLinkset_32
  · have hop : oAdd w x = (-2, 2, w) := itc_f h_3
    refine n_if_ne (tgt := 16) hx hb dX3_addLinkset_6 (by decide) (by omega) (fun h => absurd h (by decide)) (fun _ => ?_)
    refine lv_aload_n hx hb dX3_addLinkset_9 rfl (lv_at hl 0 rfl) ?_
    refine lv_bipush (v := (-2)) hx hb dX3_addLinkset_10 (by decide) ?_
    refine goWi (pre := []) (wc := mdW cI h b w past er bf tk sv hs) (suf := []) (kV (As := [.int (-2)]) (rest := []) F (c_X3_fails l D cI cO _ h b w past er bf tk sv hs c0 hW 0 (by decide)) ywX3_fails qw482 qw484 qs33 ⟨rfl, rfl⟩ ⟨Nat.le_of_ble_eq_true rfl, Nat.le_of_ble_eq_true rfl⟩ (preV (preW hP hC hD) hC hP (ci := 3) (q0 := 0) rfl rfl rfl) rfl hl.1 rfl (Nat.le_of_ble_eq_true rfl) dX3_addLinkset_12 ⟨Nat.zero_le _, Nat.zero_le _⟩) (by simpa only [List.append_assoc, List.nil_append, List.append_nil] using hP) (by simpa only [List.append_assoc, List.nil_append, List.append_nil] using hD) hS hA (fun r_12 er_2 H locs h_12 hP hD hS => ?_)
    replace hP : va_P D vwCl (mdW cI h b w past er_2 bf tk sv hs) H := by simpa only [List.append_assoc, List.nil_append, List.append_nil] using hP
    replace hD : va_D A (mdW cI h b w past er_2 bf tk sv hs) := by simpa only [List.append_assoc, List.nil_append, List.append_nil] using hD
    obtain ⟨h_12, k_12⟩ := h_12
    subst h_12
    exact hret _ (w, past, er_2, bf, tk, sv, hs) _ ls _ _ (⟨(congrArg Prod.fst hop).symm, nxM_e (e := 0) hop k_12 hsv⟩) hP hD hS dX3_addLinkset_15

set_option maxHeartbeats 4000000 in
set_option maxRecDepth 100000 in
theorem c_X3_failLink (l : Launch) (D : va_G) (cI cO : ClassId) (sz : Nat) (h : Nat) (b : Nat → Nat) (w past er bf tk : Nat → Int32) (sv : Int32) (hs : Int64) (c0 : Nat) (hW : WF c0 w)  (n_ : Nat) (hc9 : c0 < 900) (hn_ : n_ ≤ 4) (hsv : sv = nI n_) (x y : Int32) : Met l yX3_failLink (Cond.code yX3_failLink cX3_failLink 6 (some .int) :: WL) ({ frames := 5, cells := 0, slots := 0, locals := 119 } : Room) (va_Pc [.ref (h), .int (x), .int (y)] (PW D cI cO (mdW cI h b w past er bf tk sv hs) sz)) (va_Qi (fun (r : Int32) (u : MV) => r = (oFail w x y).1 ∧ nxM n_ w past er (oFail w x y) u) (QB D (mdW cI h b w past er bf tk sv hs) sz (fun (u : MV) => mdU cI h b u)) (va_A (mdW cI h b w past er bf tk sv hs) sz)) 0 0 (va_A (mdW cI h b w past er bf tk sv hs) sz) := by
  refine wr_int (by decide) (Nat.le_of_ble_eq_true rfl) ?_
  intro p e s m args below meth c Q ls A F hP hC hD hA hret hl
  have hx := F.1
  have hb := F.2.1
  have hml := F.2.2.1
  have hown := F.2.2.2.1
  have hts := F.2.2.2.2
  replace hl : lv_has ls 6 [(0, .ref (h)), (1, .int (x)), (2, .int (y))] := hl
  have hS : va_S A s.heap s.heap [] := va_S.rf
  have hn4 := hW.n.2
  have hc : c0 < 1000 := by omega
  refine lv_aload_n hx hb dX3_failLink_0 rfl (lv_at hl 0 rfl) ?_
  refine lv_iload_n hx hb dX3_failLink_1 rfl (lv_at hl 1 rfl) ?_
  refine lv_iload_n hx hb dX3_failLink_2 rfl (lv_at hl 2 rfl) ?_
  refine goR (kV (As := [.int (x), .int (y)]) (rest := []) F (c_X3_isLink l D cI cO h b w past er bf tk sv hs c0 hW (x) (y)) ywX3_isLink qw501 qw503 qs35 ⟨rfl, rfl⟩ ⟨Nat.le_of_ble_eq_true rfl, Nat.le_of_ble_eq_true rfl⟩ (preV (preR hP hC) hC hP (ci := 3) (q0 := 0) rfl rfl rfl) rfl hl.1 rfl (Nat.le_of_ble_eq_true rfl) dX3_failLink_3 ⟨Nat.zero_le _, Nat.zero_le _⟩) (fun r_3 h_3 => ?_)
  rcases h_3 with ⟨rfl, h_3⟩ | ⟨rfl, h_3⟩
  · obtain ⟨i, hi, rfl, l_, hl_, rfl⟩ := id h_3
    have hi4 : i < 4 := by omega
    have hm4 := (hW.m i hi4).2
    have hpl : pl (nI i) (nI l_) = 4 * i + l_ := pl_nI (by omega) (by omega)
    have hv : (4 * i + l_) < 16 := by omega
    have hl10 := (hW.l (4 * i + l_) hv).2
    refine n_if_ne (tgt := 16) hx hb dX3_failLink_6 (by decide) (by omega) (fun _ => ?_) (fun h => absurd h (by decide))
    refine lv_iconst (v := (nI (4))) hx hb dX3_failLink_16 (by decide) ?_
    refine lv_iload_n hx hb dX3_failLink_17 rfl (lv_at hl 1 rfl) ?_
    refine n_imul hx hb dX3_failLink_18  ?_
    refine lv_iload_n hx hb dX3_failLink_19 rfl (lv_at hl 2 rfl) ?_
    refine n_iadd hx hb dX3_failLink_20  ?_
    refine lv_istore_n (lv' := [(3, .int (nI ((4 * i) + l_))), (0, .ref (h)), (1, .int (nI (i))), (2, .int (nI (l_)))]) hx hb dX3_failLink_21 rfl hl (by decide) rfl (fun ls hl => ?_)
    refine lv_aload_n hx hb dX3_failLink_22 rfl (lv_at hl 1 rfl) ?_
    refine gt3 hx hb hts hown hC.1 hP 0 rfl 0 (by decide) qw456 rfl dX3_failLink_23 ?_
    refine lv_iconst (v := (nI (5))) hx hb dX3_failLink_26 (by decide) ?_
    refine lv_iload_n hx hb dX3_failLink_27 rfl (lv_at hl 0 rfl) ?_
    refine n_iadd hx hb dX3_failLink_28  ?_
    refine n_iald hx hb hC.1 hP 1 0 rfl rfl (by omega) (by decide) dX3_failLink_29 ?_
    refine w_cv (y := (nI (ac w (4 * i + l_)))) (hW.a _ hv).1 ?_
    refine n_if_ne (tgt := 40) hx hb dX3_failLink_30 (by decide) (by have := (hW.a (4 * i + l_) hv).2; omega) (fun c_30 => ?_) (fun c_30 => ?_)
    · have hop : oFail w (nI i) (nI l_) = (nI (le w (4 * i + l_)), 1, failR w (4 * i + l_)) := by unfold oFail; rw [itc_t h_3, hpl, if_neg c_30]
      have ha1 := (hW.a (4 * i + l_) hv).2
      have hsn := hW.e.2
      have hfw : WF c0 (flR w (4 * i + l_)) := WF_fl hW hi4 hl_
      refine lv_aload_n hx hb dX3_failLink_40 rfl (lv_at hl 1 rfl) ?_
      refine goWv (pre := []) (wc := mdW cI h b w past er bf tk sv hs) (suf := []) (kV (As := []) (rest := []) F (c_X3_saves l D cI cO _ h b w past er bf tk sv hs c0 hW n_ hn_ hsv) ywX3_saves qw493 qw495 qs34 ⟨rfl, rfl⟩ ⟨Nat.le_of_ble_eq_true rfl, Nat.le_of_ble_eq_true rfl⟩ (preV (preW hP hC hD) hC hP (ci := 3) (q0 := 0) rfl rfl rfl) rfl hl.1 rfl (Nat.le_of_ble_eq_true rfl) dX3_failLink_41 ⟨Nat.zero_le _, Nat.zero_le _⟩) (by simpa only [List.append_assoc, List.nil_append, List.append_nil] using hP) (by simpa only [List.append_assoc, List.nil_append, List.append_nil] using hD) hS hA (fun u_1 H locs h_41 hP hD hS => ?_)
      obtain ⟨past_1, sv_1⟩ := u_1
      replace hP : va_P D vwCl (mdW cI h b w past_1 er bf tk sv_1 hs) H := by simpa only [List.append_assoc, List.nil_append, List.append_nil] using hP
      replace hD : va_D A (mdW cI h b w past_1 er bf tk sv_1 hs) := by simpa only [List.append_assoc, List.nil_append, List.append_nil] using hD
      refine lv_aload_n hx hb dX3_failLink_44 rfl (lv_at hl 1 rfl) ?_
      refine gt3 hx hb hts hown hC.1 hP 0 rfl 0 (by decide) qw456 rfl dX3_failLink_45 ?_
      refine lv_bipush (v := (nI (21))) hx hb dX3_failLink_48 (by decide) ?_
      refine lv_iload_n hx hb dX3_failLink_50 rfl (lv_at hl 0 rfl) ?_
      refine n_iadd hx hb dX3_failLink_51  ?_
      refine n_iald hx hb hC.1 hP 1 0 rfl rfl (by omega) (by decide) dX3_failLink_52 ?_
      refine w_cv (y := (nI (le w (4 * i + l_)))) (hW.l _ hv).1 ?_
      refine lv_istore (lv' := [(4, .int (nI (le w (4 * i + l_)))), (3, .int (nI ((4 * i) + l_))), (0, .ref (h)), (1, .int (nI (i))), (2, .int (nI (l_)))]) hx hb dX3_failLink_53 hl (by decide) rfl (fun ls hl => ?_)
      refine lv_iconst (v := (nI (0))) hx hb dX3_failLink_55 (by decide) ?_
      refine lv_istore (lv' := [(5, .int (nI (0))), (4, .int (nI (le w (4 * i + l_)))), (3, .int (nI ((4 * i) + l_))), (0, .ref (h)), (1, .int (nI (i))), (2, .int (nI (l_)))]) hx hb dX3_failLink_56 hl (by decide) rfl (fun ls hl => ?_)
      have lp_58 : ∀ (fu_58 : Nat) (j1 : Nat) (tkk : Nat → Int32) (H : Heap) (locs : List Loc) (ls : Array Slot), le w (4 * i + l_) - j1 < fu_58 → (j1 ≤ le w (4 * i + l_)) → (∀ j, j < j1 → tkk j = w (37 + 10 * (4 * i + l_) + j)) → va_P D vwCl (mdW cI h b w past_1 er bf tkk sv_1 hs) H → va_D A (mdW cI h b w past_1 er bf tkk sv_1 hs) → va_S A s.heap H locs → lv_has ls 6 [(5, .int (nI (j1))), (4, .int (nI (le w (4 * i + l_)))), (3, .int (nI ((4 * i) + l_))), (0, .ref (h)), (1, .int (nI (i))), (2, .int (nI (l_)))] → W p l e ({ frames := 5, cells := 0, slots := 0, locals := 119 } : Room) s m args below meth c H locs 0 0 Q (F0 m 58 ls []) := by
        intro fu_58
        induction fu_58 with
        | zero => intro j1 tkk H locs ls hmu_58; exact absurd hmu_58 (Nat.not_lt_zero _)
        | succ fu_58 ih_58 =>
          intro j1 tkk H locs ls hmu_58 hj1 htk0 hP hD hS hl
          refine lv_iload hx hb dX3_failLink_58 (lv_at hl 0 rfl) ?_
          refine lv_iload hx hb dX3_failLink_60 (lv_at hl 1 rfl) ?_
          refine n_icmp_ge (tgt := 93) hx hb dX3_failLink_62 (by decide) (by omega) (by omega) (fun c_62 => ?_) (fun c_62 => ?_)
          · refine lv_aload_n hx hb dX3_failLink_93 rfl (lv_at hl 3 rfl) ?_
            refine gt3 hx hb hts hown hC.1 hP 0 rfl 0 (by decide) qw456 rfl dX3_failLink_94 ?_
            refine lv_iconst (v := (nI (5))) hx hb dX3_failLink_97 (by decide) ?_
            refine lv_iload_n hx hb dX3_failLink_98 rfl (lv_at hl 2 rfl) ?_
            refine n_iadd hx hb dX3_failLink_99  ?_
            refine lv_iconst (v := (nI (0))) hx hb dX3_failLink_100 (by decide) ?_
            refine n_iast hx hb hC.1 hP hD hS 1 0 rfl rfl (by omega) (by decide) dX3_failLink_101 (fun H locs hP hD hS => ?_)
            obtain ⟨w_1, hw_1⟩ : ∃ z : Nat → Int32, z = upd w (5 + ((4 * i) + l_)) (nI (0)) := ⟨_, rfl⟩
            replace hP : va_P D vwCl (mdW cI h b w_1 past_1 er bf tkk sv_1 hs) H := by rw [hw_1]; exact hP
            replace hD : va_D A (mdW cI h b w_1 past_1 er bf tkk sv_1 hs) := by rw [hw_1]; exact hD
            refine lv_aload_n hx hb dX3_failLink_102 rfl (lv_at hl 3 rfl) ?_
            refine gt3 hx hb hts hown hC.1 hP 0 rfl 0 (by decide) qw456 rfl dX3_failLink_103 ?_
            refine lv_bipush (v := (nI (21))) hx hb dX3_failLink_106 (by decide) ?_
            refine lv_iload_n hx hb dX3_failLink_108 rfl (lv_at hl 2 rfl) ?_
            refine n_iadd hx hb dX3_failLink_109  ?_
            refine lv_iconst (v := (nI (0))) hx hb dX3_failLink_110 (by decide) ?_
            refine n_iast hx hb hC.1 hP hD hS 1 0 rfl rfl (by omega) (by decide) dX3_failLink_111 (fun H locs hP hD hS => ?_)
            obtain ⟨w_2, hw_2⟩ : ∃ z : Nat → Int32, z = upd w_1 (21 + ((4 * i) + l_)) (nI (0)) := ⟨_, rfl⟩
            replace hP : va_P D vwCl (mdW cI h b w_2 past_1 er bf tkk sv_1 hs) H := by rw [hw_2]; exact hP
            replace hD : va_D A (mdW cI h b w_2 past_1 er bf tkk sv_1 hs) := by rw [hw_2]; exact hD
            have hfl : w_2 = flR w (4 * i + l_) := by rw [hw_2, hw_1]; rfl
            refine lv_iconst (v := (nI (0))) hx hb dX3_failLink_112 (by decide) ?_
            refine lv_istore (lv' := [(5, .int (nI (0))), (4, .int (nI (le w (4 * i + l_)))), (3, .int (nI ((4 * i) + l_))), (0, .ref (h)), (1, .int (nI (i))), (2, .int (nI (l_)))]) hx hb dX3_failLink_113 hl (by decide) rfl (fun ls hl => ?_)
            have lp_115 : ∀ (fu_115 : Nat) (n2 : Nat) (wk : Nat → Int32) (H : Heap) (locs : List Loc) (ls : Array Slot), le w (4 * i + l_) - n2 < fu_115 → (n2 ≤ le w (4 * i + l_)) → (wk = dspN (flR w (4 * i + l_)) (msg w (4 * i + l_)) n2) → va_P D vwCl (mdW cI h b wk past_1 er bf tkk sv_1 hs) H → va_D A (mdW cI h b wk past_1 er bf tkk sv_1 hs) → va_S A s.heap H locs → lv_has ls 6 [(5, .int (nI (n2))), (4, .int (nI (le w (4 * i + l_)))), (3, .int (nI ((4 * i) + l_))), (0, .ref (h)), (1, .int (nI (i))), (2, .int (nI (l_)))] → W p l e ({ frames := 5, cells := 0, slots := 0, locals := 119 } : Room) s m args below meth c H locs 0 0 Q (F0 m 115 ls []) := by
              intro fu_115
              induction fu_115 with
              | zero => intro n2 wk H locs ls hmu_115; exact absurd hmu_115 (Nat.not_lt_zero _)
              | succ fu_115 ih_115 =>
                intro n2 wk H locs ls hmu_115 hn2 hwk hP hD hS hl
                have htk : ∀ j, j < le w (4 * i + l_) → tkk j = w (37 + 10 * (4 * i + l_) + j) := fun j hj => htk0 j (by omega)
                have hWk : WF c0 wk := by rw [hwk]; exact (dspN_ok hfw hc n2 (fun i2 hi2 => by rw [failR_sn hv]; exact msg_all hW hc hv hn2 i2 hi2)).1
                refine lv_iload hx hb dX3_failLink_115 (lv_at hl 0 rfl) ?_
                refine lv_iload hx hb dX3_failLink_117 (lv_at hl 1 rfl) ?_
                refine n_icmp_ge (tgt := 139) hx hb dX3_failLink_119 (by decide) (by omega) (by omega) (fun c_119 => ?_) (fun c_119 => ?_)
                · refine lv_iload hx hb dX3_failLink_139 (lv_at hl 1 rfl) ?_
                  exact hret _ (wk, past_1, er, bf, tkk, sv_1, hs) _ ls _ _ (⟨(congrArg Prod.fst hop).symm, nxM_1 hop (by unfold failR; rw [hwk, show n2 = le w (4 * i + l_) by omega]) h_41⟩) hP hD hS dX3_failLink_141
                · obtain ⟨b_, kk, hb0, hkk, hx_, hms⟩ := msg_ok hW hc hv (i := n2) (by omega)
                  refine lv_aload_n hx hb dX3_failLink_122 rfl (lv_at hl 3 rfl) ?_
                  refine lv_aload_n hx hb dX3_failLink_123 rfl (lv_at hl 3 rfl) ?_
                  refine gt3 hx hb hts hown hC.1 hP 0 rfl 5 (by decide) qw461 rfl dX3_failLink_124 ?_
                  refine lv_iload hx hb dX3_failLink_127 (lv_at hl 0 rfl) ?_
                  refine n_iald hx hb hC.1 hP 5 0 rfl rfl (by omega) (by decide) dX3_failLink_129 ?_
                  refine w_cv (y := (nI (128 * b_ + kk))) (by rw [htk n2 (by omega), hx_]) ?_
                  refine goWv (pre := []) (wc := mdW cI h b wk past_1 er bf tkk sv_1 hs) (suf := []) (kV (As := [.int (nI (128 * b_ + kk))]) (rest := []) F (c_X3_dispatches l D cI cO _ h b wk past_1 er bf tkk sv_1 hs c0 hWk (b_) (kk) (by omega) hkk) ywX3_dispatches qw509 qw511 qs37 ⟨rfl, rfl⟩ ⟨Nat.le_of_ble_eq_true rfl, Nat.le_of_ble_eq_true rfl⟩ (preV (preW hP hC hD) hC hP (ci := 3) (q0 := 0) rfl rfl rfl) rfl hl.1 rfl (Nat.le_of_ble_eq_true rfl) dX3_failLink_130 ⟨Nat.zero_le _, Nat.zero_le _⟩) (by simpa only [List.append_assoc, List.nil_append, List.append_nil] using hP) (by simpa only [List.append_assoc, List.nil_append, List.append_nil] using hD) hS hA (fun w_3 H locs h_130 hP hD hS => ?_)
                  replace hP : va_P D vwCl (mdW cI h b w_3 past_1 er bf tkk sv_1 hs) H := by simpa only [List.append_assoc, List.nil_append, List.append_nil] using hP
                  replace hD : va_D A (mdW cI h b w_3 past_1 er bf tkk sv_1 hs) := by simpa only [List.append_assoc, List.nil_append, List.append_nil] using hD
                  refine n_iinc (a := n2) (b := 1) (lv' := [(5, .int (nI (n2 + 1))), (4, .int (nI (le w (4 * i + l_)))), (3, .int (nI ((4 * i) + l_))), (0, .ref (h)), (1, .int (nI (i))), (2, .int (nI (l_)))]) hx hb dX3_failLink_133 hl (k := 0) rfl rfl (by decide) rfl (fun ls hl => ?_)
                  refine lv_goto (tgt := 115) hx hb dX3_failLink_136 (by decide) ?_
                  exact ih_115 (n2 + 1) (w_3) _ _ ls (by omega) (by omega) (by rw [h_130, hwk]; show dsp _ _ = dsp _ (msg w (4 * i + l_) n2); rw [hms]) hP hD hS (lv_sub hl [0, 1, 2, 3, 4, 5] rfl)
            exact lp_115 _ (0) (w_2) _ _ ls (Nat.lt_succ_self _) (Nat.zero_le _) (hfl) hP hD hS (lv_sub hl [0, 1, 2, 3, 4, 5] rfl)
          · refine lv_aload_n hx hb dX3_failLink_65 rfl (lv_at hl 3 rfl) ?_
            refine gt3 hx hb hts hown hC.1 hP 0 rfl 5 (by decide) qw461 rfl dX3_failLink_66 ?_
            refine lv_iload hx hb dX3_failLink_69 (lv_at hl 0 rfl) ?_
            refine lv_aload_n hx hb dX3_failLink_71 rfl (lv_at hl 3 rfl) ?_
            refine gt3 hx hb hts hown hC.1 hP 0 rfl 0 (by decide) qw456 rfl dX3_failLink_72 ?_
            refine lv_bipush (v := (nI (37))) hx hb dX3_failLink_75 (by decide) ?_
            refine lv_bipush (v := (nI (10))) hx hb dX3_failLink_77 (by decide) ?_
            refine lv_iload_n hx hb dX3_failLink_79 rfl (lv_at hl 2 rfl) ?_
            refine n_imul hx hb dX3_failLink_80  ?_
            refine n_iadd hx hb dX3_failLink_81  ?_
            refine lv_iload hx hb dX3_failLink_82 (lv_at hl 0 rfl) ?_
            refine n_iadd hx hb dX3_failLink_84  ?_
            refine n_iald hx hb hC.1 hP 1 0 rfl rfl (by omega) (by decide) dX3_failLink_85 ?_
            refine n_iast hx hb hC.1 hP hD hS 5 0 rfl rfl (by omega) (by decide) dX3_failLink_86 (fun H locs hP hD hS => ?_)
            obtain ⟨tk_1, htk_1⟩ : ∃ z : Nat → Int32, z = upd tkk (j1) (w ((37 + (10 * ((4 * i) + l_))) + j1)) := ⟨_, rfl⟩
            replace hP : va_P D vwCl (mdW cI h b w past_1 er bf tk_1 sv_1 hs) H := by rw [htk_1]; exact hP
            replace hD : va_D A (mdW cI h b w past_1 er bf tk_1 sv_1 hs) := by rw [htk_1]; exact hD
            refine n_iinc (a := j1) (b := 1) (lv' := [(5, .int (nI (j1 + 1))), (4, .int (nI (le w (4 * i + l_)))), (3, .int (nI ((4 * i) + l_))), (0, .ref (h)), (1, .int (nI (i))), (2, .int (nI (l_)))]) hx hb dX3_failLink_87 hl (k := 0) rfl rfl (by decide) rfl (fun ls hl => ?_)
            refine lv_goto (tgt := 58) hx hb dX3_failLink_90 (by decide) ?_
            exact ih_58 (j1 + 1) (tk_1) _ _ ls (by omega) (by omega) (fun j hj => by rw [htk_1]; exact if h9 : j = j1 then (by rw [h9, upd_eq]) else (by rw [pk_un h9]; exact htk0 j (by omega))) hP hD hS (lv_sub hl [0, 1, 2, 3, 4, 5] rfl)
      exact lp_58 _ (0) (tk) _ _ ls (Nat.lt_succ_self _) (Nat.zero_le _) (fun j hj => absurd hj (by omega)) hP hD hS (lv_sub hl [0, 1, 2, 3, 4, 5] rfl)
    · have hop : oFail w (nI i) (nI l_) = (-3, 3, w) := by unfold oFail; rw [itc_t h_3, hpl, if_pos c_30]; rfl
      refine lv_aload_n hx hb dX3_failLink_33 rfl (lv_at hl 1 rfl) ?_
      refine lv_bipush (v := (-3)) hx hb dX3_failLink_34 (by decide) ?_
      refine goWi (pre := []) (wc := mdW cI h b w past er bf tk sv hs) (suf := []) (kV (As := [.int (-3)]) (rest := []) F (c_X3_fails l D cI cO _ h b w past er bf tk sv hs c0 hW 1 (by decide)) ywX3_fails qw482 qw484 qs33 ⟨rfl, rfl⟩ ⟨Nat.le_of_ble_eq_true rfl, Nat.le_of_ble_eq_true rfl⟩ (preV (preW hP hC hD) hC hP (ci := 3) (q0 := 0) rfl rfl rfl) rfl hl.1 rfl (Nat.le_of_ble_eq_true rfl) dX3_failLink_36 ⟨Nat.zero_le _, Nat.zero_le _⟩) (by simpa only [List.append_assoc, List.nil_append, List.append_nil] using hP) (by simpa only [List.append_assoc, List.nil_append, List.append_nil] using hD) hS hA (fun r_36 er_1 H locs h_36 hP hD hS => ?_)
      replace hP : va_P D vwCl (mdW cI h b w past er_1 bf tk sv hs) H := by simpa only [List.append_assoc, List.nil_append, List.append_nil] using hP
      replace hD : va_D A (mdW cI h b w past er_1 bf tk sv hs) := by simpa only [List.append_assoc, List.nil_append, List.append_nil] using hD
      obtain ⟨h_36, k_36⟩ := h_36
      subst h_36
      exact hret _ (w, past, er_1, bf, tk, sv, hs) _ ls _ _ (⟨(congrArg Prod.fst hop).symm, nxM_e (e := 1) hop k_36 hsv⟩) hP hD hS dX3_failLink_39
  · have hop : oFail w x y = (-2, 2, w) := itc_f h_3
    refine n_if_ne (tgt := 16) hx hb dX3_failLink_6 (by decide) (by omega) (fun h => absurd h (by decide)) (fun _ => ?_)
    refine lv_aload_n hx hb dX3_failLink_9 rfl (lv_at hl 0 rfl) ?_
    refine lv_bipush (v := (-2)) hx hb dX3_failLink_10 (by decide) ?_
    refine goWi (pre := []) (wc := mdW cI h b w past er bf tk sv hs) (suf := []) (kV (As := [.int (-2)]) (rest := []) F (c_X3_fails l D cI cO _ h b w past er bf tk sv hs c0 hW 0 (by decide)) ywX3_fails qw482 qw484 qs33 ⟨rfl, rfl⟩ ⟨Nat.le_of_ble_eq_true rfl, Nat.le_of_ble_eq_true rfl⟩ (preV (preW hP hC hD) hC hP (ci := 3) (q0 := 0) rfl rfl rfl) rfl hl.1 rfl (Nat.le_of_ble_eq_true rfl) dX3_failLink_12 ⟨Nat.zero_le _, Nat.zero_le _⟩) (by simpa only [List.append_assoc, List.nil_append, List.append_nil] using hP) (by simpa only [List.append_assoc, List.nil_append, List.append_nil] using hD) hS hA (fun r_12 er_2 H locs h_12 hP hD hS => ?_)
    replace hP : va_P D vwCl (mdW cI h b w past er_2 bf tk sv hs) H := by simpa only [List.append_assoc, List.nil_append, List.append_nil] using hP
    replace hD : va_D A (mdW cI h b w past er_2 bf tk sv hs) := by simpa only [List.append_assoc, List.nil_append, List.append_nil] using hD
    obtain ⟨h_12, k_12⟩ := h_12
    subst h_12
    exact hret _ (w, past, er_2, bf, tk, sv, hs) _ ls _ _ (⟨(congrArg Prod.fst hop).symm, nxM_e (e := 0) hop k_12 hsv⟩) hP hD hS dX3_failLink_15

set_option maxHeartbeats 4000000 in
set_option maxRecDepth 100000 in
theorem c_X3_restoreLink (l : Launch) (D : va_G) (cI cO : ClassId) (sz : Nat) (h : Nat) (b : Nat → Nat) (w past er bf tk : Nat → Int32) (sv : Int32) (hs : Int64) (c0 : Nat) (hW : WF c0 w)  (n_ : Nat) (hc9 : c0 < 900) (hn_ : n_ ≤ 4) (hsv : sv = nI n_) (x y : Int32) : Met l yX3_restoreLink (Cond.code yX3_restoreLink cX3_restoreLink 3 (some .int) :: WL) ({ frames := 5, cells := 0, slots := 0, locals := 120 } : Room) (va_Pc [.ref (h), .int (x), .int (y)] (PW D cI cO (mdW cI h b w past er bf tk sv hs) sz)) (va_Qi (fun (r : Int32) (u : MV) => r = (oRest w x y).1 ∧ nxM n_ w past er (oRest w x y) u) (QB D (mdW cI h b w past er bf tk sv hs) sz (fun (u : MV) => mdU cI h b u)) (va_A (mdW cI h b w past er bf tk sv hs) sz)) 0 0 (va_A (mdW cI h b w past er bf tk sv hs) sz) := by
  refine wr_int (by decide) (Nat.le_of_ble_eq_true rfl) ?_
  intro p e s m args below meth c Q ls A F hP hC hD hA hret hl
  have hx := F.1
  have hb := F.2.1
  have hml := F.2.2.1
  have hown := F.2.2.2.1
  have hts := F.2.2.2.2
  replace hl : lv_has ls 3 [(0, .ref (h)), (1, .int (x)), (2, .int (y))] := hl
  have hS : va_S A s.heap s.heap [] := va_S.rf
  have hn4 := hW.n.2
  have hc : c0 < 1000 := by omega
  refine lv_aload_n hx hb dX3_restoreLink_0 rfl (lv_at hl 0 rfl) ?_
  refine lv_iload_n hx hb dX3_restoreLink_1 rfl (lv_at hl 1 rfl) ?_
  refine lv_iload_n hx hb dX3_restoreLink_2 rfl (lv_at hl 2 rfl) ?_
  refine goR (kV (As := [.int (x), .int (y)]) (rest := []) F (c_X3_isLink l D cI cO h b w past er bf tk sv hs c0 hW (x) (y)) ywX3_isLink qw501 qw503 qs35 ⟨rfl, rfl⟩ ⟨Nat.le_of_ble_eq_true rfl, Nat.le_of_ble_eq_true rfl⟩ (preV (preR hP hC) hC hP (ci := 3) (q0 := 0) rfl rfl rfl) rfl hl.1 rfl (Nat.le_of_ble_eq_true rfl) dX3_restoreLink_3 ⟨Nat.zero_le _, Nat.zero_le _⟩) (fun r_3 h_3 => ?_)
  rcases h_3 with ⟨rfl, h_3⟩ | ⟨rfl, h_3⟩
  · obtain ⟨i, hi, rfl, l_, hl_, rfl⟩ := id h_3
    have hi4 : i < 4 := by omega
    have hm4 := (hW.m i hi4).2
    have hpl : pl (nI i) (nI l_) = 4 * i + l_ := pl_nI (by omega) (by omega)
    have hv : (4 * i + l_) < 16 := by omega
    have hl10 := (hW.l (4 * i + l_) hv).2
    refine n_if_ne (tgt := 16) hx hb dX3_restoreLink_6 (by decide) (by omega) (fun _ => ?_) (fun h => absurd h (by decide))
    refine lv_aload_n hx hb dX3_restoreLink_16 rfl (lv_at hl 0 rfl) ?_
    refine gt3 hx hb hts hown hC.1 hP 0 rfl 0 (by decide) qw456 rfl dX3_restoreLink_17 ?_
    refine lv_iconst (v := (nI (5))) hx hb dX3_restoreLink_20 (by decide) ?_
    refine lv_iconst (v := (nI (4))) hx hb dX3_restoreLink_21 (by decide) ?_
    refine lv_iload_n hx hb dX3_restoreLink_22 rfl (lv_at hl 1 rfl) ?_
    refine n_imul hx hb dX3_restoreLink_23  ?_
    refine n_iadd hx hb dX3_restoreLink_24  ?_
    refine lv_iload_n hx hb dX3_restoreLink_25 rfl (lv_at hl 2 rfl) ?_
    refine n_iadd hx hb dX3_restoreLink_26  ?_
    refine n_iald hx hb hC.1 hP 1 0 rfl rfl (by omega) (by decide) dX3_restoreLink_27 ?_
    refine w_cv (y := (nI (ac w (4 * i + l_)))) ((congrArg w (by omega)).trans (hW.a (4 * i + l_) hv).1) ?_
    refine lv_iconst (v := (nI (1))) hx hb dX3_restoreLink_28 (by decide) ?_
    refine n_icmp_ne (tgt := 39) hx hb dX3_restoreLink_29 (by decide) (by have := (hW.a (4 * i + l_) hv).2; omega) (by omega) (fun c_29 => ?_) (fun c_29 => ?_)
    · have hop : oRest w (nI i) (nI l_) = (nI (imp w (upd w (5 + (4 * i + l_)) (nI 1))).2, 1, (imp w (upd w (5 + (4 * i + l_)) (nI 1))).1) := by unfold oRest; rw [itc_t h_3, hpl, if_neg c_29]
      refine lv_aload_n hx hb dX3_restoreLink_39 rfl (lv_at hl 0 rfl) ?_
      refine goWv (pre := []) (wc := mdW cI h b w past er bf tk sv hs) (suf := []) (kV (As := []) (rest := []) F (c_X3_saves l D cI cO _ h b w past er bf tk sv hs c0 hW n_ hn_ hsv) ywX3_saves qw493 qw495 qs34 ⟨rfl, rfl⟩ ⟨Nat.le_of_ble_eq_true rfl, Nat.le_of_ble_eq_true rfl⟩ (preV (preW hP hC hD) hC hP (ci := 3) (q0 := 0) rfl rfl rfl) rfl hl.1 rfl (Nat.le_of_ble_eq_true rfl) dX3_restoreLink_40 ⟨Nat.zero_le _, Nat.zero_le _⟩) (by simpa only [List.append_assoc, List.nil_append, List.append_nil] using hP) (by simpa only [List.append_assoc, List.nil_append, List.append_nil] using hD) hS hA (fun u_1 H locs h_40 hP hD hS => ?_)
      obtain ⟨past_1, sv_1⟩ := u_1
      replace hP : va_P D vwCl (mdW cI h b w past_1 er bf tk sv_1 hs) H := by simpa only [List.append_assoc, List.nil_append, List.append_nil] using hP
      replace hD : va_D A (mdW cI h b w past_1 er bf tk sv_1 hs) := by simpa only [List.append_assoc, List.nil_append, List.append_nil] using hD
      refine lv_aload_n hx hb dX3_restoreLink_43 rfl (lv_at hl 0 rfl) ?_
      refine goWv (pre := []) (wc := mdW cI h b w past_1 er bf tk sv_1 hs) (suf := []) (kV (As := []) (rest := []) F (c_X3_laysBefore l D cI cO _ h b w past_1 er bf tk sv_1 hs c0 hW) ywX3_laysBefore qw536 qw538 qs42 ⟨rfl, rfl⟩ ⟨Nat.le_of_ble_eq_true rfl, Nat.le_of_ble_eq_true rfl⟩ (preV (preW hP hC hD) hC hP (ci := 3) (q0 := 0) rfl rfl rfl) rfl hl.1 rfl (Nat.le_of_ble_eq_true rfl) dX3_restoreLink_44 ⟨Nat.zero_le _, Nat.zero_le _⟩) (by simpa only [List.append_assoc, List.nil_append, List.append_nil] using hP) (by simpa only [List.append_assoc, List.nil_append, List.append_nil] using hD) hS hA (fun bf_1 H locs h_44 hP hD hS => ?_)
      replace hP : va_P D vwCl (mdW cI h b w past_1 er bf_1 tk sv_1 hs) H := by simpa only [List.append_assoc, List.nil_append, List.append_nil] using hP
      replace hD : va_D A (mdW cI h b w past_1 er bf_1 tk sv_1 hs) := by simpa only [List.append_assoc, List.nil_append, List.append_nil] using hD
      refine lv_aload_n hx hb dX3_restoreLink_47 rfl (lv_at hl 0 rfl) ?_
      refine gt3 hx hb hts hown hC.1 hP 0 rfl 0 (by decide) qw456 rfl dX3_restoreLink_48 ?_
      refine lv_iconst (v := (nI (5))) hx hb dX3_restoreLink_51 (by decide) ?_
      refine lv_iconst (v := (nI (4))) hx hb dX3_restoreLink_52 (by decide) ?_
      refine lv_iload_n hx hb dX3_restoreLink_53 rfl (lv_at hl 1 rfl) ?_
      refine n_imul hx hb dX3_restoreLink_54  ?_
      refine n_iadd hx hb dX3_restoreLink_55  ?_
      refine lv_iload_n hx hb dX3_restoreLink_56 rfl (lv_at hl 2 rfl) ?_
      refine n_iadd hx hb dX3_restoreLink_57  ?_
      refine lv_iconst (v := (nI (1))) hx hb dX3_restoreLink_58 (by decide) ?_
      refine n_iast hx hb hC.1 hP hD hS 1 0 rfl rfl (by omega) (by decide) dX3_restoreLink_59 (fun H locs hP hD hS => ?_)
      obtain ⟨w_1, hw_1⟩ : ∃ z : Nat → Int32, z = upd w ((5 + (4 * i)) + l_) (nI (1)) := ⟨_, rfl⟩
      replace hP : va_P D vwCl (mdW cI h b w_1 past_1 er bf_1 tk sv_1 hs) H := by rw [hw_1]; exact hP
      replace hD : va_D A (mdW cI h b w_1 past_1 er bf_1 tk sv_1 hs) := by rw [hw_1]; exact hD
      have hw1 : w_1 = upd w (5 + (4 * i + l_)) (nI 1) := by rw [hw_1, show 5 + 4 * i + l_ = 5 + (4 * i + l_) by omega]
      have hW1 : WF c0 w_1 := by rw [hw1]; exact (RC_flag (v0 := 1) hi4 hl_ (by omega) (RC_S0 hW)).wf
      refine lv_aload_n hx hb dX3_restoreLink_60 rfl (lv_at hl 0 rfl) ?_
      refine goWi (pre := []) (wc := mdW cI h b w_1 past_1 er bf_1 tk sv_1 hs) (suf := []) (kV (As := []) (rest := []) F (c_X3_diverts l D cI cO _ h b w_1 past_1 er bf_1 tk sv_1 hs c0 hW1 hc) ywX3_diverts qw540 qw542 qs43 ⟨rfl, rfl⟩ ⟨Nat.le_of_ble_eq_true rfl, Nat.le_of_ble_eq_true rfl⟩ (preV (preW hP hC hD) hC hP (ci := 3) (q0 := 0) rfl rfl rfl) rfl hl.1 rfl (Nat.le_of_ble_eq_true rfl) dX3_restoreLink_61 ⟨Nat.zero_le _, Nat.zero_le _⟩) (by simpa only [List.append_assoc, List.nil_append, List.append_nil] using hP) (by simpa only [List.append_assoc, List.nil_append, List.append_nil] using hD) hS hA (fun r_61 w_2 H locs h_61 hP hD hS => ?_)
      replace hP : va_P D vwCl (mdW cI h b w_2 past_1 er bf_1 tk sv_1 hs) H := by simpa only [List.append_assoc, List.nil_append, List.append_nil] using hP
      replace hD : va_D A (mdW cI h b w_2 past_1 er bf_1 tk sv_1 hs) := by simpa only [List.append_assoc, List.nil_append, List.append_nil] using hD
      obtain ⟨h_61, k_61⟩ := h_61
      subst h_61
      exact hret _ (w_2, past_1, er, bf_1, tk, sv_1, hs) _ ls _ _ (have him : dvN w_1 bf_1 96 = (imp w (upd w (5 + (4 * i + l_)) (nI 1))) := (by rw [hw1]; exact imp_of h_44); ⟨by rw [him, hop], nxM_1 hop (by rw [k_61, him]) h_40⟩) hP hD hS dX3_restoreLink_64
    · have hop : oRest w (nI i) (nI l_) = (-3, 3, w) := by unfold oRest; rw [itc_t h_3, hpl, if_pos c_29]; rfl
      refine lv_aload_n hx hb dX3_restoreLink_32 rfl (lv_at hl 0 rfl) ?_
      refine lv_bipush (v := (-3)) hx hb dX3_restoreLink_33 (by decide) ?_
      refine goWi (pre := []) (wc := mdW cI h b w past er bf tk sv hs) (suf := []) (kV (As := [.int (-3)]) (rest := []) F (c_X3_fails l D cI cO _ h b w past er bf tk sv hs c0 hW 1 (by decide)) ywX3_fails qw482 qw484 qs33 ⟨rfl, rfl⟩ ⟨Nat.le_of_ble_eq_true rfl, Nat.le_of_ble_eq_true rfl⟩ (preV (preW hP hC hD) hC hP (ci := 3) (q0 := 0) rfl rfl rfl) rfl hl.1 rfl (Nat.le_of_ble_eq_true rfl) dX3_restoreLink_35 ⟨Nat.zero_le _, Nat.zero_le _⟩) (by simpa only [List.append_assoc, List.nil_append, List.append_nil] using hP) (by simpa only [List.append_assoc, List.nil_append, List.append_nil] using hD) hS hA (fun r_35 er_1 H locs h_35 hP hD hS => ?_)
      replace hP : va_P D vwCl (mdW cI h b w past er_1 bf tk sv hs) H := by simpa only [List.append_assoc, List.nil_append, List.append_nil] using hP
      replace hD : va_D A (mdW cI h b w past er_1 bf tk sv hs) := by simpa only [List.append_assoc, List.nil_append, List.append_nil] using hD
      obtain ⟨h_35, k_35⟩ := h_35
      subst h_35
      exact hret _ (w, past, er_1, bf, tk, sv, hs) _ ls _ _ (⟨(congrArg Prod.fst hop).symm, nxM_e (e := 1) hop k_35 hsv⟩) hP hD hS dX3_restoreLink_38
  · have hop : oRest w x y = (-2, 2, w) := itc_f h_3
    refine n_if_ne (tgt := 16) hx hb dX3_restoreLink_6 (by decide) (by omega) (fun h => absurd h (by decide)) (fun _ => ?_)
    refine lv_aload_n hx hb dX3_restoreLink_9 rfl (lv_at hl 0 rfl) ?_
    refine lv_bipush (v := (-2)) hx hb dX3_restoreLink_10 (by decide) ?_
    refine goWi (pre := []) (wc := mdW cI h b w past er bf tk sv hs) (suf := []) (kV (As := [.int (-2)]) (rest := []) F (c_X3_fails l D cI cO _ h b w past er bf tk sv hs c0 hW 0 (by decide)) ywX3_fails qw482 qw484 qs33 ⟨rfl, rfl⟩ ⟨Nat.le_of_ble_eq_true rfl, Nat.le_of_ble_eq_true rfl⟩ (preV (preW hP hC hD) hC hP (ci := 3) (q0 := 0) rfl rfl rfl) rfl hl.1 rfl (Nat.le_of_ble_eq_true rfl) dX3_restoreLink_12 ⟨Nat.zero_le _, Nat.zero_le _⟩) (by simpa only [List.append_assoc, List.nil_append, List.append_nil] using hP) (by simpa only [List.append_assoc, List.nil_append, List.append_nil] using hD) hS hA (fun r_12 er_2 H locs h_12 hP hD hS => ?_)
    replace hP : va_P D vwCl (mdW cI h b w past er_2 bf tk sv hs) H := by simpa only [List.append_assoc, List.nil_append, List.append_nil] using hP
    replace hD : va_D A (mdW cI h b w past er_2 bf tk sv hs) := by simpa only [List.append_assoc, List.nil_append, List.append_nil] using hD
    obtain ⟨h_12, k_12⟩ := h_12
    subst h_12
    exact hret _ (w, past, er_2, bf, tk, sv, hs) _ ls _ _ (⟨(congrArg Prod.fst hop).symm, nxM_e (e := 0) hop k_12 hsv⟩) hP hD hS dX3_restoreLink_15

set_option maxHeartbeats 4000000 in
set_option maxRecDepth 100000 in
theorem c_X3_acknowledge (l : Launch) (D : va_G) (cI cO : ClassId) (sz : Nat) (h : Nat) (b : Nat → Nat) (w past er bf tk : Nat → Int32) (sv : Int32) (hs : Int64) (c0 : Nat) (hW : WF c0 w)  (n_ : Nat) (hc9 : c0 < 900) (hn_ : n_ ≤ 4) (hsv : sv = nI n_) (x y z : Int32) : Met l yX3_acknowledge (Cond.code yX3_acknowledge cX3_acknowledge 8 (some .int) :: WL) ({ frames := 3, cells := 0, slots := 0, locals := 65 } : Room) (va_Pc [.ref (h), .int (x), .int (y), .int (z)] (PW D cI cO (mdW cI h b w past er bf tk sv hs) sz)) (va_Qi (fun (r : Int32) (u : MV) => r = (oAck w x y z).1 ∧ nxM n_ w past er (oAck w x y z) u) (QB D (mdW cI h b w past er bf tk sv hs) sz (fun (u : MV) => mdU cI h b u)) (va_A (mdW cI h b w past er bf tk sv hs) sz)) 0 0 (va_A (mdW cI h b w past er bf tk sv hs) sz) := by
  refine wr_int (by decide) (Nat.le_of_ble_eq_true rfl) ?_
  intro p e s m args below meth c Q ls A F hP hC hD hA hret hl
  have hx := F.1
  have hb := F.2.1
  have hml := F.2.2.1
  have hown := F.2.2.2.1
  have hts := F.2.2.2.2
  replace hl : lv_has ls 8 [(0, .ref (h)), (1, .int (x)), (2, .int (y)), (3, .int (z))] := hl
  have hS : va_S A s.heap s.heap [] := va_S.rf
  have hn4 := hW.n.2
  have hc : c0 < 1000 := by omega
  refine lv_aload_n hx hb dX3_acknowledge_0 rfl (lv_at hl 0 rfl) ?_
  refine lv_iload_n hx hb dX3_acknowledge_1 rfl (lv_at hl 1 rfl) ?_
  refine lv_iload_n hx hb dX3_acknowledge_2 rfl (lv_at hl 2 rfl) ?_
  refine goR (kV (As := [.int (x), .int (y)]) (rest := []) F (c_X3_isLink l D cI cO h b w past er bf tk sv hs c0 hW (x) (y)) ywX3_isLink qw501 qw503 qs35 ⟨rfl, rfl⟩ ⟨Nat.le_of_ble_eq_true rfl, Nat.le_of_ble_eq_true rfl⟩ (preV (preR hP hC) hC hP (ci := 3) (q0 := 0) rfl rfl rfl) rfl hl.1 rfl (Nat.le_of_ble_eq_true rfl) dX3_acknowledge_3 ⟨Nat.zero_le _, Nat.zero_le _⟩) (fun r_3 h_3 => ?_)
  rcases h_3 with ⟨rfl, h_3⟩ | ⟨rfl, h_3⟩
  · obtain ⟨i, hi, rfl, l_, hl_, rfl⟩ := id h_3
    have hi4 : i < 4 := by omega
    have hm4 := (hW.m i hi4).2
    have hpl : pl (nI i) (nI l_) = 4 * i + l_ := pl_nI (by omega) (by omega)
    have hv : (4 * i + l_) < 16 := by omega
    have hl10 := (hW.l (4 * i + l_) hv).2
    refine n_if_eq (tgt := 19) hx hb dX3_acknowledge_6 (by decide) (by omega) (fun h => absurd h (by decide)) (fun _ => ?_)
    refine lv_iload_n hx hb dX3_acknowledge_9 rfl (lv_at hl 3 rfl) ?_
    refine lv_iconst (v := (nI (1))) hx hb dX3_acknowledge_10 (by decide) ?_
    refine lv_bipush (v := (nI (10))) hx hb dX3_acknowledge_11 (by decide) ?_
    refine goR (kS (As := [.int (z), .int (nI (1)), .int (nI (10))]) (rest := []) F (c_X3_within l D cI cO (z) (nI (1)) (nI (10))) ywX3_within qw490 qw491  ⟨rfl, rfl⟩ ⟨Nat.le_of_ble_eq_true rfl, Nat.le_of_ble_eq_true rfl⟩ (preR (fun k q h => by simp at h) hC) rfl hl.1 rfl (Nat.le_of_ble_eq_true rfl) dX3_acknowledge_13 ⟨Nat.zero_le _, Nat.zero_le _⟩) (fun r_13 h_13 => ?_)
    rcases h_13 with ⟨rfl, h_13⟩ | ⟨rfl, h_13⟩
    · obtain ⟨q_, hq1, hq10, rfl⟩ := in_ab (by decide) (id h_13) (by decide)
      have hop0 : oAck w (nI i) (nI l_) (nI q_) = (nI (min q_ (le w (4 * i + l_))), 1, ackR w (4 * i + l_) (min q_ (le w (4 * i + l_)))) := by unfold oAck; rw [itc_t ⟨h_3, h_13⟩, hpl, nv_nI (by omega)]
      have hsn := hW.e.2
      refine n_if_ne (tgt := 26) hx hb dX3_acknowledge_16 (by decide) (by omega) (fun _ => ?_) (fun h => absurd h (by decide))
      refine lv_aload_n hx hb dX3_acknowledge_26 rfl (lv_at hl 0 rfl) ?_
      refine goWv (pre := []) (wc := mdW cI h b w past er bf tk sv hs) (suf := []) (kV (As := []) (rest := []) F (c_X3_saves l D cI cO _ h b w past er bf tk sv hs c0 hW n_ hn_ hsv) ywX3_saves qw493 qw495 qs34 ⟨rfl, rfl⟩ ⟨Nat.le_of_ble_eq_true rfl, Nat.le_of_ble_eq_true rfl⟩ (preV (preW hP hC hD) hC hP (ci := 3) (q0 := 0) rfl rfl rfl) rfl hl.1 rfl (Nat.le_of_ble_eq_true rfl) dX3_acknowledge_27 ⟨Nat.zero_le _, Nat.zero_le _⟩) (by simpa only [List.append_assoc, List.nil_append, List.append_nil] using hP) (by simpa only [List.append_assoc, List.nil_append, List.append_nil] using hD) hS hA (fun u_1 H locs h_27 hP hD hS => ?_)
      obtain ⟨past_1, sv_1⟩ := u_1
      replace hP : va_P D vwCl (mdW cI h b w past_1 er bf tk sv_1 hs) H := by simpa only [List.append_assoc, List.nil_append, List.append_nil] using hP
      replace hD : va_D A (mdW cI h b w past_1 er bf tk sv_1 hs) := by simpa only [List.append_assoc, List.nil_append, List.append_nil] using hD
      refine lv_iconst (v := (nI (4))) hx hb dX3_acknowledge_30 (by decide) ?_
      refine lv_iload_n hx hb dX3_acknowledge_31 rfl (lv_at hl 1 rfl) ?_
      refine n_imul hx hb dX3_acknowledge_32  ?_
      refine lv_iload_n hx hb dX3_acknowledge_33 rfl (lv_at hl 2 rfl) ?_
      refine n_iadd hx hb dX3_acknowledge_34  ?_
      refine lv_istore (lv' := [(4, .int (nI ((4 * i) + l_))), (0, .ref (h)), (1, .int (nI (i))), (2, .int (nI (l_))), (3, .int (nI (q_)))]) hx hb dX3_acknowledge_35 hl (by decide) rfl (fun ls hl => ?_)
      refine lv_aload_n hx hb dX3_acknowledge_37 rfl (lv_at hl 1 rfl) ?_
      refine gt3 hx hb hts hown hC.1 hP 0 rfl 0 (by decide) qw456 rfl dX3_acknowledge_38 ?_
      refine lv_bipush (v := (nI (21))) hx hb dX3_acknowledge_41 (by decide) ?_
      refine lv_iload hx hb dX3_acknowledge_43 (lv_at hl 0 rfl) ?_
      refine n_iadd hx hb dX3_acknowledge_45  ?_
      refine n_iald hx hb hC.1 hP 1 0 rfl rfl (by omega) (by decide) dX3_acknowledge_46 ?_
      refine w_cv (y := (nI (le w (4 * i + l_)))) (hW.l _ hv).1 ?_
      refine lv_istore (lv' := [(5, .int (nI (le w (4 * i + l_)))), (4, .int (nI ((4 * i) + l_))), (0, .ref (h)), (1, .int (nI (i))), (2, .int (nI (l_))), (3, .int (nI (q_)))]) hx hb dX3_acknowledge_47 hl (by decide) rfl (fun ls hl => ?_)
      refine lv_iload hx hb dX3_acknowledge_49 (lv_at hl 0 rfl) ?_
      refine lv_iload_n hx hb dX3_acknowledge_51 rfl (lv_at hl 5 rfl) ?_
      refine n_icmp_ge (tgt := 60) hx hb dX3_acknowledge_52 (by decide) (by omega) (by omega) (fun c_52 => ?_) (fun c_52 => ?_)
      · have hop := hop0
        rw [Nat.min_eq_left (by omega)] at hop
        refine lv_iload_n hx hb dX3_acknowledge_60 rfl (lv_at hl 5 rfl) ?_
        refine lv_istore (lv' := [(6, .int (nI (q_))), (5, .int (nI (le w (4 * i + l_)))), (4, .int (nI ((4 * i) + l_))), (0, .ref (h)), (1, .int (nI (i))), (2, .int (nI (l_))), (3, .int (nI (q_)))]) hx hb dX3_acknowledge_61 hl (by decide) rfl (fun ls hl => ?_)
        refine lv_iconst (v := (nI (0))) hx hb dX3_acknowledge_63 (by decide) ?_
        refine lv_istore (lv' := [(7, .int (nI (0))), (6, .int (nI (q_))), (5, .int (nI (le w (4 * i + l_)))), (4, .int (nI ((4 * i) + l_))), (0, .ref (h)), (1, .int (nI (i))), (2, .int (nI (l_))), (3, .int (nI (q_)))]) hx hb dX3_acknowledge_64 hl (by decide) rfl (fun ls hl => ?_)
        have lp_66 : ∀ (fu_66 : Nat) (i_ : Nat) (wk : Nat → Int32) (H : Heap) (locs : List Loc) (ls : Array Slot), q_ - i_ < fu_66 → (i_ ≤ q_) → (wk = dlvN w (msg w (4 * i + l_)) i_) → va_P D vwCl (mdW cI h b wk past_1 er bf tk sv_1 hs) H → va_D A (mdW cI h b wk past_1 er bf tk sv_1 hs) → va_S A s.heap H locs → lv_has ls 8 [(7, .int (nI (i_))), (6, .int (nI (q_))), (5, .int (nI (le w (4 * i + l_)))), (4, .int (nI ((4 * i) + l_))), (0, .ref (h)), (1, .int (nI (i))), (2, .int (nI (l_))), (3, .int (nI (q_)))] → W p l e ({ frames := 3, cells := 0, slots := 0, locals := 65 } : Room) s m args below meth c H locs 0 0 Q (F0 m 66 ls []) := by
          intro fu_66
          induction fu_66 with
          | zero => intro i_ wk H locs ls hmu_66; exact absurd hmu_66 (Nat.not_lt_zero _)
          | succ fu_66 ih_66 =>
            intro i_ wk H locs ls hmu_66 hi_ hwk hP hD hS hl
            have hnL : q_ ≤ le w (4 * i + l_) := by omega
            have hWk : WF c0 wk := by rw [hwk]; exact dlvN_ok hW hc i_ (msg_all hW hc hv (by omega))
            have hml9 := msg_lt hW hc hv (n := i_) (by omega)
            refine lv_iload hx hb dX3_acknowledge_66 (lv_at hl 0 rfl) ?_
            refine lv_iload hx hb dX3_acknowledge_68 (lv_at hl 1 rfl) ?_
            refine n_icmp_ge (tgt := 99) hx hb dX3_acknowledge_70 (by decide) (by omega) (by omega) (fun c_70 => ?_) (fun c_70 => ?_)
            · refine lv_iload hx hb dX3_acknowledge_99 (lv_at hl 1 rfl) ?_
              refine lv_istore (lv' := [(7, .int (nI (q_))), (6, .int (nI (q_))), (5, .int (nI (le w (4 * i + l_)))), (4, .int (nI ((4 * i) + l_))), (0, .ref (h)), (1, .int (nI (i))), (2, .int (nI (l_))), (3, .int (nI (q_)))]) hx hb dX3_acknowledge_101 hl (by decide) rfl (fun ls hl => ?_)
              have lp_103 : ∀ (fu_103 : Nat) (j_ : Nat) (wj : Nat → Int32) (H : Heap) (locs : List Loc) (ls : Array Slot), le w (4 * i + l_) - j_ < fu_103 → (q_ ≤ j_) → (j_ ≤ le w (4 * i + l_)) → (wj = (shR (dlvN w (msg w (4 * i + l_)) q_) (4 * i + l_) q_ (j_ - q_))) → va_P D vwCl (mdW cI h b wj past_1 er bf tk sv_1 hs) H → va_D A (mdW cI h b wj past_1 er bf tk sv_1 hs) → va_S A s.heap H locs → lv_has ls 8 [(7, .int (nI (j_))), (6, .int (nI (q_))), (5, .int (nI (le w (4 * i + l_)))), (4, .int (nI ((4 * i) + l_))), (0, .ref (h)), (1, .int (nI (i))), (2, .int (nI (l_))), (3, .int (nI (q_)))] → W p l e ({ frames := 3, cells := 0, slots := 0, locals := 65 } : Room) s m args below meth c H locs 0 0 Q (F0 m 103 ls []) := by
                intro fu_103
                induction fu_103 with
                | zero => intro j_ wj H locs ls hmu_103; exact absurd hmu_103 (Nat.not_lt_zero _)
                | succ fu_103 ih_103 =>
                  intro j_ wj H locs ls hmu_103 hj1 hj2 hwj hP hD hS hl
                  have hml8 := msg_lt hW hc hv (n := q_) hnL
                  refine lv_iload hx hb dX3_acknowledge_103 (lv_at hl 0 rfl) ?_
                  refine lv_iload hx hb dX3_acknowledge_105 (lv_at hl 2 rfl) ?_
                  refine n_icmp_ge (tgt := 151) hx hb dX3_acknowledge_107 (by decide) (by omega) (by omega) (fun c_107 => ?_) (fun c_107 => ?_)
                  · refine lv_aload_n hx hb dX3_acknowledge_151 rfl (lv_at hl 4 rfl) ?_
                    refine gt3 hx hb hts hown hC.1 hP 0 rfl 0 (by decide) qw456 rfl dX3_acknowledge_152 ?_
                    refine lv_bipush (v := (nI (21))) hx hb dX3_acknowledge_155 (by decide) ?_
                    refine lv_iload hx hb dX3_acknowledge_157 (lv_at hl 3 rfl) ?_
                    refine n_iadd hx hb dX3_acknowledge_159  ?_
                    refine lv_dup2_11 hx hb dX3_acknowledge_160 rfl rfl ?_
                    refine n_iald hx hb hC.1 hP 1 0 rfl rfl (by omega) (by decide) dX3_acknowledge_161 ?_
                    refine w_cv (y := (nI (le w (4 * i + l_)))) (by rw [hwj, shR_ne _ (by omega), dlvN_ne (by omega) _ hml8]; exact (hW.l _ hv).1) ?_
                    refine lv_iload hx hb dX3_acknowledge_162 (lv_at hl 1 rfl) ?_
                    refine n_isub hx hb dX3_acknowledge_164 (by omega) ?_
                    refine n_iast hx hb hC.1 hP hD hS 1 0 rfl rfl (by omega) (by decide) dX3_acknowledge_165 (fun H locs hP hD hS => ?_)
                    obtain ⟨w_1, hw_1⟩ : ∃ z : Nat → Int32, z = upd wj (21 + ((4 * i) + l_)) (nI ((le w (4 * i + l_)) - q_)) := ⟨_, rfl⟩
                    replace hP : va_P D vwCl (mdW cI h b w_1 past_1 er bf tk sv_1 hs) H := by rw [hw_1]; exact hP
                    replace hD : va_D A (mdW cI h b w_1 past_1 er bf tk sv_1 hs) := by rw [hw_1]; exact hD
                    refine lv_iload hx hb dX3_acknowledge_166 (lv_at hl 1 rfl) ?_
                    exact hret _ (w_1, past_1, er, bf, tk, sv_1, hs) _ ls _ _ (⟨(congrArg Prod.fst hop).symm, nxM_1 hop (by unfold ackR; rw [hw_1, hwj, show j_ = le w (4 * i + l_) by omega]) h_27⟩) hP hD hS dX3_acknowledge_168
                  · refine lv_aload_n hx hb dX3_acknowledge_110 rfl (lv_at hl 4 rfl) ?_
                    refine gt3 hx hb hts hown hC.1 hP 0 rfl 0 (by decide) qw456 rfl dX3_acknowledge_111 ?_
                    refine lv_bipush (v := (nI (37))) hx hb dX3_acknowledge_114 (by decide) ?_
                    refine lv_bipush (v := (nI (10))) hx hb dX3_acknowledge_116 (by decide) ?_
                    refine lv_iload hx hb dX3_acknowledge_118 (lv_at hl 3 rfl) ?_
                    refine n_imul hx hb dX3_acknowledge_120  ?_
                    refine n_iadd hx hb dX3_acknowledge_121  ?_
                    refine lv_iload hx hb dX3_acknowledge_122 (lv_at hl 0 rfl) ?_
                    refine n_iadd hx hb dX3_acknowledge_124  ?_
                    refine lv_iload hx hb dX3_acknowledge_125 (lv_at hl 1 rfl) ?_
                    refine n_isub hx hb dX3_acknowledge_127 (by omega) ?_
                    refine lv_aload_n hx hb dX3_acknowledge_128 rfl (lv_at hl 4 rfl) ?_
                    refine gt3 hx hb hts hown hC.1 hP 0 rfl 0 (by decide) qw456 rfl dX3_acknowledge_129 ?_
                    refine lv_bipush (v := (nI (37))) hx hb dX3_acknowledge_132 (by decide) ?_
                    refine lv_bipush (v := (nI (10))) hx hb dX3_acknowledge_134 (by decide) ?_
                    refine lv_iload hx hb dX3_acknowledge_136 (lv_at hl 3 rfl) ?_
                    refine n_imul hx hb dX3_acknowledge_138  ?_
                    refine n_iadd hx hb dX3_acknowledge_139  ?_
                    refine lv_iload hx hb dX3_acknowledge_140 (lv_at hl 0 rfl) ?_
                    refine n_iadd hx hb dX3_acknowledge_142  ?_
                    refine n_iald hx hb hC.1 hP 1 0 rfl rfl (by omega) (by decide) dX3_acknowledge_143 ?_
                    refine n_iast hx hb hC.1 hP hD hS 1 0 rfl rfl (by omega) (by decide) dX3_acknowledge_144 (fun H locs hP hD hS => ?_)
                    obtain ⟨w_2, hw_2⟩ : ∃ z : Nat → Int32, z = upd wj (((37 + (10 * ((4 * i) + l_))) + j_) - q_) (wj ((37 + (10 * ((4 * i) + l_))) + j_)) := ⟨_, rfl⟩
                    replace hP : va_P D vwCl (mdW cI h b w_2 past_1 er bf tk sv_1 hs) H := by rw [hw_2]; exact hP
                    replace hD : va_D A (mdW cI h b w_2 past_1 er bf tk sv_1 hs) := by rw [hw_2]; exact hD
                    refine n_iinc (a := j_) (b := 1) (lv' := [(7, .int (nI (j_ + 1))), (6, .int (nI (q_))), (5, .int (nI (le w (4 * i + l_)))), (4, .int (nI ((4 * i) + l_))), (0, .ref (h)), (1, .int (nI (i))), (2, .int (nI (l_))), (3, .int (nI (q_)))]) hx hb dX3_acknowledge_145 hl (k := 0) rfl rfl (by decide) rfl (fun ls hl => ?_)
                    refine lv_goto (tgt := 103) hx hb dX3_acknowledge_148 (by decide) ?_
                    exact ih_103 (j_ + 1) (w_2) _ _ ls (by omega) (by omega) (by omega) (by rw [hw_2, hwj, show j_ + 1 - q_ = (j_ - q_) + 1 by omega, show 37 + 10 * (4 * i + l_) + j_ - q_ = 37 + 10 * (4 * i + l_) + (j_ - q_) by omega]; show _ = upd (shR (dlvN w (msg w (4 * i + l_)) q_) (4 * i + l_) q_ (j_ - q_)) (37 + 10 * (4 * i + l_) + (j_ - q_)) ((shR (dlvN w (msg w (4 * i + l_)) q_) (4 * i + l_) q_ (j_ - q_)) (37 + 10 * (4 * i + l_) + (q_ + (j_ - q_)))); rw [show q_ + (j_ - q_) = j_ by omega]) hP hD hS (lv_sub hl [0, 1, 2, 3, 4, 5, 6, 7] rfl)
              exact lp_103 _ (q_) (wk) _ _ ls (Nat.lt_succ_self _) (Nat.le_refl _) (hnL) (by rw [Nat.sub_self, hwk, show i_ = q_ by omega]; rfl) hP hD hS (lv_sub hl [0, 1, 2, 3, 4, 5, 6, 7] rfl)
            · obtain ⟨b_, kk, hb0, hkk, hx_, hms⟩ := msg_ok hW hc hv (i := i_) (by omega)
              refine lv_aload_n hx hb dX3_acknowledge_73 rfl (lv_at hl 4 rfl) ?_
              refine lv_aload_n hx hb dX3_acknowledge_74 rfl (lv_at hl 4 rfl) ?_
              refine gt3 hx hb hts hown hC.1 hP 0 rfl 0 (by decide) qw456 rfl dX3_acknowledge_75 ?_
              refine lv_bipush (v := (nI (37))) hx hb dX3_acknowledge_78 (by decide) ?_
              refine lv_bipush (v := (nI (10))) hx hb dX3_acknowledge_80 (by decide) ?_
              refine lv_iload hx hb dX3_acknowledge_82 (lv_at hl 3 rfl) ?_
              refine n_imul hx hb dX3_acknowledge_84  ?_
              refine n_iadd hx hb dX3_acknowledge_85  ?_
              refine lv_iload hx hb dX3_acknowledge_86 (lv_at hl 0 rfl) ?_
              refine n_iadd hx hb dX3_acknowledge_88  ?_
              refine n_iald hx hb hC.1 hP 1 0 rfl rfl (by omega) (by decide) dX3_acknowledge_89 ?_
              refine w_cv (y := (nI (128 * b_ + kk))) (by rw [hwk, dlvN_ne (by omega) _ hml9]; exact hx_) ?_
              refine goWv (pre := []) (wc := mdW cI h b wk past_1 er bf tk sv_1 hs) (suf := []) (kV (As := [.int (nI (128 * b_ + kk))]) (rest := []) F (c_X3_delivers l D cI cO _ h b wk past_1 er bf tk sv_1 hs c0 hWk (b_) (kk) hc (by rw [show sn wk = sn w from by unfold sn; rw [hwk, dlvN_ne (by omega) _ hml9]]; exact hb0) hkk) ywX3_delivers qw548 qw550 qs44 ⟨rfl, rfl⟩ ⟨Nat.le_of_ble_eq_true rfl, Nat.le_of_ble_eq_true rfl⟩ (preV (preW hP hC hD) hC hP (ci := 3) (q0 := 0) rfl rfl rfl) rfl hl.1 rfl (Nat.le_of_ble_eq_true rfl) dX3_acknowledge_90 ⟨Nat.zero_le _, Nat.zero_le _⟩) (by simpa only [List.append_assoc, List.nil_append, List.append_nil] using hP) (by simpa only [List.append_assoc, List.nil_append, List.append_nil] using hD) hS hA (fun w_3 H locs h_90 hP hD hS => ?_)
              replace hP : va_P D vwCl (mdW cI h b w_3 past_1 er bf tk sv_1 hs) H := by simpa only [List.append_assoc, List.nil_append, List.append_nil] using hP
              replace hD : va_D A (mdW cI h b w_3 past_1 er bf tk sv_1 hs) := by simpa only [List.append_assoc, List.nil_append, List.append_nil] using hD
              refine n_iinc (a := i_) (b := 1) (lv' := [(7, .int (nI (i_ + 1))), (6, .int (nI (q_))), (5, .int (nI (le w (4 * i + l_)))), (4, .int (nI ((4 * i) + l_))), (0, .ref (h)), (1, .int (nI (i))), (2, .int (nI (l_))), (3, .int (nI (q_)))]) hx hb dX3_acknowledge_93 hl (k := 0) rfl rfl (by decide) rfl (fun ls hl => ?_)
              refine lv_goto (tgt := 66) hx hb dX3_acknowledge_96 (by decide) ?_
              exact ih_66 (i_ + 1) (w_3) _ _ ls (by omega) (by omega) (by rw [h_90, hwk]; show dlv _ _ = dlv _ (msg w (4 * i + l_) i_); rw [hms]) hP hD hS (lv_sub hl [0, 1, 2, 3, 4, 5, 6, 7] rfl)
        exact lp_66 _ (0) (w) _ _ ls (Nat.lt_succ_self _) (Nat.zero_le _) (rfl) hP hD hS (lv_sub hl [0, 1, 2, 3, 4, 5, 6, 7] rfl)
      · have hop := hop0
        rw [Nat.min_eq_right (by omega)] at hop
        refine lv_iload hx hb dX3_acknowledge_55 (lv_at hl 0 rfl) ?_
        refine lv_goto (tgt := 61) hx hb dX3_acknowledge_57 (by decide) ?_
        refine lv_istore (lv' := [(6, .int (nI (le w (4 * i + l_)))), (5, .int (nI (le w (4 * i + l_)))), (4, .int (nI ((4 * i) + l_))), (0, .ref (h)), (1, .int (nI (i))), (2, .int (nI (l_))), (3, .int (nI (q_)))]) hx hb dX3_acknowledge_61 hl (by decide) rfl (fun ls hl => ?_)
        refine lv_iconst (v := (nI (0))) hx hb dX3_acknowledge_63 (by decide) ?_
        refine lv_istore (lv' := [(7, .int (nI (0))), (6, .int (nI (le w (4 * i + l_)))), (5, .int (nI (le w (4 * i + l_)))), (4, .int (nI ((4 * i) + l_))), (0, .ref (h)), (1, .int (nI (i))), (2, .int (nI (l_))), (3, .int (nI (q_)))]) hx hb dX3_acknowledge_64 hl (by decide) rfl (fun ls hl => ?_)
        have lp_66 : ∀ (fu_66 : Nat) (i_ : Nat) (wk : Nat → Int32) (H : Heap) (locs : List Loc) (ls : Array Slot), (le w (4 * i + l_)) - i_ < fu_66 → (i_ ≤ (le w (4 * i + l_))) → (wk = dlvN w (msg w (4 * i + l_)) i_) → va_P D vwCl (mdW cI h b wk past_1 er bf tk sv_1 hs) H → va_D A (mdW cI h b wk past_1 er bf tk sv_1 hs) → va_S A s.heap H locs → lv_has ls 8 [(7, .int (nI (i_))), (6, .int (nI (le w (4 * i + l_)))), (5, .int (nI (le w (4 * i + l_)))), (4, .int (nI ((4 * i) + l_))), (0, .ref (h)), (1, .int (nI (i))), (2, .int (nI (l_))), (3, .int (nI (q_)))] → W p l e ({ frames := 3, cells := 0, slots := 0, locals := 65 } : Room) s m args below meth c H locs 0 0 Q (F0 m 66 ls []) := by
          intro fu_66
          induction fu_66 with
          | zero => intro i_ wk H locs ls hmu_66; exact absurd hmu_66 (Nat.not_lt_zero _)
          | succ fu_66 ih_66 =>
            intro i_ wk H locs ls hmu_66 hi_ hwk hP hD hS hl
            have hnL : (le w (4 * i + l_)) ≤ le w (4 * i + l_) := by omega
            have hWk : WF c0 wk := by rw [hwk]; exact dlvN_ok hW hc i_ (msg_all hW hc hv (by omega))
            have hml9 := msg_lt hW hc hv (n := i_) (by omega)
            refine lv_iload hx hb dX3_acknowledge_66 (lv_at hl 0 rfl) ?_
            refine lv_iload hx hb dX3_acknowledge_68 (lv_at hl 1 rfl) ?_
            refine n_icmp_ge (tgt := 99) hx hb dX3_acknowledge_70 (by decide) (by omega) (by omega) (fun c_70 => ?_) (fun c_70 => ?_)
            · refine lv_iload hx hb dX3_acknowledge_99 (lv_at hl 1 rfl) ?_
              refine lv_istore (lv' := [(7, .int (nI (le w (4 * i + l_)))), (6, .int (nI (le w (4 * i + l_)))), (5, .int (nI (le w (4 * i + l_)))), (4, .int (nI ((4 * i) + l_))), (0, .ref (h)), (1, .int (nI (i))), (2, .int (nI (l_))), (3, .int (nI (q_)))]) hx hb dX3_acknowledge_101 hl (by decide) rfl (fun ls hl => ?_)
              have lp_103 : ∀ (fu_103 : Nat) (j_ : Nat) (wj : Nat → Int32) (H : Heap) (locs : List Loc) (ls : Array Slot), le w (4 * i + l_) - j_ < fu_103 → ((le w (4 * i + l_)) ≤ j_) → (j_ ≤ le w (4 * i + l_)) → (wj = (shR (dlvN w (msg w (4 * i + l_)) (le w (4 * i + l_))) (4 * i + l_) (le w (4 * i + l_)) (j_ - (le w (4 * i + l_))))) → va_P D vwCl (mdW cI h b wj past_1 er bf tk sv_1 hs) H → va_D A (mdW cI h b wj past_1 er bf tk sv_1 hs) → va_S A s.heap H locs → lv_has ls 8 [(7, .int (nI (j_))), (6, .int (nI (le w (4 * i + l_)))), (5, .int (nI (le w (4 * i + l_)))), (4, .int (nI ((4 * i) + l_))), (0, .ref (h)), (1, .int (nI (i))), (2, .int (nI (l_))), (3, .int (nI (q_)))] → W p l e ({ frames := 3, cells := 0, slots := 0, locals := 65 } : Room) s m args below meth c H locs 0 0 Q (F0 m 103 ls []) := by
                intro fu_103
                induction fu_103 with
                | zero => intro j_ wj H locs ls hmu_103; exact absurd hmu_103 (Nat.not_lt_zero _)
                | succ fu_103 ih_103 =>
                  intro j_ wj H locs ls hmu_103 hj1 hj2 hwj hP hD hS hl
                  have hml8 := msg_lt hW hc hv (n := (le w (4 * i + l_))) hnL
                  refine lv_iload hx hb dX3_acknowledge_103 (lv_at hl 0 rfl) ?_
                  refine lv_iload hx hb dX3_acknowledge_105 (lv_at hl 2 rfl) ?_
                  refine n_icmp_ge (tgt := 151) hx hb dX3_acknowledge_107 (by decide) (by omega) (by omega) (fun c_107 => ?_) (fun c_107 => ?_)
                  · refine lv_aload_n hx hb dX3_acknowledge_151 rfl (lv_at hl 4 rfl) ?_
                    refine gt3 hx hb hts hown hC.1 hP 0 rfl 0 (by decide) qw456 rfl dX3_acknowledge_152 ?_
                    refine lv_bipush (v := (nI (21))) hx hb dX3_acknowledge_155 (by decide) ?_
                    refine lv_iload hx hb dX3_acknowledge_157 (lv_at hl 3 rfl) ?_
                    refine n_iadd hx hb dX3_acknowledge_159  ?_
                    refine lv_dup2_11 hx hb dX3_acknowledge_160 rfl rfl ?_
                    refine n_iald hx hb hC.1 hP 1 0 rfl rfl (by omega) (by decide) dX3_acknowledge_161 ?_
                    refine w_cv (y := (nI (le w (4 * i + l_)))) (by rw [hwj, shR_ne _ (by omega), dlvN_ne (by omega) _ hml8]; exact (hW.l _ hv).1) ?_
                    refine lv_iload hx hb dX3_acknowledge_162 (lv_at hl 1 rfl) ?_
                    refine n_isub hx hb dX3_acknowledge_164 (by omega) ?_
                    refine n_iast hx hb hC.1 hP hD hS 1 0 rfl rfl (by omega) (by decide) dX3_acknowledge_165 (fun H locs hP hD hS => ?_)
                    obtain ⟨w_4, hw_4⟩ : ∃ z : Nat → Int32, z = upd wj (21 + ((4 * i) + l_)) (nI ((le w (4 * i + l_)) - (le w (4 * i + l_)))) := ⟨_, rfl⟩
                    replace hP : va_P D vwCl (mdW cI h b w_4 past_1 er bf tk sv_1 hs) H := by rw [hw_4]; exact hP
                    replace hD : va_D A (mdW cI h b w_4 past_1 er bf tk sv_1 hs) := by rw [hw_4]; exact hD
                    refine lv_iload hx hb dX3_acknowledge_166 (lv_at hl 1 rfl) ?_
                    exact hret _ (w_4, past_1, er, bf, tk, sv_1, hs) _ ls _ _ (⟨(congrArg Prod.fst hop).symm, nxM_1 hop (by unfold ackR; rw [hw_4, hwj, show j_ = le w (4 * i + l_) by omega]) h_27⟩) hP hD hS dX3_acknowledge_168
                  · refine lv_aload_n hx hb dX3_acknowledge_110 rfl (lv_at hl 4 rfl) ?_
                    refine gt3 hx hb hts hown hC.1 hP 0 rfl 0 (by decide) qw456 rfl dX3_acknowledge_111 ?_
                    refine lv_bipush (v := (nI (37))) hx hb dX3_acknowledge_114 (by decide) ?_
                    refine lv_bipush (v := (nI (10))) hx hb dX3_acknowledge_116 (by decide) ?_
                    refine lv_iload hx hb dX3_acknowledge_118 (lv_at hl 3 rfl) ?_
                    refine n_imul hx hb dX3_acknowledge_120  ?_
                    refine n_iadd hx hb dX3_acknowledge_121  ?_
                    refine lv_iload hx hb dX3_acknowledge_122 (lv_at hl 0 rfl) ?_
                    refine n_iadd hx hb dX3_acknowledge_124  ?_
                    refine lv_iload hx hb dX3_acknowledge_125 (lv_at hl 1 rfl) ?_
                    refine n_isub hx hb dX3_acknowledge_127 (by omega) ?_
                    refine lv_aload_n hx hb dX3_acknowledge_128 rfl (lv_at hl 4 rfl) ?_
                    refine gt3 hx hb hts hown hC.1 hP 0 rfl 0 (by decide) qw456 rfl dX3_acknowledge_129 ?_
                    refine lv_bipush (v := (nI (37))) hx hb dX3_acknowledge_132 (by decide) ?_
                    refine lv_bipush (v := (nI (10))) hx hb dX3_acknowledge_134 (by decide) ?_
                    refine lv_iload hx hb dX3_acknowledge_136 (lv_at hl 3 rfl) ?_
                    refine n_imul hx hb dX3_acknowledge_138  ?_
                    refine n_iadd hx hb dX3_acknowledge_139  ?_
                    refine lv_iload hx hb dX3_acknowledge_140 (lv_at hl 0 rfl) ?_
                    refine n_iadd hx hb dX3_acknowledge_142  ?_
                    refine n_iald hx hb hC.1 hP 1 0 rfl rfl (by omega) (by decide) dX3_acknowledge_143 ?_
                    refine n_iast hx hb hC.1 hP hD hS 1 0 rfl rfl (by omega) (by decide) dX3_acknowledge_144 (fun H locs hP hD hS => ?_)
                    obtain ⟨w_5, hw_5⟩ : ∃ z : Nat → Int32, z = upd wj (((37 + (10 * ((4 * i) + l_))) + j_) - (le w (4 * i + l_))) (wj ((37 + (10 * ((4 * i) + l_))) + j_)) := ⟨_, rfl⟩
                    replace hP : va_P D vwCl (mdW cI h b w_5 past_1 er bf tk sv_1 hs) H := by rw [hw_5]; exact hP
                    replace hD : va_D A (mdW cI h b w_5 past_1 er bf tk sv_1 hs) := by rw [hw_5]; exact hD
                    refine n_iinc (a := j_) (b := 1) (lv' := [(7, .int (nI (j_ + 1))), (6, .int (nI (le w (4 * i + l_)))), (5, .int (nI (le w (4 * i + l_)))), (4, .int (nI ((4 * i) + l_))), (0, .ref (h)), (1, .int (nI (i))), (2, .int (nI (l_))), (3, .int (nI (q_)))]) hx hb dX3_acknowledge_145 hl (k := 0) rfl rfl (by decide) rfl (fun ls hl => ?_)
                    refine lv_goto (tgt := 103) hx hb dX3_acknowledge_148 (by decide) ?_
                    exact ih_103 (j_ + 1) (w_5) _ _ ls (by omega) (by omega) (by omega) (by rw [hw_5, hwj, show j_ + 1 - (le w (4 * i + l_)) = (j_ - (le w (4 * i + l_))) + 1 by omega, show 37 + 10 * (4 * i + l_) + j_ - (le w (4 * i + l_)) = 37 + 10 * (4 * i + l_) + (j_ - (le w (4 * i + l_))) by omega]; show _ = upd (shR (dlvN w (msg w (4 * i + l_)) (le w (4 * i + l_))) (4 * i + l_) (le w (4 * i + l_)) (j_ - (le w (4 * i + l_)))) (37 + 10 * (4 * i + l_) + (j_ - (le w (4 * i + l_)))) ((shR (dlvN w (msg w (4 * i + l_)) (le w (4 * i + l_))) (4 * i + l_) (le w (4 * i + l_)) (j_ - (le w (4 * i + l_)))) (37 + 10 * (4 * i + l_) + ((le w (4 * i + l_)) + (j_ - (le w (4 * i + l_)))))); rw [show (le w (4 * i + l_)) + (j_ - (le w (4 * i + l_))) = j_ by omega]) hP hD hS (lv_sub hl [0, 1, 2, 3, 4, 5, 6, 7] rfl)
              exact lp_103 _ (le w (4 * i + l_)) (wk) _ _ ls (Nat.lt_succ_self _) (Nat.le_refl _) (hnL) (by rw [Nat.sub_self, hwk, show i_ = (le w (4 * i + l_)) by omega]; rfl) hP hD hS (lv_sub hl [0, 1, 2, 3, 4, 5, 6, 7] rfl)
            · obtain ⟨b_, kk, hb0, hkk, hx_, hms⟩ := msg_ok hW hc hv (i := i_) (by omega)
              refine lv_aload_n hx hb dX3_acknowledge_73 rfl (lv_at hl 4 rfl) ?_
              refine lv_aload_n hx hb dX3_acknowledge_74 rfl (lv_at hl 4 rfl) ?_
              refine gt3 hx hb hts hown hC.1 hP 0 rfl 0 (by decide) qw456 rfl dX3_acknowledge_75 ?_
              refine lv_bipush (v := (nI (37))) hx hb dX3_acknowledge_78 (by decide) ?_
              refine lv_bipush (v := (nI (10))) hx hb dX3_acknowledge_80 (by decide) ?_
              refine lv_iload hx hb dX3_acknowledge_82 (lv_at hl 3 rfl) ?_
              refine n_imul hx hb dX3_acknowledge_84  ?_
              refine n_iadd hx hb dX3_acknowledge_85  ?_
              refine lv_iload hx hb dX3_acknowledge_86 (lv_at hl 0 rfl) ?_
              refine n_iadd hx hb dX3_acknowledge_88  ?_
              refine n_iald hx hb hC.1 hP 1 0 rfl rfl (by omega) (by decide) dX3_acknowledge_89 ?_
              refine w_cv (y := (nI (128 * b_ + kk))) (by rw [hwk, dlvN_ne (by omega) _ hml9]; exact hx_) ?_
              refine goWv (pre := []) (wc := mdW cI h b wk past_1 er bf tk sv_1 hs) (suf := []) (kV (As := [.int (nI (128 * b_ + kk))]) (rest := []) F (c_X3_delivers l D cI cO _ h b wk past_1 er bf tk sv_1 hs c0 hWk (b_) (kk) hc (by rw [show sn wk = sn w from by unfold sn; rw [hwk, dlvN_ne (by omega) _ hml9]]; exact hb0) hkk) ywX3_delivers qw548 qw550 qs44 ⟨rfl, rfl⟩ ⟨Nat.le_of_ble_eq_true rfl, Nat.le_of_ble_eq_true rfl⟩ (preV (preW hP hC hD) hC hP (ci := 3) (q0 := 0) rfl rfl rfl) rfl hl.1 rfl (Nat.le_of_ble_eq_true rfl) dX3_acknowledge_90 ⟨Nat.zero_le _, Nat.zero_le _⟩) (by simpa only [List.append_assoc, List.nil_append, List.append_nil] using hP) (by simpa only [List.append_assoc, List.nil_append, List.append_nil] using hD) hS hA (fun w_6 H locs h_90 hP hD hS => ?_)
              replace hP : va_P D vwCl (mdW cI h b w_6 past_1 er bf tk sv_1 hs) H := by simpa only [List.append_assoc, List.nil_append, List.append_nil] using hP
              replace hD : va_D A (mdW cI h b w_6 past_1 er bf tk sv_1 hs) := by simpa only [List.append_assoc, List.nil_append, List.append_nil] using hD
              refine n_iinc (a := i_) (b := 1) (lv' := [(7, .int (nI (i_ + 1))), (6, .int (nI (le w (4 * i + l_)))), (5, .int (nI (le w (4 * i + l_)))), (4, .int (nI ((4 * i) + l_))), (0, .ref (h)), (1, .int (nI (i))), (2, .int (nI (l_))), (3, .int (nI (q_)))]) hx hb dX3_acknowledge_93 hl (k := 0) rfl rfl (by decide) rfl (fun ls hl => ?_)
              refine lv_goto (tgt := 66) hx hb dX3_acknowledge_96 (by decide) ?_
              exact ih_66 (i_ + 1) (w_6) _ _ ls (by omega) (by omega) (by rw [h_90, hwk]; show dlv _ _ = dlv _ (msg w (4 * i + l_) i_); rw [hms]) hP hD hS (lv_sub hl [0, 1, 2, 3, 4, 5, 6, 7] rfl)
        exact lp_66 _ (0) (w) _ _ ls (Nat.lt_succ_self _) (Nat.zero_le _) (rfl) hP hD hS (lv_sub hl [0, 1, 2, 3, 4, 5, 6, 7] rfl)
    · have hop : oAck w (nI i) (nI l_) z = (-2, 2, w) := itc_f (fun q => h_13 q.2)
      refine n_if_ne (tgt := 26) hx hb dX3_acknowledge_16 (by decide) (by omega) (fun h => absurd h (by decide)) (fun _ => ?_)
      refine lv_aload_n hx hb dX3_acknowledge_19 rfl (lv_at hl 0 rfl) ?_
      refine lv_bipush (v := (-2)) hx hb dX3_acknowledge_20 (by decide) ?_
      refine goWi (pre := []) (wc := mdW cI h b w past er bf tk sv hs) (suf := []) (kV (As := [.int (-2)]) (rest := []) F (c_X3_fails l D cI cO _ h b w past er bf tk sv hs c0 hW 0 (by decide)) ywX3_fails qw482 qw484 qs33 ⟨rfl, rfl⟩ ⟨Nat.le_of_ble_eq_true rfl, Nat.le_of_ble_eq_true rfl⟩ (preV (preW hP hC hD) hC hP (ci := 3) (q0 := 0) rfl rfl rfl) rfl hl.1 rfl (Nat.le_of_ble_eq_true rfl) dX3_acknowledge_22 ⟨Nat.zero_le _, Nat.zero_le _⟩) (by simpa only [List.append_assoc, List.nil_append, List.append_nil] using hP) (by simpa only [List.append_assoc, List.nil_append, List.append_nil] using hD) hS hA (fun r_22 er_1 H locs h_22 hP hD hS => ?_)
      replace hP : va_P D vwCl (mdW cI h b w past er_1 bf tk sv hs) H := by simpa only [List.append_assoc, List.nil_append, List.append_nil] using hP
      replace hD : va_D A (mdW cI h b w past er_1 bf tk sv hs) := by simpa only [List.append_assoc, List.nil_append, List.append_nil] using hD
      obtain ⟨h_22, k_22⟩ := h_22
      subst h_22
      exact hret _ (w, past, er_1, bf, tk, sv, hs) _ ls _ _ (⟨(congrArg Prod.fst hop).symm, nxM_e (e := 0) hop k_22 hsv⟩) hP hD hS dX3_acknowledge_25
  · have hop : oAck w x y z = (-2, 2, w) := itc_f (fun q => h_3 q.1)
    refine n_if_eq (tgt := 19) hx hb dX3_acknowledge_6 (by decide) (by omega) (fun _ => ?_) (fun h => absurd h (by decide))
    refine lv_aload_n hx hb dX3_acknowledge_19 rfl (lv_at hl 0 rfl) ?_
    refine lv_bipush (v := (-2)) hx hb dX3_acknowledge_20 (by decide) ?_
    refine goWi (pre := []) (wc := mdW cI h b w past er bf tk sv hs) (suf := []) (kV (As := [.int (-2)]) (rest := []) F (c_X3_fails l D cI cO _ h b w past er bf tk sv hs c0 hW 0 (by decide)) ywX3_fails qw482 qw484 qs33 ⟨rfl, rfl⟩ ⟨Nat.le_of_ble_eq_true rfl, Nat.le_of_ble_eq_true rfl⟩ (preV (preW hP hC hD) hC hP (ci := 3) (q0 := 0) rfl rfl rfl) rfl hl.1 rfl (Nat.le_of_ble_eq_true rfl) dX3_acknowledge_22 ⟨Nat.zero_le _, Nat.zero_le _⟩) (by simpa only [List.append_assoc, List.nil_append, List.append_nil] using hP) (by simpa only [List.append_assoc, List.nil_append, List.append_nil] using hD) hS hA (fun r_22 er_2 H locs h_22 hP hD hS => ?_)
    replace hP : va_P D vwCl (mdW cI h b w past er_2 bf tk sv hs) H := by simpa only [List.append_assoc, List.nil_append, List.append_nil] using hP
    replace hD : va_D A (mdW cI h b w past er_2 bf tk sv hs) := by simpa only [List.append_assoc, List.nil_append, List.append_nil] using hD
    obtain ⟨h_22, k_22⟩ := h_22
    subst h_22
    exact hret _ (w, past, er_2, bf, tk, sv, hs) _ ls _ _ (⟨(congrArg Prod.fst hop).symm, nxM_e (e := 0) hop k_22 hsv⟩) hP hD hS dX3_acknowledge_25
