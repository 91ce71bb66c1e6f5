/-! an improvement keeps what is accessible accessible -/
theorem bmL_least {lim : Nat} {f : Nat → Nat} : ∀ k i, i < k → (bmL lim f k).1 ≤ f i
  | 0, i, h => absurd h (by omega)
  | k + 1, i, h => by
    have ih := bmL_least (lim := lim) (f := f) k i
    simp only [bmL]
    by_cases h1 : i = k
    · subst h1
      split
      · exact Nat.le_refl _
      · split <;> (show (bmL lim f i).1 ≤ f i) <;> omega
    · have := ih (by omega)
      split
      · show f k ≤ f i; omega
      · split <;> exact this
theorem bmL_ge {lim : Nat} {f : Nat → Nat} : ∀ k, (∀ i, i < k → lim ≤ f i) → (bmL lim f k).1 = lim
  | 0, _ => rfl
  | k + 1, h => by
    have ih := bmL_ge (lim := lim) (f := f) k (fun i hi => h i (by omega))
    have h1 := h k (by omega)
    simp only [bmL]
    rw [if_neg (by omega), if_neg (by omega)]
    exact ih
theorem sb4_le (a b : Nat) : sb4 a b ≤ 3 := by
  unfold sb4
  (repeat' split) <;> omega
theorem acc_mono {w w1 : Nat → Int32} (hn4 : nn w ≤ 4) (hn : nn w1 = nn w) (h : ∀ d, d < 6 → ∀ i, i < 4 → rcd w d i < 99 → rcd w1 d i < 99) (j : Nat) (hj : j < 96) (hne : ¬ lk w j = -1) : ¬ lk w1 j = -1 := by
  have h0 : ¬ rts w (j / 16) = 0 := fun e => hne (by unfold lk lkm; rw [if_pos e])
  have h1 : ¬ ∀ i, i < nn w → 99 ≤ rcd w (j / 16) i := fun q => h0 ((bmL_0 (nn w)).mpr (bmL_ge (nn w) q))
  have h2 : ¬ rts w1 (j / 16) = 0 := fun e => h1 (fun i hi => by
    have h3 := (bmL_0 (lim := 99) (f := rcd w1 (j / 16)) (nn w1)).mp e
    have h4 := bmL_least (lim := 99) (f := rcd w1 (j / 16)) (nn w1) i (by omega)
    rw [h3] at h4
    by_cases h5 : rcd w (j / 16) i < 99
    · have := h (j / 16) (by omega) i (by omega) h5
      omega
    · omega)
  unfold lk lkm
  rw [if_neg h2]
  refine m1_ne ?_
  unfold lko lks
  have a1 := sb4_le (rts w1 (j / 16)) (j % 16 % pc4 (rts w1 (j / 16)))
  generalize sb4 (rts w1 (j / 16)) (j % 16 % pc4 (rts w1 (j / 16))) = t at *
  have a2 := sb4_le (am w1 t) (j % 16 / pc4 (rts w1 (j / 16)) % pc4 (am w1 t))
  omega
theorem acc_on {c : Nat} {w : Nat → Int32} (hW : WF c w) {v : Nat} (hv : v < 16) (j : Nat) (hj : j < 96) (hne : ¬ lk w j = -1) : ¬ lk (upd w (5 + v) (nI 1)) j = -1 := by
  refine acc_mono hW.n.2 (by unfold nn; rw [pk_un (by omega)]) (fun d hd i hi => ?_) j hj hne
  have ha : ∀ t, t < 16 → ac w t ≤ ac (upd w (5 + v) (nI 1)) t := fun t ht => by
    by_cases e : t = v
    · subst e
      have h1 := (hW.a t ht).2
      have h2 : ac (upd w (5 + t) (nI 1)) t = 1 := by unfold ac; rw [upd_eq]; exact nv_nI (by decide)
      omega
    · have h2 : ac (upd w (5 + v) (nI 1)) t = ac w t := by unfold ac; rw [pk_un (by omega)]
      omega
  have h0 := ha (4 * i) (by omega)
  have h1 := ha (4 * i + 1) (by omega)
  have h2 := ha (4 * i + 2) (by omega)
  have h3 := ha (4 * i + 3) (by omega)
  have hm : am w i ≤ am (upd w (5 + v) (nI 1)) i := by unfold am; omega
  have hp : pq (upd w (5 + v) (nI 1)) d i = pq w d i := by unfold pq; rw [pk_un (by omega)]
  unfold rcd
  rw [hp, pk_un (show 197 + 4 * d + i ≠ 5 + v by omega)]
  intro h9
  by_cases e : am w i = 0
  · rw [if_pos e] at h9; omega
  · rw [if_neg e] at h9
    rw [if_neg (by omega)]
    exact h9
theorem acc_st {c : Nat} {w w1 : Nat → Int32} (hW : WF c w) {d0 i0 : Nat} (hoth : ∀ t, t < 245 → t ≠ 197 + 4 * d0 + i0 → t ≠ 221 + 4 * d0 + i0 → w1 t = w t) (hi0 : i0 < 4) (hd0 : d0 < 6) (hs : w1 (197 + 4 * d0 + i0) = nI 0 ∨ w1 (197 + 4 * d0 + i0) = nI 1) (hq : pq w1 d0 i0 ≤ 2) (j : Nat) (hj : j < 96) (hne : ¬ lk w j = -1) : ¬ lk w1 j = -1 := by
  refine acc_mono hW.n.2 (by unfold nn; rw [hoth 0 (by omega) (by omega) (by omega)]) (fun d hd i hi => ?_) j hj hne
  have hm : am w1 i = am w i := by
    unfold am ac
    rw [hoth _ (by omega) (by omega) (by omega), hoth _ (by omega) (by omega) (by omega), hoth _ (by omega) (by omega) (by omega), hoth _ (by omega) (by omega) (by omega)]
  by_cases e : d = d0 ∧ i = i0
  · obtain ⟨rfl, rfl⟩ := e
    intro h9
    unfold rcd at h9 ⊢
    rw [hm]
    by_cases e : am w i = 0
    · rw [if_pos e] at h9; omega
    · rw [if_neg e]
      rcases hs with hs | hs
      · rw [if_pos hs]; omega
      · rw [hs, if_neg (by decide), if_pos rfl]; omega
  · rw [rcd_congr hm (hoth _ (by omega) (by omega) (by omega)) (hoth _ (by omega) (by omega) (by omega))]
    exact id
set_option maxHeartbeats 4000000 in
set_option maxRecDepth 100000 in
theorem c_X2_restoreLink (l : Launch) (D : va_G) (cI cO : ClassId) (sz : Nat) (o us rg : Nat) (g : Nat → Nat) (ga : Nat → Nat → Nat) (h : Nat) (a : Nat → Nat) (lb : Nat) (e0 e1 e2 : Int32) (G : Nat → Nat → Nat → Int32) (S : Nat → Nat → Int32) (B : Nat → Int32) (w : Nat → Int32) (c0 : Nat) (hR : RC c0 S w) (x_ z_ : Nat) (hx4 : x_ < 4) (hz : z_ ≤ 4) (hc9 : c0 < 900) (x y : Int32) : Met l yX2_restoreLink (Cond.code yX2_restoreLink cX2_restoreLink 3 (some .int) :: WL) ({ frames := 5, cells := 0, slots := 0, locals := 113 } : Room) (va_Pc [.ref (o), .int (x), .int (y)] (PW D cI cO ([(o, .inr (2, [.ref (h), .ref (us), .ref (lb), .int e0, .int e1, .int e2]))] ++ (usS cI cO us rg g ga ((nI (x_))) ((nI (z_))) G ++ (stW cI h a S ++ ([(lb, .inl (cI, 96, .inl B))])))) sz)) (va_Qi (fun (r : Int32) (u : CV) => r = (oRest w x y).1 ∧ nxC c0 x_ z_ (e0, e1, e2) G w (oRest w x y) u) (QB D ([(o, .inr (2, [.ref (h), .ref (us), .ref (lb), .int e0, .int e1, .int e2]))] ++ (usS cI cO us rg g ga ((nI (x_))) ((nI (z_))) G ++ (stW cI h a S ++ ([(lb, .inl (cI, 96, .inl B))])))) sz (fun (u : CV) => cvU cI cO o us rg g ga h a lb u)) (va_A ([(o, .inr (2, [.ref (h), .ref (us), .ref (lb), .int e0, .int e1, .int e2]))] ++ (usS cI cO us rg g ga ((nI (x_))) ((nI (z_))) G ++ (stW cI h a S ++ ([(lb, .inl (cI, 96, .inl B))])))) sz)) 0 0 (va_A ([(o, .inr (2, [.ref (h), .ref (us), .ref (lb), .int e0, .int e1, .int e2]))] ++ (usS cI cO us rg g ga ((nI (x_))) ((nI (z_))) G ++ (stW cI h a S ++ ([(lb, .inl (cI, 96, .inl B))])))) sz) := by
  refine wr_int (by decide) (Nat.le_of_ble_eq_true rfl) ?_
  intro p e s m args below meth c Q ls A F hP hC hD hA hret hl
  have hx := F.1
  have hb := F.2.1
  have hml := F.2.2.1
  have hown := F.2.2.2.1
  have hts := F.2.2.2.2
  replace hl : lv_has ls 3 [(0, .ref (o)), (1, .int (x)), (2, .int (y))] := hl
  have hS : va_S A s.heap s.heap [] := va_S.rf
  have hn4 := hR.wf.n.2
  have hc : c0 < 1000 := by omega
  refine lv_aload_n hx hb dX2_restoreLink_0 rfl (lv_at hl 0 rfl) ?_
  refine gt2 hx hb hts hown hC.1 hP 0 rfl 0 (by decide) qw118 rfl dX2_restoreLink_1 ?_
  refine lv_iload_n hx hb dX2_restoreLink_4 rfl (lv_at hl 1 rfl) ?_
  refine lv_iload_n hx hb dX2_restoreLink_5 rfl (lv_at hl 2 rfl) ?_
  refine goR (kVN (As := [.int (x), .int (y)]) (rest := []) F (c_X0_hasLink l D cI cO h a S w c0 hR (x) (y)) ywX0_hasLink (nk6 hC) qw177 qs5 ⟨rfl, rfl⟩ ⟨Nat.le_of_ble_eq_true rfl, Nat.le_of_ble_eq_true rfl⟩ (preV (preR (va_pl0 (va_pr0 (va_pr0 hP))) hC) hC hP (ci := 0) (q0 := 43) rfl rfl rfl) rfl hl.1 rfl (Nat.le_of_ble_eq_true rfl) dX2_restoreLink_6 ⟨Nat.zero_le _, Nat.zero_le _⟩) (fun r_6 h_6 => ?_)
  rcases h_6 with ⟨rfl, h_6⟩ | ⟨rfl, h_6⟩
  · obtain ⟨i, hi, rfl, l_, hl_, rfl⟩ := id h_6
    have hi4 : i < 4 := by omega
    have hm4 := (hR.wf.m i hi4).2
    have hpl : pl (nI i) (nI l_) = 4 * i + l_ := pl_nI (by omega) (by omega)
    have hv : (4 * i + l_) < 16 := by omega
    have hl10 := (hR.wf.l (4 * i + l_) hv).2
    have hVe : i * 4 + l_ = 4 * i + l_ := by omega
    refine n_if_ne (tgt := 17) hx hb dX2_restoreLink_9 (by decide) (by omega) (fun _ => ?_) (fun h => absurd h (by decide))
    refine lv_aload_n hx hb dX2_restoreLink_17 rfl (lv_at hl 0 rfl) ?_
    refine gt2 hx hb hts hown hC.1 hP 0 rfl 0 (by decide) qw118 rfl dX2_restoreLink_18 ?_
    refine lv_iload_n hx hb dX2_restoreLink_21 rfl (lv_at hl 1 rfl) ?_
    refine lv_iload_n hx hb dX2_restoreLink_22 rfl (lv_at hl 2 rfl) ?_
    refine goR (kVN (As := [.int (nI (i)), .int (nI (l_))]) (rest := []) F (c_X0_linkWorks l D cI cO h a S w c0 hR (i) (l_) (by omega) (by omega)) ywX0_linkWorks (nk7 hC) qw185 qs7 ⟨rfl, rfl⟩ ⟨Nat.le_of_ble_eq_true rfl, Nat.le_of_ble_eq_true rfl⟩ (preV (preR (va_pl0 (va_pr0 (va_pr0 hP))) hC) hC hP (ci := 0) (q0 := 43) rfl rfl rfl) rfl hl.1 rfl (Nat.le_of_ble_eq_true rfl) dX2_restoreLink_23 ⟨Nat.zero_le _, Nat.zero_le _⟩) (fun r_23 h_23 => ?_)
    rcases h_23 with ⟨rfl, h_23⟩ | ⟨rfl, h_23⟩
    · have hop : oRest w (nI i) (nI l_) = (-3, 3, w) := by unfold oRest; rw [itc_t h_6, hpl, if_pos (by omega)]; rfl
      refine n_if_eq (tgt := 34) hx hb dX2_restoreLink_26 (by decide) (by omega) (fun h => absurd h (by decide)) (fun _ => ?_)
      refine lv_aload_n hx hb dX2_restoreLink_29 rfl (lv_at hl 0 rfl) ?_
      refine goWi (pre := []) (wc := [(o, .inr (2, [.ref (h), .ref (us), .ref (lb), .int e0, .int e1, .int e2]))]) (suf := usS cI cO us rg g ga ((nI (x_))) ((nI (z_))) G ++ (stW cI h a S ++ ([(lb, .inl (cI, 96, .inl B))]))) (kV (As := []) (rest := []) F (c_X2_rejected l D cI cO _ o h us lb e0 e1 e2) ywX2_rejected qw187 qw189 qs8 ⟨rfl, rfl⟩ ⟨Nat.le_of_ble_eq_true rfl, Nat.le_of_ble_eq_true rfl⟩ (preV (preW (va_pl0 hP) hC (va_dl hD)) hC hP (ci := 2) (q0 := 0) rfl rfl rfl) rfl hl.1 rfl (Nat.le_of_ble_eq_true rfl) dX2_restoreLink_30 ⟨Nat.zero_le _, Nat.zero_le _⟩) (by simpa only [List.append_assoc, List.nil_append, List.append_nil] using hP) (by simpa only [List.append_assoc, List.nil_append, List.append_nil] using hD) hS hA (fun r_30 e_1 H locs h_30 hP hD hS => ?_)
      replace hP : va_P D vwCl ([(o, .inr (2, [.ref (h), .ref (us), .ref (lb), .int e0, .int e_1, .int e2]))] ++ (usS cI cO us rg g ga ((nI (x_))) ((nI (z_))) G ++ (stW cI h a S ++ ([(lb, .inl (cI, 96, .inl B))])))) H := by simpa only [List.append_assoc, List.nil_append, List.append_nil] using hP
      replace hD : va_D A ([(o, .inr (2, [.ref (h), .ref (us), .ref (lb), .int e0, .int e_1, .int e2]))] ++ (usS cI cO us rg g ga ((nI (x_))) ((nI (z_))) G ++ (stW cI h a S ++ ([(lb, .inl (cI, 96, .inl B))])))) := by simpa only [List.append_assoc, List.nil_append, List.append_nil] using hD
      obtain ⟨h_30, k_30⟩ := h_30
      subst h_30
      exact hret _ (((e0, e_1, e2), S, B, (nI (x_)), (nI (z_)), G)) _ ls _ _ (⟨(congrArg Prod.fst hop).symm, nxC_e (e := 1) hop (by rw [k_30]; rfl) hR rfl rfl⟩) hP hD hS dX2_restoreLink_33
    · have hop : oRest w (nI i) (nI l_) = (nI (imp w (upd w (5 + (4 * i + l_)) (nI 1))).2, 1, (imp w (upd w (5 + (4 * i + l_)) (nI 1))).1) := by unfold oRest; rw [itc_t h_6, hpl, if_neg (by omega)]
      refine n_if_eq (tgt := 34) hx hb dX2_restoreLink_26 (by decide) (by omega) (fun _ => ?_) (fun h => absurd h (by decide))
      refine lv_aload_n hx hb dX2_restoreLink_34 rfl (lv_at hl 0 rfl) ?_
      refine gt2 hx hb hts hown hC.1 hP 0 rfl 1 (by decide) qw119 rfl dX2_restoreLink_35 ?_
      refine lv_aload_n hx hb dX2_restoreLink_38 rfl (lv_at hl 0 rfl) ?_
      refine gt2 hx hb hts hown hC.1 hP 0 rfl 0 (by decide) qw118 rfl dX2_restoreLink_39 ?_
      refine goWv (pre := [(o, .inr (2, [.ref (h), .ref (us), .ref (lb), .int e0, .int e1, .int e2]))]) (wc := usS cI cO us rg g ga ((nI (x_))) ((nI (z_))) G ++ (stW cI h a S)) (suf := [(lb, .inl (cI, 96, .inl B))]) (kVN (As := [.ref (h)]) (rest := []) F (c_X1_save l D cI cO _ us rg g ga G ((nI (z_))) h a S x_ hx4 z_ hz rfl) ywX1_save (nk3 hC) qw151 qs2 ⟨rfl, rfl⟩ ⟨Nat.le_of_ble_eq_true rfl, Nat.le_of_ble_eq_true rfl⟩ (preV (preW (va_pl0 (x := usS cI cO us rg g ga ((nI (x_))) ((nI (z_))) G ++ (stW cI h a S)) (y := [(lb, .inl (cI, 96, .inl B))]) (by simpa only [List.append_assoc] using (va_pr0 hP))) hC (va_dl (x := usS cI cO us rg g ga ((nI (x_))) ((nI (z_))) G ++ (stW cI h a S)) (y := [(lb, .inl (cI, 96, .inl B))]) (by simpa only [List.append_assoc] using (va_dr hD)))) hC hP (ci := 1) (q0 := 1) rfl rfl rfl) rfl hl.1 rfl (Nat.le_of_ble_eq_true rfl) dX2_restoreLink_42 ⟨Nat.zero_le _, Nat.zero_le _⟩) (by simpa only [List.append_assoc, List.nil_append, List.append_nil] using hP) (by simpa only [List.append_assoc, List.nil_append, List.append_nil] using hD) hS hA (fun u_1 H locs h_42 hP hD hS => ?_)
      obtain ⟨G_1, nx_1, sz_1⟩ := u_1
      replace hP : va_P D vwCl ([(o, .inr (2, [.ref (h), .ref (us), .ref (lb), .int e0, .int e1, .int e2]))] ++ (usS cI cO us rg g ga nx_1 sz_1 G_1 ++ (stW cI h a S ++ ([(lb, .inl (cI, 96, .inl B))])))) H := by simpa only [List.append_assoc, List.nil_append, List.append_nil] using hP
      replace hD : va_D A ([(o, .inr (2, [.ref (h), .ref (us), .ref (lb), .int e0, .int e1, .int e2]))] ++ (usS cI cO us rg g ga nx_1 sz_1 G_1 ++ (stW cI h a S ++ ([(lb, .inl (cI, 96, .inl B))])))) := by simpa only [List.append_assoc, List.nil_append, List.append_nil] using hD
      refine lv_aload_n hx hb dX2_restoreLink_45 rfl (lv_at hl 0 rfl) ?_
      refine gt2 hx hb hts hown hC.1 hP 0 rfl 0 (by decide) qw118 rfl dX2_restoreLink_46 ?_
      refine lv_aload_n hx hb dX2_restoreLink_49 rfl (lv_at hl 0 rfl) ?_
      refine gt2 hx hb hts hown hC.1 hP 0 rfl 2 (by decide) qw120 rfl dX2_restoreLink_50 ?_
      refine goWv (pre := [(o, .inr (2, [.ref (h), .ref (us), .ref (lb), .int e0, .int e1, .int e2]))] ++ (usS cI cO us rg g ga nx_1 sz_1 G_1)) (wc := stW cI h a S ++ ([(lb, .inl (cI, 96, .inl B))])) (suf := []) (kVN (As := [.ref (lb)]) (rest := []) F (c_X0_listLinks l D cI cO _ h a S w c0 hR lb B) ywX0_listLinks (nk13 hC) qw242 qs15 ⟨rfl, rfl⟩ ⟨Nat.le_of_ble_eq_true rfl, Nat.le_of_ble_eq_true rfl⟩ (preV (preW (va_pr0 (va_pr0 hP)) hC (va_dr (va_dr hD))) hC hP (ci := 0) (q0 := 43) rfl rfl rfl) rfl hl.1 rfl (Nat.le_of_ble_eq_true rfl) dX2_restoreLink_53 ⟨Nat.zero_le _, Nat.zero_le _⟩) (by simpa only [List.append_assoc, List.nil_append, List.append_nil] using hP) (by simpa only [List.append_assoc, List.nil_append, List.append_nil] using hD) hS hA (fun B_1 H locs h_53 hP hD hS => ?_)
      replace hP : va_P D vwCl ([(o, .inr (2, [.ref (h), .ref (us), .ref (lb), .int e0, .int e1, .int e2]))] ++ (usS cI cO us rg g ga nx_1 sz_1 G_1 ++ (stW cI h a S ++ ([(lb, .inl (cI, 96, .inl B_1))])))) H := by simpa only [List.append_assoc, List.nil_append, List.append_nil] using hP
      replace hD : va_D A ([(o, .inr (2, [.ref (h), .ref (us), .ref (lb), .int e0, .int e1, .int e2]))] ++ (usS cI cO us rg g ga nx_1 sz_1 G_1 ++ (stW cI h a S ++ ([(lb, .inl (cI, 96, .inl B_1))])))) := by simpa only [List.append_assoc, List.nil_append, List.append_nil] using hD
      refine lv_aload_n hx hb dX2_restoreLink_56 rfl (lv_at hl 0 rfl) ?_
      refine gt2 hx hb hts hown hC.1 hP 0 rfl 0 (by decide) qw118 rfl dX2_restoreLink_57 ?_
      refine lv_iload_n hx hb dX2_restoreLink_60 rfl (lv_at hl 1 rfl) ?_
      refine lv_iload_n hx hb dX2_restoreLink_61 rfl (lv_at hl 2 rfl) ?_
      refine goWv (pre := [(o, .inr (2, [.ref (h), .ref (us), .ref (lb), .int e0, .int e1, .int e2]))] ++ (usS cI cO us rg g ga nx_1 sz_1 G_1)) (wc := stW cI h a S) (suf := [(lb, .inl (cI, 96, .inl B_1))]) (kVN (As := [.int (nI (i)), .int (nI (l_))]) (rest := []) F (c_X0_activate l D cI cO _ h a S w c0 hR (i) (l_) (by omega) (by omega) h_23) ywX0_activate (nk14 hC) qw246 qs16 ⟨rfl, rfl⟩ ⟨Nat.le_of_ble_eq_true rfl, Nat.le_of_ble_eq_true rfl⟩ (preV (preW (va_pl0 (va_pr0 (va_pr0 hP))) hC (va_dl (va_dr (va_dr hD)))) hC hP (ci := 0) (q0 := 43) rfl rfl rfl) rfl hl.1 rfl (Nat.le_of_ble_eq_true rfl) dX2_restoreLink_62 ⟨Nat.zero_le _, Nat.zero_le _⟩) (by simpa only [List.append_assoc, List.nil_append, List.append_nil] using hP) (by simpa only [List.append_assoc, List.nil_append, List.append_nil] using hD) hS hA (fun T_1 H locs h_62 hP hD hS => ?_)
      replace hP : va_P D vwCl ([(o, .inr (2, [.ref (h), .ref (us), .ref (lb), .int e0, .int e1, .int e2]))] ++ (usS cI cO us rg g ga nx_1 sz_1 G_1 ++ (stW cI h a T_1 ++ ([(lb, .inl (cI, 96, .inl B_1))])))) H := by simpa only [List.append_assoc, List.nil_append, List.append_nil] using hP
      replace hD : va_D A ([(o, .inr (2, [.ref (h), .ref (us), .ref (lb), .int e0, .int e1, .int e2]))] ++ (usS cI cO us rg g ga nx_1 sz_1 G_1 ++ (stW cI h a T_1 ++ ([(lb, .inl (cI, 96, .inl B_1))])))) := by simpa only [List.append_assoc, List.nil_append, List.append_nil] using hD
      skip
      refine lv_aload_n hx hb dX2_restoreLink_65 rfl (lv_at hl 0 rfl) ?_
      refine gt2 hx hb hts hown hC.1 hP 0 rfl 0 (by decide) qw118 rfl dX2_restoreLink_66 ?_
      refine lv_aload_n hx hb dX2_restoreLink_69 rfl (lv_at hl 0 rfl) ?_
      refine gt2 hx hb hts hown hC.1 hP 0 rfl 2 (by decide) qw120 rfl dX2_restoreLink_70 ?_
      refine goWi (pre := [(o, .inr (2, [.ref (h), .ref (us), .ref (lb), .int e0, .int e1, .int e2]))] ++ (usS cI cO us rg g ga nx_1 sz_1 G_1)) (wc := stW cI h a T_1 ++ ([(lb, .inl (cI, 96, .inl B_1))])) (suf := []) (kVN (As := [.ref (lb)]) (rest := []) F (c_X0_divertMoved l D cI cO _ h a T_1 (upd w (5 + (4 * i + l_)) (nI 1)) c0 h_62 lb B_1 hc (fun j hj hne => acc_on hR.wf hv j hj (by rw [← h_53 j hj]; exact hne))) ywX0_divertMoved (nk15 hC) qw250 qs17 ⟨rfl, rfl⟩ ⟨Nat.le_of_ble_eq_true rfl, Nat.le_of_ble_eq_true rfl⟩ (preV (preW (va_pr0 (va_pr0 hP)) hC (va_dr (va_dr hD))) hC hP (ci := 0) (q0 := 43) rfl rfl rfl) rfl hl.1 rfl (Nat.le_of_ble_eq_true rfl) dX2_restoreLink_73 ⟨Nat.zero_le _, Nat.zero_le _⟩) (by simpa only [List.append_assoc, List.nil_append, List.append_nil] using hP) (by simpa only [List.append_assoc, List.nil_append, List.append_nil] using hD) hS hA (fun r_73 T_2 H locs h_73 hP hD hS => ?_)
      replace hP : va_P D vwCl ([(o, .inr (2, [.ref (h), .ref (us), .ref (lb), .int e0, .int e1, .int e2]))] ++ (usS cI cO us rg g ga nx_1 sz_1 G_1 ++ (stW cI h a T_2 ++ ([(lb, .inl (cI, 96, .inl B_1))])))) H := by simpa only [List.append_assoc, List.nil_append, List.append_nil] using hP
      replace hD : va_D A ([(o, .inr (2, [.ref (h), .ref (us), .ref (lb), .int e0, .int e1, .int e2]))] ++ (usS cI cO us rg g ga nx_1 sz_1 G_1 ++ (stW cI h a T_2 ++ ([(lb, .inl (cI, 96, .inl B_1))])))) := by simpa only [List.append_assoc, List.nil_append, List.append_nil] using hD
      obtain ⟨h_73, k_73⟩ := h_73
      subst h_73
      exact hret _ (((e0, e1, e2), T_2, B_1, nx_1, sz_1, G_1)) _ ls _ _ (have him : dvN (upd w (5 + (4 * i + l_)) (nI 1)) B_1 96 = (imp w (upd w (5 + (4 * i + l_)) (nI 1))) := imp_of h_53; ⟨(by rw [him, hop]), nxC_1 hop (by rw [him] at k_73; exact k_73.mono (by omega)) hR h_42⟩) hP hD hS dX2_restoreLink_76
  · have hop : oRest w x y = (-2, 2, w) := itc_f h_6
    refine n_if_ne (tgt := 17) hx hb dX2_restoreLink_9 (by decide) (by omega) (fun h => absurd h (by decide)) (fun _ => ?_)
    refine lv_aload_n hx hb dX2_restoreLink_12 rfl (lv_at hl 0 rfl) ?_
    refine goWi (pre := []) (wc := [(o, .inr (2, [.ref (h), .ref (us), .ref (lb), .int e0, .int e1, .int e2]))]) (suf := usS cI cO us rg g ga ((nI (x_))) ((nI (z_))) G ++ (stW cI h a S ++ ([(lb, .inl (cI, 96, .inl B))]))) (kV (As := []) (rest := []) F (c_X2_invalid l D cI cO _ o h us lb e0 e1 e2) ywX2_invalid qw141 qw143 qs0 ⟨rfl, rfl⟩ ⟨Nat.le_of_ble_eq_true rfl, Nat.le_of_ble_eq_true rfl⟩ (preV (preW (va_pl0 hP) hC (va_dl hD)) hC hP (ci := 2) (q0 := 0) rfl rfl rfl) rfl hl.1 rfl (Nat.le_of_ble_eq_true rfl) dX2_restoreLink_13 ⟨Nat.zero_le _, Nat.zero_le _⟩) (by simpa only [List.append_assoc, List.nil_append, List.append_nil] using hP) (by simpa only [List.append_assoc, List.nil_append, List.append_nil] using hD) hS hA (fun r_13 e_2 H locs h_13 hP hD hS => ?_)
    replace hP : va_P D vwCl ([(o, .inr (2, [.ref (h), .ref (us), .ref (lb), .int e_2, .int e1, .int e2]))] ++ (usS cI cO us rg g ga ((nI (x_))) ((nI (z_))) G ++ (stW cI h a S ++ ([(lb, .inl (cI, 96, .inl B))])))) H := by simpa only [List.append_assoc, List.nil_append, List.append_nil] using hP
    replace hD : va_D A ([(o, .inr (2, [.ref (h), .ref (us), .ref (lb), .int e_2, .int e1, .int e2]))] ++ (usS cI cO us rg g ga ((nI (x_))) ((nI (z_))) G ++ (stW cI h a S ++ ([(lb, .inl (cI, 96, .inl B))])))) := by simpa only [List.append_assoc, List.nil_append, List.append_nil] using hD
    obtain ⟨h_13, k_13⟩ := h_13
    subst h_13
    exact hret _ (((e_2, e1, e2), S, B, (nI (x_)), (nI (z_)), G)) _ ls _ _ (⟨(congrArg Prod.fst hop).symm, nxC_e (e := 0) hop (by rw [k_13]; rfl) hR rfl rfl⟩) hP hD hS dX2_restoreLink_16

set_option maxHeartbeats 4000000 in
set_option maxRecDepth 100000 in
theorem c_X2_addRoute (l : Launch) (D : va_G) (cI cO : ClassId) (sz : Nat) (o us rg : Nat) (g : Nat → Nat) (ga : Nat → Nat → Nat) (h : Nat) (a : Nat → Nat) (lb : Nat) (e0 e1 e2 : Int32) (G : Nat → Nat → Nat → Int32) (S : Nat → Nat → Int32) (B : Nat → Int32) (w : Nat → Int32) (c0 : Nat) (hR : RC c0 S w) (x_ z_ : Nat) (hx4 : x_ < 4) (hz : z_ ≤ 4) (hc9 : c0 < 900) (x y z : Int32) : Met l yX2_addRoute (Cond.code yX2_addRoute cX2_addRoute 5 (some .int) :: WL) ({ frames := 5, cells := 0, slots := 0, locals := 113 } : Room) (va_Pc [.ref (o), .int (x), .int (y), .int (z)] (PW D cI cO ([(o, .inr (2, [.ref (h), .ref (us), .ref (lb), .int e0, .int e1, .int e2]))] ++ (usS cI cO us rg g ga ((nI (x_))) ((nI (z_))) G ++ (stW cI h a S ++ ([(lb, .inl (cI, 96, .inl B))])))) sz)) (va_Qi (fun (r : Int32) (u : CV) => r = (oAr w x y z).1 ∧ nxC c0 x_ z_ (e0, e1, e2) G w (oAr w x y z) u) (QB D ([(o, .inr (2, [.ref (h), .ref (us), .ref (lb), .int e0, .int e1, .int e2]))] ++ (usS cI cO us rg g ga ((nI (x_))) ((nI (z_))) G ++ (stW cI h a S ++ ([(lb, .inl (cI, 96, .inl B))])))) sz (fun (u : CV) => cvU cI cO o us rg g ga h a lb u)) (va_A ([(o, .inr (2, [.ref (h), .ref (us), .ref (lb), .int e0, .int e1, .int e2]))] ++ (usS cI cO us rg g ga ((nI (x_))) ((nI (z_))) G ++ (stW cI h a S ++ ([(lb, .inl (cI, 96, .inl B))])))) sz)) 0 0 (va_A ([(o, .inr (2, [.ref (h), .ref (us), .ref (lb), .int e0, .int e1, .int e2]))] ++ (usS cI cO us rg g ga ((nI (x_))) ((nI (z_))) G ++ (stW cI h a S ++ ([(lb, .inl (cI, 96, .inl B))])))) sz) := by
  refine wr_int (by decide) (Nat.le_of_ble_eq_true rfl) ?_
  intro p e s m args below meth c Q ls A F hP hC hD hA hret hl
  have hx := F.1
  have hb := F.2.1
  have hml := F.2.2.1
  have hown := F.2.2.2.1
  have hts := F.2.2.2.2
  replace hl : lv_has ls 5 [(0, .ref (o)), (1, .int (x)), (2, .int (y)), (3, .int (z))] := hl
  have hS : va_S A s.heap s.heap [] := va_S.rf
  have hn4 := hR.wf.n.2
  have hc : c0 < 1000 := by omega
  refine lv_aload_n hx hb dX2_addRoute_0 rfl (lv_at hl 0 rfl) ?_
  refine gt2 hx hb hts hown hC.1 hP 0 rfl 0 (by decide) qw118 rfl dX2_addRoute_1 ?_
  refine lv_iload_n hx hb dX2_addRoute_4 rfl (lv_at hl 1 rfl) ?_
  refine lv_iload_n hx hb dX2_addRoute_5 rfl (lv_at hl 2 rfl) ?_
  refine goR (kVN (As := [.int (x), .int (y)]) (rest := []) F (c_X0_canHaveRoute l D cI cO h a S w c0 hR (x) (y)) ywX0_canHaveRoute (nk19 hC) qw298 qs21 ⟨rfl, rfl⟩ ⟨Nat.le_of_ble_eq_true rfl, Nat.le_of_ble_eq_true rfl⟩ (preV (preR (va_pl0 (va_pr0 (va_pr0 hP))) hC) hC hP (ci := 0) (q0 := 43) rfl rfl rfl) rfl hl.1 rfl (Nat.le_of_ble_eq_true rfl) dX2_addRoute_6 ⟨Nat.zero_le _, Nat.zero_le _⟩) (fun r_6 h_6 => ?_)
  rcases h_6 with ⟨rfl, h_6⟩ | ⟨rfl, h_6⟩
  · obtain ⟨⟨d_, hd6, rfl⟩, i, hi, rfl⟩ := id h_6
    have hi4 : i < 4 := by omega
    have hsx : sx (nI d_) (nI i) = 197 + 4 * d_ + i := sx_nI (by omega) (by omega)
    have hpx : px (nI d_) (nI i) = 221 + 4 * d_ + i := px_nI (by omega) (by omega)
    refine n_if_eq (tgt := 21) hx hb dX2_addRoute_9 (by decide) (by omega) (fun h => absurd h (by decide)) (fun _ => ?_)
    refine lv_iload_n hx hb dX2_addRoute_12 rfl (lv_at hl 3 rfl) ?_
    refine lv_if_lt (tgt := 21) hx hb dX2_addRoute_13 (by decide)  (fun c_13 => ?_) (fun c_13 => ?_)
    · have hop : oAr w (nI d_) (nI i) z = (-2, 2, w) := itc_f (fun q => Int32.not_lt.mpr q.2.2.1 c_13)
      refine lv_aload_n hx hb dX2_addRoute_21 rfl (lv_at hl 0 rfl) ?_
      refine goWi (pre := []) (wc := [(o, .inr (2, [.ref (h), .ref (us), .ref (lb), .int e0, .int e1, .int e2]))]) (suf := usS cI cO us rg g ga ((nI (x_))) ((nI (z_))) G ++ (stW cI h a S ++ ([(lb, .inl (cI, 96, .inl B))]))) (kV (As := []) (rest := []) F (c_X2_invalid l D cI cO _ o h us lb e0 e1 e2) ywX2_invalid qw141 qw143 qs0 ⟨rfl, rfl⟩ ⟨Nat.le_of_ble_eq_true rfl, Nat.le_of_ble_eq_true rfl⟩ (preV (preW (va_pl0 hP) hC (va_dl hD)) hC hP (ci := 2) (q0 := 0) rfl rfl rfl) rfl hl.1 rfl (Nat.le_of_ble_eq_true rfl) dX2_addRoute_22 ⟨Nat.zero_le _, Nat.zero_le _⟩) (by simpa only [List.append_assoc, List.nil_append, List.append_nil] using hP) (by simpa only [List.append_assoc, List.nil_append, List.append_nil] using hD) hS hA (fun r_22 e_1 H locs h_22 hP hD hS => ?_)
      replace hP : va_P D vwCl ([(o, .inr (2, [.ref (h), .ref (us), .ref (lb), .int e_1, .int e1, .int e2]))] ++ (usS cI cO us rg g ga ((nI (x_))) ((nI (z_))) G ++ (stW cI h a S ++ ([(lb, .inl (cI, 96, .inl B))])))) H := by simpa only [List.append_assoc, List.nil_append, List.append_nil] using hP
      replace hD : va_D A ([(o, .inr (2, [.ref (h), .ref (us), .ref (lb), .int e_1, .int e1, .int e2]))] ++ (usS cI cO us rg g ga ((nI (x_))) ((nI (z_))) G ++ (stW cI h a S ++ ([(lb, .inl (cI, 96, .inl B))])))) := by simpa only [List.append_assoc, List.nil_append, List.append_nil] using hD
      obtain ⟨h_22, k_22⟩ := h_22
      subst h_22
      exact hret _ (((e_1, e1, e2), S, B, (nI (x_)), (nI (z_)), G)) _ ls _ _ (⟨(congrArg Prod.fst hop).symm, nxC_e (e := 0) hop (by rw [k_22]; rfl) hR rfl rfl⟩) hP hD hS dX2_addRoute_25
    · refine lv_iload_n hx hb dX2_addRoute_16 rfl (lv_at hl 3 rfl) ?_
      refine lv_iconst (v := (nI (2))) hx hb dX2_addRoute_17 (by decide) ?_
      refine lv_icmp_le (tgt := 26) hx hb dX2_addRoute_18 (by decide)  (fun c_18 => ?_) (fun c_18 => ?_)
      · have hv9 : nI 0 ≤ z ∧ z ≤ nI 2 := ⟨Int32.not_lt.mp c_13, c_18⟩
        obtain ⟨q_, -, hq2, rfl⟩ := in_ab (by decide) (id hv9) (by decide)
        refine lv_iload_n hx hb dX2_addRoute_26 rfl (lv_at hl 1 rfl) ?_
        refine lv_iload_n hx hb dX2_addRoute_27 rfl (lv_at hl 2 rfl) ?_
        refine goR (kS (As := [.int (nI (d_)), .int (nI (i))]) (rest := []) F (c_X2_routePlace l D cI cO (d_) (i)) ywX2_routePlace qw303 qw221  ⟨rfl, rfl⟩ ⟨Nat.le_of_ble_eq_true rfl, Nat.le_of_ble_eq_true rfl⟩ (preR (fun k q h => by simp at h) hC) rfl hl.1 rfl (Nat.le_of_ble_eq_true rfl) dX2_addRoute_28 ⟨Nat.zero_le _, Nat.zero_le _⟩) (fun r_28 h_28 => ?_)
        subst h_28
        refine lv_istore (lv' := [(4, .int (nI (d_ * 4 + i))), (0, .ref (o)), (1, .int (nI (d_))), (2, .int (nI (i))), (3, .int (nI (q_)))]) hx hb dX2_addRoute_31 hl (by decide) rfl (fun ls hl => ?_)
        refine lv_aload_n hx hb dX2_addRoute_33 rfl (lv_at hl 1 rfl) ?_
        refine gt2 hx hb hts hown hC.1 hP 0 rfl 0 (by decide) qw118 rfl dX2_addRoute_34 ?_
        refine gtN0 hx hb hts hown hC.1 hP 43 rfl 14 (by decide) (nf11 hC) rfl dX2_addRoute_37 ?_
        refine lv_iload hx hb dX2_addRoute_40 (lv_at hl 0 rfl) ?_
        refine n_iald hx hb hC.1 hP 48 0 rfl rfl (by omega) (by decide) dX2_addRoute_42 ?_
        refine w_cv (y := (w (197 + 4 * d_ + i))) (hR.s d_ hd6 i hi4) ?_
        refine lv_iconst (v := (-1)) hx hb dX2_addRoute_43 (by decide) ?_
        refine lv_icmp_eq (tgt := 52) hx hb dX2_addRoute_44 (by decide)  (fun c_44 => ?_) (fun c_44 => ?_)
        · have hop : oAr w (nI d_) (nI i) (nI q_) = (nI (imp w (upd (upd w (197 + 4 * d_ + i) (nI 0)) (221 + 4 * d_ + i) (nI q_))).2, 1, (imp w (upd (upd w (197 + 4 * d_ + i) (nI 0)) (221 + 4 * d_ + i) (nI q_))).1) := by unfold oAr; rw [itc_t ⟨h_6.1, h_6.2, hv9⟩, hsx, hpx, if_pos c_44]
          refine lv_aload_n hx hb dX2_addRoute_52 rfl (lv_at hl 1 rfl) ?_
          refine gt2 hx hb hts hown hC.1 hP 0 rfl 1 (by decide) qw119 rfl dX2_addRoute_53 ?_
          refine lv_aload_n hx hb dX2_addRoute_56 rfl (lv_at hl 1 rfl) ?_
          refine gt2 hx hb hts hown hC.1 hP 0 rfl 0 (by decide) qw118 rfl dX2_addRoute_57 ?_
          refine goWv (pre := [(o, .inr (2, [.ref (h), .ref (us), .ref (lb), .int e0, .int e1, .int e2]))]) (wc := usS cI cO us rg g ga ((nI (x_))) ((nI (z_))) G ++ (stW cI h a S)) (suf := [(lb, .inl (cI, 96, .inl B))]) (kVN (As := [.ref (h)]) (rest := []) F (c_X1_save l D cI cO _ us rg g ga G ((nI (z_))) h a S x_ hx4 z_ hz rfl) ywX1_save (nk3 hC) qw151 qs2 ⟨rfl, rfl⟩ ⟨Nat.le_of_ble_eq_true rfl, Nat.le_of_ble_eq_true rfl⟩ (preV (preW (va_pl0 (x := usS cI cO us rg g ga ((nI (x_))) ((nI (z_))) G ++ (stW cI h a S)) (y := [(lb, .inl (cI, 96, .inl B))]) (by simpa only [List.append_assoc] using (va_pr0 hP))) hC (va_dl (x := usS cI cO us rg g ga ((nI (x_))) ((nI (z_))) G ++ (stW cI h a S)) (y := [(lb, .inl (cI, 96, .inl B))]) (by simpa only [List.append_assoc] using (va_dr hD)))) hC hP (ci := 1) (q0 := 1) rfl rfl rfl) rfl hl.1 rfl (Nat.le_of_ble_eq_true rfl) dX2_addRoute_60 ⟨Nat.zero_le _, Nat.zero_le _⟩) (by simpa only [List.append_assoc, List.nil_append, List.append_nil] using hP) (by simpa only [List.append_assoc, List.nil_append, List.append_nil] using hD) hS hA (fun u_1 H locs h_60 hP hD hS => ?_)
          obtain ⟨G_1, nx_1, sz_1⟩ := u_1
          replace hP : va_P D vwCl ([(o, .inr (2, [.ref (h), .ref (us), .ref (lb), .int e0, .int e1, .int e2]))] ++ (usS cI cO us rg g ga nx_1 sz_1 G_1 ++ (stW cI h a S ++ ([(lb, .inl (cI, 96, .inl B))])))) H := by simpa only [List.append_assoc, List.nil_append, List.append_nil] using hP
          replace hD : va_D A ([(o, .inr (2, [.ref (h), .ref (us), .ref (lb), .int e0, .int e1, .int e2]))] ++ (usS cI cO us rg g ga nx_1 sz_1 G_1 ++ (stW cI h a S ++ ([(lb, .inl (cI, 96, .inl B))])))) := by simpa only [List.append_assoc, List.nil_append, List.append_nil] using hD
          refine lv_aload_n hx hb dX2_addRoute_63 rfl (lv_at hl 1 rfl) ?_
          refine gt2 hx hb hts hown hC.1 hP 0 rfl 0 (by decide) qw118 rfl dX2_addRoute_64 ?_
          refine lv_aload_n hx hb dX2_addRoute_67 rfl (lv_at hl 1 rfl) ?_
          refine gt2 hx hb hts hown hC.1 hP 0 rfl 2 (by decide) qw120 rfl dX2_addRoute_68 ?_
          refine goWv (pre := [(o, .inr (2, [.ref (h), .ref (us), .ref (lb), .int e0, .int e1, .int e2]))] ++ (usS cI cO us rg g ga nx_1 sz_1 G_1)) (wc := stW cI h a S ++ ([(lb, .inl (cI, 96, .inl B))])) (suf := []) (kVN (As := [.ref (lb)]) (rest := []) F (c_X0_listLinks l D cI cO _ h a S w c0 hR lb B) ywX0_listLinks (nk13 hC) qw242 qs15 ⟨rfl, rfl⟩ ⟨Nat.le_of_ble_eq_true rfl, Nat.le_of_ble_eq_true rfl⟩ (preV (preW (va_pr0 (va_pr0 hP)) hC (va_dr (va_dr hD))) hC hP (ci := 0) (q0 := 43) rfl rfl rfl) rfl hl.1 rfl (Nat.le_of_ble_eq_true rfl) dX2_addRoute_71 ⟨Nat.zero_le _, Nat.zero_le _⟩) (by simpa only [List.append_assoc, List.nil_append, List.append_nil] using hP) (by simpa only [List.append_assoc, List.nil_append, List.append_nil] using hD) hS hA (fun B_1 H locs h_71 hP hD hS => ?_)
          replace hP : va_P D vwCl ([(o, .inr (2, [.ref (h), .ref (us), .ref (lb), .int e0, .int e1, .int e2]))] ++ (usS cI cO us rg g ga nx_1 sz_1 G_1 ++ (stW cI h a S ++ ([(lb, .inl (cI, 96, .inl B_1))])))) H := by simpa only [List.append_assoc, List.nil_append, List.append_nil] using hP
          replace hD : va_D A ([(o, .inr (2, [.ref (h), .ref (us), .ref (lb), .int e0, .int e1, .int e2]))] ++ (usS cI cO us rg g ga nx_1 sz_1 G_1 ++ (stW cI h a S ++ ([(lb, .inl (cI, 96, .inl B_1))])))) := by simpa only [List.append_assoc, List.nil_append, List.append_nil] using hD
          refine lv_aload_n hx hb dX2_addRoute_74 rfl (lv_at hl 1 rfl) ?_
          refine gt2 hx hb hts hown hC.1 hP 0 rfl 0 (by decide) qw118 rfl dX2_addRoute_75 ?_
          refine gtN0 hx hb hts hown hC.1 hP 43 rfl 14 (by decide) (nf11 hC) rfl dX2_addRoute_78 ?_
          refine lv_iload hx hb dX2_addRoute_81 (lv_at hl 0 rfl) ?_
          refine lv_iconst (v := (nI (0))) hx hb dX2_addRoute_83 (by decide) ?_
          refine n_iast hx hb hC.1 hP hD hS 48 0 rfl rfl (by omega) (by decide) dX2_addRoute_84 (fun H locs hP hD hS => ?_)
          obtain ⟨S_1, hS_1⟩ : ∃ z : Nat → Nat → Int32, z = va_up S 14 (upd (S 14) (d_ * 4 + i) (nI (0))) := ⟨_, rfl⟩
          replace hP : va_P D vwCl ([(o, .inr (2, [.ref (h), .ref (us), .ref (lb), .int e0, .int e1, .int e2]))] ++ (usS cI cO us rg g ga nx_1 sz_1 G_1 ++ (stW cI h a S_1 ++ ([(lb, .inl (cI, 96, .inl B_1))])))) H := by rw [hS_1]; exact hP
          replace hD : va_D A ([(o, .inr (2, [.ref (h), .ref (us), .ref (lb), .int e0, .int e1, .int e2]))] ++ (usS cI cO us rg g ga nx_1 sz_1 G_1 ++ (stW cI h a S_1 ++ ([(lb, .inl (cI, 96, .inl B_1))])))) := by rw [hS_1]; exact hD
          refine lv_aload_n hx hb dX2_addRoute_85 rfl (lv_at hl 1 rfl) ?_
          refine gt2 hx hb hts hown hC.1 hP 0 rfl 0 (by decide) qw118 rfl dX2_addRoute_86 ?_
          refine gtN0 hx hb hts hown hC.1 hP 43 rfl 15 (by decide) (nf12 hC) rfl dX2_addRoute_89 ?_
          refine lv_iload hx hb dX2_addRoute_92 (lv_at hl 0 rfl) ?_
          refine lv_iload_n hx hb dX2_addRoute_94 rfl (lv_at hl 4 rfl) ?_
          refine n_iast hx hb hC.1 hP hD hS 49 0 rfl rfl (by omega) (by decide) dX2_addRoute_95 (fun H locs hP hD hS => ?_)
          obtain ⟨S_2, hS_2⟩ : ∃ z : Nat → Nat → Int32, z = va_up S_1 15 (upd (S_1 15) (d_ * 4 + i) (nI (q_))) := ⟨_, rfl⟩
          replace hP : va_P D vwCl ([(o, .inr (2, [.ref (h), .ref (us), .ref (lb), .int e0, .int e1, .int e2]))] ++ (usS cI cO us rg g ga nx_1 sz_1 G_1 ++ (stW cI h a S_2 ++ ([(lb, .inl (cI, 96, .inl B_1))])))) H := by rw [hS_2]; exact hP
          replace hD : va_D A ([(o, .inr (2, [.ref (h), .ref (us), .ref (lb), .int e0, .int e1, .int e2]))] ++ (usS cI cO us rg g ga nx_1 sz_1 G_1 ++ (stW cI h a S_2 ++ ([(lb, .inl (cI, 96, .inl B_1))])))) := by rw [hS_2]; exact hD
          have hR1 : RC c0 S_2 (upd (upd w (197 + 4 * d_ + i) (nI 0)) (221 + 4 * d_ + i) (nI q_)) := by subst hS_2; subst hS_1; exact RC_ar hd6 hi4 hq2 c_44 hR
          refine lv_aload_n hx hb dX2_addRoute_96 rfl (lv_at hl 1 rfl) ?_
          refine gt2 hx hb hts hown hC.1 hP 0 rfl 0 (by decide) qw118 rfl dX2_addRoute_97 ?_
          refine lv_aload_n hx hb dX2_addRoute_100 rfl (lv_at hl 1 rfl) ?_
          refine gt2 hx hb hts hown hC.1 hP 0 rfl 2 (by decide) qw120 rfl dX2_addRoute_101 ?_
          refine goWi (pre := [(o, .inr (2, [.ref (h), .ref (us), .ref (lb), .int e0, .int e1, .int e2]))] ++ (usS cI cO us rg g ga nx_1 sz_1 G_1)) (wc := stW cI h a S_2 ++ ([(lb, .inl (cI, 96, .inl B_1))])) (suf := []) (kVN (As := [.ref (lb)]) (rest := []) F (c_X0_divertMoved l D cI cO _ h a S_2 (upd (upd w (197 + 4 * d_ + i) (nI 0)) (221 + 4 * d_ + i) (nI q_)) c0 hR1 lb B_1 hc (fun j hj hne => acc_st hR.wf (fun t _ h1 h2 => by rw [pk_un h2, pk_un h1]) hi4 hd6 (Or.inl (by rw [pk_un (by omega), upd_eq])) (by unfold pq; rw [upd_eq, nv_nI (by omega)]; exact hq2) j hj (by rw [← h_71 j hj]; exact hne))) ywX0_divertMoved (nk15 hC) qw250 qs17 ⟨rfl, rfl⟩ ⟨Nat.le_of_ble_eq_true rfl, Nat.le_of_ble_eq_true rfl⟩ (preV (preW (va_pr0 (va_pr0 hP)) hC (va_dr (va_dr hD))) hC hP (ci := 0) (q0 := 43) rfl rfl rfl) rfl hl.1 rfl (Nat.le_of_ble_eq_true rfl) dX2_addRoute_104 ⟨Nat.zero_le _, Nat.zero_le _⟩) (by simpa only [List.append_assoc, List.nil_append, List.append_nil] using hP) (by simpa only [List.append_assoc, List.nil_append, List.append_nil] using hD) hS hA (fun r_104 T_1 H locs h_104 hP hD hS => ?_)
          replace hP : va_P D vwCl ([(o, .inr (2, [.ref (h), .ref (us), .ref (lb), .int e0, .int e1, .int e2]))] ++ (usS cI cO us rg g ga nx_1 sz_1 G_1 ++ (stW cI h a T_1 ++ ([(lb, .inl (cI, 96, .inl B_1))])))) H := by simpa only [List.append_assoc, List.nil_append, List.append_nil] using hP
          replace hD : va_D A ([(o, .inr (2, [.ref (h), .ref (us), .ref (lb), .int e0, .int e1, .int e2]))] ++ (usS cI cO us rg g ga nx_1 sz_1 G_1 ++ (stW cI h a T_1 ++ ([(lb, .inl (cI, 96, .inl B_1))])))) := by simpa only [List.append_assoc, List.nil_append, List.append_nil] using hD
          obtain ⟨h_104, k_104⟩ := h_104
          subst h_104
          exact hret _ (((e0, e1, e2), T_1, B_1, nx_1, sz_1, G_1)) _ ls _ _ (have him : dvN (upd (upd w (197 + 4 * d_ + i) (nI 0)) (221 + 4 * d_ + i) (nI q_)) B_1 96 = imp w (upd (upd w (197 + 4 * d_ + i) (nI 0)) (221 + 4 * d_ + i) (nI q_)) := imp_of h_71; ⟨(by rw [him, hop]), nxC_1 hop (by rw [him] at k_104; exact k_104.mono (by omega)) hR h_60⟩) hP hD hS dX2_addRoute_107
        · have hop : oAr w (nI d_) (nI i) (nI q_) = (-3, 3, w) := by unfold oAr; rw [itc_t ⟨h_6.1, h_6.2, hv9⟩, hsx, if_neg c_44]; rfl
          refine lv_aload_n hx hb dX2_addRoute_47 rfl (lv_at hl 1 rfl) ?_
          refine goWi (pre := []) (wc := [(o, .inr (2, [.ref (h), .ref (us), .ref (lb), .int e0, .int e1, .int e2]))]) (suf := usS cI cO us rg g ga ((nI (x_))) ((nI (z_))) G ++ (stW cI h a S ++ ([(lb, .inl (cI, 96, .inl B))]))) (kV (As := []) (rest := []) F (c_X2_rejected l D cI cO _ o h us lb e0 e1 e2) ywX2_rejected qw187 qw189 qs8 ⟨rfl, rfl⟩ ⟨Nat.le_of_ble_eq_true rfl, Nat.le_of_ble_eq_true rfl⟩ (preV (preW (va_pl0 hP) hC (va_dl hD)) hC hP (ci := 2) (q0 := 0) rfl rfl rfl) rfl hl.1 rfl (Nat.le_of_ble_eq_true rfl) dX2_addRoute_48 ⟨Nat.zero_le _, Nat.zero_le _⟩) (by simpa only [List.append_assoc, List.nil_append, List.append_nil] using hP) (by simpa only [List.append_assoc, List.nil_append, List.append_nil] using hD) hS hA (fun r_48 e_2 H locs h_48 hP hD hS => ?_)
          replace hP : va_P D vwCl ([(o, .inr (2, [.ref (h), .ref (us), .ref (lb), .int e0, .int e_2, .int e2]))] ++ (usS cI cO us rg g ga ((nI (x_))) ((nI (z_))) G ++ (stW cI h a S ++ ([(lb, .inl (cI, 96, .inl B))])))) H := by simpa only [List.append_assoc, List.nil_append, List.append_nil] using hP
          replace hD : va_D A ([(o, .inr (2, [.ref (h), .ref (us), .ref (lb), .int e0, .int e_2, .int e2]))] ++ (usS cI cO us rg g ga ((nI (x_))) ((nI (z_))) G ++ (stW cI h a S ++ ([(lb, .inl (cI, 96, .inl B))])))) := by simpa only [List.append_assoc, List.nil_append, List.append_nil] using hD
          obtain ⟨h_48, k_48⟩ := h_48
          subst h_48
          exact hret _ (((e0, e_2, e2), S, B, (nI (x_)), (nI (z_)), G)) _ ls _ _ (⟨(congrArg Prod.fst hop).symm, nxC_e (e := 1) hop (by rw [k_48]; rfl) hR rfl rfl⟩) hP hD hS dX2_addRoute_51
      · have hop : oAr w (nI d_) (nI i) z = (-2, 2, w) := itc_f (fun q => c_18 q.2.2.2)
        refine lv_aload_n hx hb dX2_addRoute_21 rfl (lv_at hl 0 rfl) ?_
        refine goWi (pre := []) (wc := [(o, .inr (2, [.ref (h), .ref (us), .ref (lb), .int e0, .int e1, .int e2]))]) (suf := usS cI cO us rg g ga ((nI (x_))) ((nI (z_))) G ++ (stW cI h a S ++ ([(lb, .inl (cI, 96, .inl B))]))) (kV (As := []) (rest := []) F (c_X2_invalid l D cI cO _ o h us lb e0 e1 e2) ywX2_invalid qw141 qw143 qs0 ⟨rfl, rfl⟩ ⟨Nat.le_of_ble_eq_true rfl, Nat.le_of_ble_eq_true rfl⟩ (preV (preW (va_pl0 hP) hC (va_dl hD)) hC hP (ci := 2) (q0 := 0) rfl rfl rfl) rfl hl.1 rfl (Nat.le_of_ble_eq_true rfl) dX2_addRoute_22 ⟨Nat.zero_le _, Nat.zero_le _⟩) (by simpa only [List.append_assoc, List.nil_append, List.append_nil] using hP) (by simpa only [List.append_assoc, List.nil_append, List.append_nil] using hD) hS hA (fun r_22 e_3 H locs h_22 hP hD hS => ?_)
        replace hP : va_P D vwCl ([(o, .inr (2, [.ref (h), .ref (us), .ref (lb), .int e_3, .int e1, .int e2]))] ++ (usS cI cO us rg g ga ((nI (x_))) ((nI (z_))) G ++ (stW cI h a S ++ ([(lb, .inl (cI, 96, .inl B))])))) H := by simpa only [List.append_assoc, List.nil_append, List.append_nil] using hP
        replace hD : va_D A ([(o, .inr (2, [.ref (h), .ref (us), .ref (lb), .int e_3, .int e1, .int e2]))] ++ (usS cI cO us rg g ga ((nI (x_))) ((nI (z_))) G ++ (stW cI h a S ++ ([(lb, .inl (cI, 96, .inl B))])))) := by simpa only [List.append_assoc, List.nil_append, List.append_nil] using hD
        obtain ⟨h_22, k_22⟩ := h_22
        subst h_22
        exact hret _ (((e_3, e1, e2), S, B, (nI (x_)), (nI (z_)), G)) _ ls _ _ (⟨(congrArg Prod.fst hop).symm, nxC_e (e := 0) hop (by rw [k_22]; rfl) hR rfl rfl⟩) hP hD hS dX2_addRoute_25
  · have hop : oAr w x y z = (-2, 2, w) := itc_f (fun q => h_6 ⟨q.1, q.2.1⟩)
    refine n_if_eq (tgt := 21) hx hb dX2_addRoute_9 (by decide) (by omega) (fun _ => ?_) (fun h => absurd h (by decide))
    refine lv_aload_n hx hb dX2_addRoute_21 rfl (lv_at hl 0 rfl) ?_
    refine goWi (pre := []) (wc := [(o, .inr (2, [.ref (h), .ref (us), .ref (lb), .int e0, .int e1, .int e2]))]) (suf := usS cI cO us rg g ga ((nI (x_))) ((nI (z_))) G ++ (stW cI h a S ++ ([(lb, .inl (cI, 96, .inl B))]))) (kV (As := []) (rest := []) F (c_X2_invalid l D cI cO _ o h us lb e0 e1 e2) ywX2_invalid qw141 qw143 qs0 ⟨rfl, rfl⟩ ⟨Nat.le_of_ble_eq_true rfl, Nat.le_of_ble_eq_true rfl⟩ (preV (preW (va_pl0 hP) hC (va_dl hD)) hC hP (ci := 2) (q0 := 0) rfl rfl rfl) rfl hl.1 rfl (Nat.le_of_ble_eq_true rfl) dX2_addRoute_22 ⟨Nat.zero_le _, Nat.zero_le _⟩) (by simpa only [List.append_assoc, List.nil_append, List.append_nil] using hP) (by simpa only [List.append_assoc, List.nil_append, List.append_nil] using hD) hS hA (fun r_22 e_4 H locs h_22 hP hD hS => ?_)
    replace hP : va_P D vwCl ([(o, .inr (2, [.ref (h), .ref (us), .ref (lb), .int e_4, .int e1, .int e2]))] ++ (usS cI cO us rg g ga ((nI (x_))) ((nI (z_))) G ++ (stW cI h a S ++ ([(lb, .inl (cI, 96, .inl B))])))) H := by simpa only [List.append_assoc, List.nil_append, List.append_nil] using hP
    replace hD : va_D A ([(o, .inr (2, [.ref (h), .ref (us), .ref (lb), .int e_4, .int e1, .int e2]))] ++ (usS cI cO us rg g ga ((nI (x_))) ((nI (z_))) G ++ (stW cI h a S ++ ([(lb, .inl (cI, 96, .inl B))])))) := by simpa only [List.append_assoc, List.nil_append, List.append_nil] using hD
    obtain ⟨h_22, k_22⟩ := h_22
    subst h_22
    exact hret _ (((e_4, e1, e2), S, B, (nI (x_)), (nI (z_)), G)) _ ls _ _ (⟨(congrArg Prod.fst hop).symm, nxC_e (e := 0) hop (by rw [k_22]; rfl) hR rfl rfl⟩) hP hD hS dX2_addRoute_25

set_option maxHeartbeats 4000000 in
set_option maxRecDepth 100000 in
theorem c_X2_setRouteState (l : Launch) (D : va_G) (cI cO : ClassId) (sz : Nat) (o us rg : Nat) (g : Nat → Nat) (ga : Nat → Nat → Nat) (h : Nat) (a : Nat → Nat) (lb : Nat) (e0 e1 e2 : Int32) (G : Nat → Nat → Nat → Int32) (S : Nat → Nat → Int32) (B : Nat → Int32) (w : Nat → Int32) (c0 : Nat) (hR : RC c0 S w) (x_ z_ : Nat) (hx4 : x_ < 4) (hz : z_ ≤ 4) (hc9 : c0 < 900) (x y z : Int32) : Met l yX2_setRouteState (Cond.code yX2_setRouteState cX2_setRouteState 6 (some .int) :: WL) ({ frames := 5, cells := 0, slots := 0, locals := 113 } : Room) (va_Pc [.ref (o), .int (x), .int (y), .int (z)] (PW D cI cO ([(o, .inr (2, [.ref (h), .ref (us), .ref (lb), .int e0, .int e1, .int e2]))] ++ (usS cI cO us rg g ga ((nI (x_))) ((nI (z_))) G ++ (stW cI h a S ++ ([(lb, .inl (cI, 96, .inl B))])))) sz)) (va_Qi (fun (r : Int32) (u : CV) => r = (oSr w x y z).1 ∧ nxC c0 x_ z_ (e0, e1, e2) G w (oSr w x y z) u) (QB D ([(o, .inr (2, [.ref (h), .ref (us), .ref (lb), .int e0, .int e1, .int e2]))] ++ (usS cI cO us rg g ga ((nI (x_))) ((nI (z_))) G ++ (stW cI h a S ++ ([(lb, .inl (cI, 96, .inl B))])))) sz (fun (u : CV) => cvU cI cO o us rg g ga h a lb u)) (va_A ([(o, .inr (2, [.ref (h), .ref (us), .ref (lb), .int e0, .int e1, .int e2]))] ++ (usS cI cO us rg g ga ((nI (x_))) ((nI (z_))) G ++ (stW cI h a S ++ ([(lb, .inl (cI, 96, .inl B))])))) sz)) 0 0 (va_A ([(o, .inr (2, [.ref (h), .ref (us), .ref (lb), .int e0, .int e1, .int e2]))] ++ (usS cI cO us rg g ga ((nI (x_))) ((nI (z_))) G ++ (stW cI h a S ++ ([(lb, .inl (cI, 96, .inl B))])))) sz) := by
  refine wr_int (by decide) (Nat.le_of_ble_eq_true rfl) ?_
  intro p e s m args below meth c Q ls A F hP hC hD hA hret hl
  have hx := F.1
  have hb := F.2.1
  have hml := F.2.2.1
  have hown := F.2.2.2.1
  have hts := F.2.2.2.2
  replace hl : lv_has ls 6 [(0, .ref (o)), (1, .int (x)), (2, .int (y)), (3, .int (z))] := hl
  have hS : va_S A s.heap s.heap [] := va_S.rf
  have hn4 := hR.wf.n.2
  have hc : c0 < 1000 := by omega
  refine lv_aload_n hx hb dX2_setRouteState_0 rfl (lv_at hl 0 rfl) ?_
  refine gt2 hx hb hts hown hC.1 hP 0 rfl 0 (by decide) qw118 rfl dX2_setRouteState_1 ?_
  refine lv_iload_n hx hb dX2_setRouteState_4 rfl (lv_at hl 1 rfl) ?_
  refine lv_iload_n hx hb dX2_setRouteState_5 rfl (lv_at hl 2 rfl) ?_
  refine goR (kVN (As := [.int (x), .int (y)]) (rest := []) F (c_X0_canHaveRoute l D cI cO h a S w c0 hR (x) (y)) ywX0_canHaveRoute (nk19 hC) qw298 qs21 ⟨rfl, rfl⟩ ⟨Nat.le_of_ble_eq_true rfl, Nat.le_of_ble_eq_true rfl⟩ (preV (preR (va_pl0 (va_pr0 (va_pr0 hP))) hC) hC hP (ci := 0) (q0 := 43) rfl rfl rfl) rfl hl.1 rfl (Nat.le_of_ble_eq_true rfl) dX2_setRouteState_6 ⟨Nat.zero_le _, Nat.zero_le _⟩) (fun r_6 h_6 => ?_)
  rcases h_6 with ⟨rfl, h_6⟩ | ⟨rfl, h_6⟩
  · obtain ⟨⟨d_, hd6, rfl⟩, i, hi, rfl⟩ := id h_6
    have hi4 : i < 4 := by omega
    have hsx : sx (nI d_) (nI i) = 197 + 4 * d_ + i := sx_nI (by omega) (by omega)
    have hpx : px (nI d_) (nI i) = 221 + 4 * d_ + i := px_nI (by omega) (by omega)
    refine n_if_eq (tgt := 21) hx hb dX2_setRouteState_9 (by decide) (by omega) (fun h => absurd h (by decide)) (fun _ => ?_)
    refine lv_iload_n hx hb dX2_setRouteState_12 rfl (lv_at hl 3 rfl) ?_
    refine lv_if_lt (tgt := 21) hx hb dX2_setRouteState_13 (by decide)  (fun c_13 => ?_) (fun c_13 => ?_)
    · have hop : oSr w (nI d_) (nI i) z = (-2, 2, w) := itc_f (fun q => Int32.not_lt.mpr q.2.2.1 c_13)
      refine lv_aload_n hx hb dX2_setRouteState_21 rfl (lv_at hl 0 rfl) ?_
      refine goWi (pre := []) (wc := [(o, .inr (2, [.ref (h), .ref (us), .ref (lb), .int e0, .int e1, .int e2]))]) (suf := usS cI cO us rg g ga ((nI (x_))) ((nI (z_))) G ++ (stW cI h a S ++ ([(lb, .inl (cI, 96, .inl B))]))) (kV (As := []) (rest := []) F (c_X2_invalid l D cI cO _ o h us lb e0 e1 e2) ywX2_invalid qw141 qw143 qs0 ⟨rfl, rfl⟩ ⟨Nat.le_of_ble_eq_true rfl, Nat.le_of_ble_eq_true rfl⟩ (preV (preW (va_pl0 hP) hC (va_dl hD)) hC hP (ci := 2) (q0 := 0) rfl rfl rfl) rfl hl.1 rfl (Nat.le_of_ble_eq_true rfl) dX2_setRouteState_22 ⟨Nat.zero_le _, Nat.zero_le _⟩) (by simpa only [List.append_assoc, List.nil_append, List.append_nil] using hP) (by simpa only [List.append_assoc, List.nil_append, List.append_nil] using hD) hS hA (fun r_22 e_1 H locs h_22 hP hD hS => ?_)
      replace hP : va_P D vwCl ([(o, .inr (2, [.ref (h), .ref (us), .ref (lb), .int e_1, .int e1, .int e2]))] ++ (usS cI cO us rg g ga ((nI (x_))) ((nI (z_))) G ++ (stW cI h a S ++ ([(lb, .inl (cI, 96, .inl B))])))) H := by simpa only [List.append_assoc, List.nil_append, List.append_nil] using hP
      replace hD : va_D A ([(o, .inr (2, [.ref (h), .ref (us), .ref (lb), .int e_1, .int e1, .int e2]))] ++ (usS cI cO us rg g ga ((nI (x_))) ((nI (z_))) G ++ (stW cI h a S ++ ([(lb, .inl (cI, 96, .inl B))])))) := by simpa only [List.append_assoc, List.nil_append, List.append_nil] using hD
      obtain ⟨h_22, k_22⟩ := h_22
      subst h_22
      exact hret _ (((e_1, e1, e2), S, B, (nI (x_)), (nI (z_)), G)) _ ls _ _ (⟨(congrArg Prod.fst hop).symm, nxC_e (e := 0) hop (by rw [k_22]; rfl) hR rfl rfl⟩) hP hD hS dX2_setRouteState_25
    · refine lv_iload_n hx hb dX2_setRouteState_16 rfl (lv_at hl 3 rfl) ?_
      refine lv_iconst (v := (nI (2))) hx hb dX2_setRouteState_17 (by decide) ?_
      refine lv_icmp_le (tgt := 26) hx hb dX2_setRouteState_18 (by decide)  (fun c_18 => ?_) (fun c_18 => ?_)
      · have hv9 : nI 0 ≤ z ∧ z ≤ nI 2 := ⟨Int32.not_lt.mp c_13, c_18⟩
        obtain ⟨q_, -, hq2, rfl⟩ := in_ab (by decide) (id hv9) (by decide)
        refine lv_iload_n hx hb dX2_setRouteState_26 rfl (lv_at hl 1 rfl) ?_
        refine lv_iload_n hx hb dX2_setRouteState_27 rfl (lv_at hl 2 rfl) ?_
        refine goR (kS (As := [.int (nI (d_)), .int (nI (i))]) (rest := []) F (c_X2_routePlace l D cI cO (d_) (i)) ywX2_routePlace qw303 qw221  ⟨rfl, rfl⟩ ⟨Nat.le_of_ble_eq_true rfl, Nat.le_of_ble_eq_true rfl⟩ (preR (fun k q h => by simp at h) hC) rfl hl.1 rfl (Nat.le_of_ble_eq_true rfl) dX2_setRouteState_28 ⟨Nat.zero_le _, Nat.zero_le _⟩) (fun r_28 h_28 => ?_)
        subst h_28
        refine lv_istore (lv' := [(4, .int (nI (d_ * 4 + i))), (0, .ref (o)), (1, .int (nI (d_))), (2, .int (nI (i))), (3, .int (nI (q_)))]) hx hb dX2_setRouteState_31 hl (by decide) rfl (fun ls hl => ?_)
        refine lv_aload_n hx hb dX2_setRouteState_33 rfl (lv_at hl 1 rfl) ?_
        refine gt2 hx hb hts hown hC.1 hP 0 rfl 0 (by decide) qw118 rfl dX2_setRouteState_34 ?_
        refine gtN0 hx hb hts hown hC.1 hP 43 rfl 14 (by decide) (nf11 hC) rfl dX2_setRouteState_37 ?_
        refine lv_iload hx hb dX2_setRouteState_40 (lv_at hl 0 rfl) ?_
        refine n_iald hx hb hC.1 hP 48 0 rfl rfl (by omega) (by decide) dX2_setRouteState_42 ?_
        refine w_cv (y := (w (197 + 4 * d_ + i))) (hR.s d_ hd6 i hi4) ?_
        refine lv_istore (lv' := [(5, .int (w (197 + 4 * d_ + i))), (4, .int (nI (d_ * 4 + i))), (0, .ref (o)), (1, .int (nI (d_))), (2, .int (nI (i))), (3, .int (nI (q_)))]) hx hb dX2_setRouteState_43 hl (by decide) rfl (fun ls hl => ?_)
        refine lv_iload hx hb dX2_setRouteState_45 (lv_at hl 0 rfl) ?_
        refine lv_iconst (v := (-1)) hx hb dX2_setRouteState_47 (by decide) ?_
        refine lv_icmp_ne (tgt := 56) hx hb dX2_setRouteState_48 (by decide)  (fun c_48 => ?_) (fun c_48 => ?_)
        · have hop0 : oSr w (nI d_) (nI i) (nI q_) = (w (197 + 4 * d_ + i), 1, if nI q_ < w (197 + 4 * d_ + i) then (imp w (upd w (197 + 4 * d_ + i) (nI q_))).1 else (upd w (197 + 4 * d_ + i) (nI q_))) := by unfold oSr; rw [itc_t ⟨h_6.1, h_6.2, hv9⟩, hsx, if_neg c_48]
          refine lv_aload_n hx hb dX2_setRouteState_56 rfl (lv_at hl 2 rfl) ?_
          refine gt2 hx hb hts hown hC.1 hP 0 rfl 1 (by decide) qw119 rfl dX2_setRouteState_57 ?_
          refine lv_aload_n hx hb dX2_setRouteState_60 rfl (lv_at hl 2 rfl) ?_
          refine gt2 hx hb hts hown hC.1 hP 0 rfl 0 (by decide) qw118 rfl dX2_setRouteState_61 ?_
          refine goWv (pre := [(o, .inr (2, [.ref (h), .ref (us), .ref (lb), .int e0, .int e1, .int e2]))]) (wc := usS cI cO us rg g ga ((nI (x_))) ((nI (z_))) G ++ (stW cI h a S)) (suf := [(lb, .inl (cI, 96, .inl B))]) (kVN (As := [.ref (h)]) (rest := []) F (c_X1_save l D cI cO _ us rg g ga G ((nI (z_))) h a S x_ hx4 z_ hz rfl) ywX1_save (nk3 hC) qw151 qs2 ⟨rfl, rfl⟩ ⟨Nat.le_of_ble_eq_true rfl, Nat.le_of_ble_eq_true rfl⟩ (preV (preW (va_pl0 (x := usS cI cO us rg g ga ((nI (x_))) ((nI (z_))) G ++ (stW cI h a S)) (y := [(lb, .inl (cI, 96, .inl B))]) (by simpa only [List.append_assoc] using (va_pr0 hP))) hC (va_dl (x := usS cI cO us rg g ga ((nI (x_))) ((nI (z_))) G ++ (stW cI h a S)) (y := [(lb, .inl (cI, 96, .inl B))]) (by simpa only [List.append_assoc] using (va_dr hD)))) hC hP (ci := 1) (q0 := 1) rfl rfl rfl) rfl hl.1 rfl (Nat.le_of_ble_eq_true rfl) dX2_setRouteState_64 ⟨Nat.zero_le _, Nat.zero_le _⟩) (by simpa only [List.append_assoc, List.nil_append, List.append_nil] using hP) (by simpa only [List.append_assoc, List.nil_append, List.append_nil] using hD) hS hA (fun u_1 H locs h_64 hP hD hS => ?_)
          obtain ⟨G_1, nx_1, sz_1⟩ := u_1
          replace hP : va_P D vwCl ([(o, .inr (2, [.ref (h), .ref (us), .ref (lb), .int e0, .int e1, .int e2]))] ++ (usS cI cO us rg g ga nx_1 sz_1 G_1 ++ (stW cI h a S ++ ([(lb, .inl (cI, 96, .inl B))])))) H := by simpa only [List.append_assoc, List.nil_append, List.append_nil] using hP
          replace hD : va_D A ([(o, .inr (2, [.ref (h), .ref (us), .ref (lb), .int e0, .int e1, .int e2]))] ++ (usS cI cO us rg g ga nx_1 sz_1 G_1 ++ (stW cI h a S ++ ([(lb, .inl (cI, 96, .inl B))])))) := by simpa only [List.append_assoc, List.nil_append, List.append_nil] using hD
          refine lv_aload_n hx hb dX2_setRouteState_67 rfl (lv_at hl 2 rfl) ?_
          refine gt2 hx hb hts hown hC.1 hP 0 rfl 0 (by decide) qw118 rfl dX2_setRouteState_68 ?_
          refine lv_aload_n hx hb dX2_setRouteState_71 rfl (lv_at hl 2 rfl) ?_
          refine gt2 hx hb hts hown hC.1 hP 0 rfl 2 (by decide) qw120 rfl dX2_setRouteState_72 ?_
          refine goWv (pre := [(o, .inr (2, [.ref (h), .ref (us), .ref (lb), .int e0, .int e1, .int e2]))] ++ (usS cI cO us rg g ga nx_1 sz_1 G_1)) (wc := stW cI h a S ++ ([(lb, .inl (cI, 96, .inl B))])) (suf := []) (kVN (As := [.ref (lb)]) (rest := []) F (c_X0_listLinks l D cI cO _ h a S w c0 hR lb B) ywX0_listLinks (nk13 hC) qw242 qs15 ⟨rfl, rfl⟩ ⟨Nat.le_of_ble_eq_true rfl, Nat.le_of_ble_eq_true rfl⟩ (preV (preW (va_pr0 (va_pr0 hP)) hC (va_dr (va_dr hD))) hC hP (ci := 0) (q0 := 43) rfl rfl rfl) rfl hl.1 rfl (Nat.le_of_ble_eq_true rfl) dX2_setRouteState_75 ⟨Nat.zero_le _, Nat.zero_le _⟩) (by simpa only [List.append_assoc, List.nil_append, List.append_nil] using hP) (by simpa only [List.append_assoc, List.nil_append, List.append_nil] using hD) hS hA (fun B_1 H locs h_75 hP hD hS => ?_)
          replace hP : va_P D vwCl ([(o, .inr (2, [.ref (h), .ref (us), .ref (lb), .int e0, .int e1, .int e2]))] ++ (usS cI cO us rg g ga nx_1 sz_1 G_1 ++ (stW cI h a S ++ ([(lb, .inl (cI, 96, .inl B_1))])))) H := by simpa only [List.append_assoc, List.nil_append, List.append_nil] using hP
          replace hD : va_D A ([(o, .inr (2, [.ref (h), .ref (us), .ref (lb), .int e0, .int e1, .int e2]))] ++ (usS cI cO us rg g ga nx_1 sz_1 G_1 ++ (stW cI h a S ++ ([(lb, .inl (cI, 96, .inl B_1))])))) := by simpa only [List.append_assoc, List.nil_append, List.append_nil] using hD
          refine lv_aload_n hx hb dX2_setRouteState_78 rfl (lv_at hl 2 rfl) ?_
          refine gt2 hx hb hts hown hC.1 hP 0 rfl 0 (by decide) qw118 rfl dX2_setRouteState_79 ?_
          refine gtN0 hx hb hts hown hC.1 hP 43 rfl 14 (by decide) (nf11 hC) rfl dX2_setRouteState_82 ?_
          refine lv_iload hx hb dX2_setRouteState_85 (lv_at hl 1 rfl) ?_
          refine lv_iload_n hx hb dX2_setRouteState_87 rfl (lv_at hl 5 rfl) ?_
          refine n_iast hx hb hC.1 hP hD hS 48 0 rfl rfl (by omega) (by decide) dX2_setRouteState_88 (fun H locs hP hD hS => ?_)
          obtain ⟨S_1, hS_1⟩ : ∃ z : Nat → Nat → Int32, z = va_up S 14 (upd (S 14) (d_ * 4 + i) (nI (q_))) := ⟨_, rfl⟩
          replace hP : va_P D vwCl ([(o, .inr (2, [.ref (h), .ref (us), .ref (lb), .int e0, .int e1, .int e2]))] ++ (usS cI cO us rg g ga nx_1 sz_1 G_1 ++ (stW cI h a S_1 ++ ([(lb, .inl (cI, 96, .inl B_1))])))) H := by rw [hS_1]; exact hP
          replace hD : va_D A ([(o, .inr (2, [.ref (h), .ref (us), .ref (lb), .int e0, .int e1, .int e2]))] ++ (usS cI cO us rg g ga nx_1 sz_1 G_1 ++ (stW cI h a S_1 ++ ([(lb, .inl (cI, 96, .inl B_1))])))) := by rw [hS_1]; exact hD
          have hR1 : RC c0 S_1 (upd w (197 + 4 * d_ + i) (nI q_)) := by subst hS_1; exact RC_rst hd6 hi4 (by rcases (show q_ = 0 ∨ q_ = 1 ∨ q_ = 2 by omega) with rfl | rfl | rfl; exact Or.inr (Or.inl rfl); exact Or.inr (Or.inr (Or.inl rfl)); exact Or.inr (Or.inr (Or.inr rfl))) (fun _ => hR.wf.p d_ hd6 i hi4 c_48) hR
          refine lv_iload_n hx hb dX2_setRouteState_89 rfl (lv_at hl 5 rfl) ?_
          refine lv_iload hx hb dX2_setRouteState_90 (lv_at hl 0 rfl) ?_
          refine lv_icmp_ge (tgt := 107) hx hb dX2_setRouteState_92 (by decide)  (fun c_92 => ?_) (fun c_92 => ?_)
          · have hop := hop0
            rw [if_neg (Int32.not_lt.mpr c_92)] at hop
            refine lv_iload hx hb dX2_setRouteState_107 (lv_at hl 0 rfl) ?_
            exact hret _ (((e0, e1, e2), S_1, B_1, nx_1, sz_1, G_1)) _ ls _ _ (⟨(congrArg Prod.fst hop).symm, nxC_1 hop (hR1.mono (by omega)) hR h_64⟩) hP hD hS dX2_setRouteState_109
          · have hop := hop0
            rw [if_pos (Int32.not_le.mp c_92)] at hop
            have hq1 : q_ = 0 ∨ q_ = 1 := by
              have h8 := Int32.not_le.mp c_92
              rcases (show q_ = 0 ∨ q_ = 1 ∨ q_ = 2 by omega) with rfl | rfl | rfl
              · exact Or.inl rfl
              · exact Or.inr rfl
              · rcases hR.wf.s d_ hd6 i hi4 with h9 | h9 | h9 | h9 <;> rw [h9] at h8 <;> exact absurd h8 (by decide)
            refine lv_aload_n hx hb dX2_setRouteState_95 rfl (lv_at hl 2 rfl) ?_
            refine gt2 hx hb hts hown hC.1 hP 0 rfl 0 (by decide) qw118 rfl dX2_setRouteState_96 ?_
            refine lv_aload_n hx hb dX2_setRouteState_99 rfl (lv_at hl 2 rfl) ?_
            refine gt2 hx hb hts hown hC.1 hP 0 rfl 2 (by decide) qw120 rfl dX2_setRouteState_100 ?_
            refine goWi (pre := [(o, .inr (2, [.ref (h), .ref (us), .ref (lb), .int e0, .int e1, .int e2]))] ++ (usS cI cO us rg g ga nx_1 sz_1 G_1)) (wc := stW cI h a S_1 ++ ([(lb, .inl (cI, 96, .inl B_1))])) (suf := []) (kVN (As := [.ref (lb)]) (rest := []) F (c_X0_divertMoved l D cI cO _ h a S_1 (upd w (197 + 4 * d_ + i) (nI q_)) c0 hR1 lb B_1 hc (fun j hj hne => acc_st hR.wf (fun t _ h1 h2 => by rw [pk_un h1]) hi4 hd6 (hq1.elim (fun e9 => Or.inl (by rw [upd_eq, e9])) (fun e9 => Or.inr (by rw [upd_eq, e9]))) (by unfold pq; rw [pk_un (by omega)]; exact (hR.wf.p d_ hd6 i hi4 c_48).2) j hj (by rw [← h_75 j hj]; exact hne))) ywX0_divertMoved (nk15 hC) qw250 qs17 ⟨rfl, rfl⟩ ⟨Nat.le_of_ble_eq_true rfl, Nat.le_of_ble_eq_true rfl⟩ (preV (preW (va_pr0 (va_pr0 hP)) hC (va_dr (va_dr hD))) hC hP (ci := 0) (q0 := 43) rfl rfl rfl) rfl hl.1 rfl (Nat.le_of_ble_eq_true rfl) dX2_setRouteState_103 ⟨Nat.zero_le _, Nat.zero_le _⟩) (by simpa only [List.append_assoc, List.nil_append, List.append_nil] using hP) (by simpa only [List.append_assoc, List.nil_append, List.append_nil] using hD) hS hA (fun r_103 T_1 H locs h_103 hP hD hS => ?_)
            replace hP : va_P D vwCl ([(o, .inr (2, [.ref (h), .ref (us), .ref (lb), .int e0, .int e1, .int e2]))] ++ (usS cI cO us rg g ga nx_1 sz_1 G_1 ++ (stW cI h a T_1 ++ ([(lb, .inl (cI, 96, .inl B_1))])))) H := by simpa only [List.append_assoc, List.nil_append, List.append_nil] using hP
            replace hD : va_D A ([(o, .inr (2, [.ref (h), .ref (us), .ref (lb), .int e0, .int e1, .int e2]))] ++ (usS cI cO us rg g ga nx_1 sz_1 G_1 ++ (stW cI h a T_1 ++ ([(lb, .inl (cI, 96, .inl B_1))])))) := by simpa only [List.append_assoc, List.nil_append, List.append_nil] using hD
            obtain ⟨h_103, k_103⟩ := h_103
            subst h_103
            refine lv_pop hx hb dX2_setRouteState_106 rfl ?_
            refine lv_iload hx hb dX2_setRouteState_107 (lv_at hl 0 rfl) ?_
            exact hret _ (((e0, e1, e2), T_1, B_1, nx_1, sz_1, G_1)) _ ls _ _ (have him : dvN (upd w (197 + 4 * d_ + i) (nI q_)) B_1 96 = imp w (upd w (197 + 4 * d_ + i) (nI q_)) := imp_of h_75; ⟨(congrArg Prod.fst hop).symm, nxC_1 hop (by rw [him] at k_103; exact k_103.mono (by omega)) hR h_64⟩) hP hD hS dX2_setRouteState_109
        · have hop : oSr w (nI d_) (nI i) (nI q_) = (-3, 3, w) := by unfold oSr; rw [itc_t ⟨h_6.1, h_6.2, hv9⟩, hsx, if_pos c_48]; rfl
          refine lv_aload_n hx hb dX2_setRouteState_51 rfl (lv_at hl 2 rfl) ?_
          refine goWi (pre := []) (wc := [(o, .inr (2, [.ref (h), .ref (us), .ref (lb), .int e0, .int e1, .int e2]))]) (suf := usS cI cO us rg g ga ((nI (x_))) ((nI (z_))) G ++ (stW cI h a S ++ ([(lb, .inl (cI, 96, .inl B))]))) (kV (As := []) (rest := []) F (c_X2_rejected l D cI cO _ o h us lb e0 e1 e2) ywX2_rejected qw187 qw189 qs8 ⟨rfl, rfl⟩ ⟨Nat.le_of_ble_eq_true rfl, Nat.le_of_ble_eq_true rfl⟩ (preV (preW (va_pl0 hP) hC (va_dl hD)) hC hP (ci := 2) (q0 := 0) rfl rfl rfl) rfl hl.1 rfl (Nat.le_of_ble_eq_true rfl) dX2_setRouteState_52 ⟨Nat.zero_le _, Nat.zero_le _⟩) (by simpa only [List.append_assoc, List.nil_append, List.append_nil] using hP) (by simpa only [List.append_assoc, List.nil_append, List.append_nil] using hD) hS hA (fun r_52 e_2 H locs h_52 hP hD hS => ?_)
          replace hP : va_P D vwCl ([(o, .inr (2, [.ref (h), .ref (us), .ref (lb), .int e0, .int e_2, .int e2]))] ++ (usS cI cO us rg g ga ((nI (x_))) ((nI (z_))) G ++ (stW cI h a S ++ ([(lb, .inl (cI, 96, .inl B))])))) H := by simpa only [List.append_assoc, List.nil_append, List.append_nil] using hP
          replace hD : va_D A ([(o, .inr (2, [.ref (h), .ref (us), .ref (lb), .int e0, .int e_2, .int e2]))] ++ (usS cI cO us rg g ga ((nI (x_))) ((nI (z_))) G ++ (stW cI h a S ++ ([(lb, .inl (cI, 96, .inl B))])))) := by simpa only [List.append_assoc, List.nil_append, List.append_nil] using hD
          obtain ⟨h_52, k_52⟩ := h_52
          subst h_52
          exact hret _ (((e0, e_2, e2), S, B, (nI (x_)), (nI (z_)), G)) _ ls _ _ (⟨(congrArg Prod.fst hop).symm, nxC_e (e := 1) hop (by rw [k_52]; rfl) hR rfl rfl⟩) hP hD hS dX2_setRouteState_55
      · have hop : oSr w (nI d_) (nI i) z = (-2, 2, w) := itc_f (fun q => c_18 q.2.2.2)
        refine lv_aload_n hx hb dX2_setRouteState_21 rfl (lv_at hl 0 rfl) ?_
        refine goWi (pre := []) (wc := [(o, .inr (2, [.ref (h), .ref (us), .ref (lb), .int e0, .int e1, .int e2]))]) (suf := usS cI cO us rg g ga ((nI (x_))) ((nI (z_))) G ++ (stW cI h a S ++ ([(lb, .inl (cI, 96, .inl B))]))) (kV (As := []) (rest := []) F (c_X2_invalid l D cI cO _ o h us lb e0 e1 e2) ywX2_invalid qw141 qw143 qs0 ⟨rfl, rfl⟩ ⟨Nat.le_of_ble_eq_true rfl, Nat.le_of_ble_eq_true rfl⟩ (preV (preW (va_pl0 hP) hC (va_dl hD)) hC hP (ci := 2) (q0 := 0) rfl rfl rfl) rfl hl.1 rfl (Nat.le_of_ble_eq_true rfl) dX2_setRouteState_22 ⟨Nat.zero_le _, Nat.zero_le _⟩) (by simpa only [List.append_assoc, List.nil_append, List.append_nil] using hP) (by simpa only [List.append_assoc, List.nil_append, List.append_nil] using hD) hS hA (fun r_22 e_3 H locs h_22 hP hD hS => ?_)
        replace hP : va_P D vwCl ([(o, .inr (2, [.ref (h), .ref (us), .ref (lb), .int e_3, .int e1, .int e2]))] ++ (usS cI cO us rg g ga ((nI (x_))) ((nI (z_))) G ++ (stW cI h a S ++ ([(lb, .inl (cI, 96, .inl B))])))) H := by simpa only [List.append_assoc, List.nil_append, List.append_nil] using hP
        replace hD : va_D A ([(o, .inr (2, [.ref (h), .ref (us), .ref (lb), .int e_3, .int e1, .int e2]))] ++ (usS cI cO us rg g ga ((nI (x_))) ((nI (z_))) G ++ (stW cI h a S ++ ([(lb, .inl (cI, 96, .inl B))])))) := by simpa only [List.append_assoc, List.nil_append, List.append_nil] using hD
        obtain ⟨h_22, k_22⟩ := h_22
        subst h_22
        exact hret _ (((e_3, e1, e2), S, B, (nI (x_)), (nI (z_)), G)) _ ls _ _ (⟨(congrArg Prod.fst hop).symm, nxC_e (e := 0) hop (by rw [k_22]; rfl) hR rfl rfl⟩) hP hD hS dX2_setRouteState_25
  · have hop : oSr w x y z = (-2, 2, w) := itc_f (fun q => h_6 ⟨q.1, q.2.1⟩)
    refine n_if_eq (tgt := 21) hx hb dX2_setRouteState_9 (by decide) (by omega) (fun _ => ?_) (fun h => absurd h (by decide))
    refine lv_aload_n hx hb dX2_setRouteState_21 rfl (lv_at hl 0 rfl) ?_
    refine goWi (pre := []) (wc := [(o, .inr (2, [.ref (h), .ref (us), .ref (lb), .int e0, .int e1, .int e2]))]) (suf := usS cI cO us rg g ga ((nI (x_))) ((nI (z_))) G ++ (stW cI h a S ++ ([(lb, .inl (cI, 96, .inl B))]))) (kV (As := []) (rest := []) F (c_X2_invalid l D cI cO _ o h us lb e0 e1 e2) ywX2_invalid qw141 qw143 qs0 ⟨rfl, rfl⟩ ⟨Nat.le_of_ble_eq_true rfl, Nat.le_of_ble_eq_true rfl⟩ (preV (preW (va_pl0 hP) hC (va_dl hD)) hC hP (ci := 2) (q0 := 0) rfl rfl rfl) rfl hl.1 rfl (Nat.le_of_ble_eq_true rfl) dX2_setRouteState_22 ⟨Nat.zero_le _, Nat.zero_le _⟩) (by simpa only [List.append_assoc, List.nil_append, List.append_nil] using hP) (by simpa only [List.append_assoc, List.nil_append, List.append_nil] using hD) hS hA (fun r_22 e_4 H locs h_22 hP hD hS => ?_)
    replace hP : va_P D vwCl ([(o, .inr (2, [.ref (h), .ref (us), .ref (lb), .int e_4, .int e1, .int e2]))] ++ (usS cI cO us rg g ga ((nI (x_))) ((nI (z_))) G ++ (stW cI h a S ++ ([(lb, .inl (cI, 96, .inl B))])))) H := by simpa only [List.append_assoc, List.nil_append, List.append_nil] using hP
    replace hD : va_D A ([(o, .inr (2, [.ref (h), .ref (us), .ref (lb), .int e_4, .int e1, .int e2]))] ++ (usS cI cO us rg g ga ((nI (x_))) ((nI (z_))) G ++ (stW cI h a S ++ ([(lb, .inl (cI, 96, .inl B))])))) := by simpa only [List.append_assoc, List.nil_append, List.append_nil] using hD
    obtain ⟨h_22, k_22⟩ := h_22
    subst h_22
    exact hret _ (((e_4, e1, e2), S, B, (nI (x_)), (nI (z_)), G)) _ ls _ _ (⟨(congrArg Prod.fst hop).symm, nxC_e (e := 0) hop (by rw [k_22]; rfl) hR rfl rfl⟩) hP hD hS dX2_setRouteState_25

set_option maxHeartbeats 4000000 in
set_option maxRecDepth 100000 in
theorem c_X2_tick (l : Launch) (D : va_G) (cI cO : ClassId) (sz : Nat) (o us rg : Nat) (g : Nat → Nat) (ga : Nat → Nat → Nat) (h : Nat) (a : Nat → Nat) (lb : Nat) (e0 e1 e2 : Int32) (G : Nat → Nat → Nat → Int32) (S : Nat → Nat → Int32) (B : Nat → Int32) (w : Nat → Int32) (c0 : Nat) (hR : RC c0 S w) (x_ z_ : Nat) (hx4 : x_ < 4) (hz : z_ ≤ 4) (hc9 : c0 < 900) : Met l yX2_tick (Cond.code yX2_tick cX2_tick 1 (some .int) :: WL) ({ frames := 6, cells := 0, slots := 0, locals := 137 } : Room) (va_Pc [.ref (o)] (PW D cI cO ([(o, .inr (2, [.ref (h), .ref (us), .ref (lb), .int e0, .int e1, .int e2]))] ++ (usS cI cO us rg g ga ((nI (x_))) ((nI (z_))) G ++ (stW cI h a S ++ ([(lb, .inl (cI, 96, .inl B))])))) sz)) (va_Qi (fun (r : Int32) (u : CV) => r = (oTk w).1 ∧ nxC c0 x_ z_ (e0, e1, e2) G w (oTk w) u) (QB D ([(o, .inr (2, [.ref (h), .ref (us), .ref (lb), .int e0, .int e1, .int e2]))] ++ (usS cI cO us rg g ga ((nI (x_))) ((nI (z_))) G ++ (stW cI h a S ++ ([(lb, .inl (cI, 96, .inl B))])))) sz (fun (u : CV) => cvU cI cO o us rg g ga h a lb u)) (va_A ([(o, .inr (2, [.ref (h), .ref (us), .ref (lb), .int e0, .int e1, .int e2]))] ++ (usS cI cO us rg g ga ((nI (x_))) ((nI (z_))) G ++ (stW cI h a S ++ ([(lb, .inl (cI, 96, .inl B))])))) sz)) 0 0 (va_A ([(o, .inr (2, [.ref (h), .ref (us), .ref (lb), .int e0, .int e1, .int e2]))] ++ (usS cI cO us rg g ga ((nI (x_))) ((nI (z_))) G ++ (stW cI h a S ++ ([(lb, .inl (cI, 96, .inl B))])))) sz) := by
  refine wr_int (by decide) (Nat.le_of_ble_eq_true rfl) ?_
  intro p e s m args below meth c Q ls A F hP hC hD hA hret hl
  have hx := F.1
  have hb := F.2.1
  have hml := F.2.2.1
  have hown := F.2.2.2.1
  have hts := F.2.2.2.2
  replace hl : lv_has ls 1 [(0, .ref (o))] := hl
  have hS : va_S A s.heap s.heap [] := va_S.rf
  have hn4 := hR.wf.n.2
  have hc : c0 < 1000 := by omega
  have ht9 := hR.wf.t.2
  have hheq : he (tkU w) = he w := by unfold he tkU; rw [if_neg (by omega), if_neg (by omega)]
  have hop : oTk w = (nI (he w - lfN (tkU w) (he w)), 1, tickR w) := rfl
  refine lv_aload_n hx hb dX2_tick_0 rfl (lv_at hl 0 rfl) ?_
  refine gt2 hx hb hts hown hC.1 hP 0 rfl 1 (by decide) qw119 rfl dX2_tick_1 ?_
  refine lv_aload_n hx hb dX2_tick_4 rfl (lv_at hl 0 rfl) ?_
  refine gt2 hx hb hts hown hC.1 hP 0 rfl 0 (by decide) qw118 rfl dX2_tick_5 ?_
  refine goWv (pre := [(o, .inr (2, [.ref (h), .ref (us), .ref (lb), .int e0, .int e1, .int e2]))]) (wc := usS cI cO us rg g ga ((nI (x_))) ((nI (z_))) G ++ (stW cI h a S)) (suf := [(lb, .inl (cI, 96, .inl B))]) (kVN (As := [.ref (h)]) (rest := []) F (c_X1_save l D cI cO _ us rg g ga G ((nI (z_))) h a S x_ hx4 z_ hz rfl) ywX1_save (nk3 hC) qw151 qs2 ⟨rfl, rfl⟩ ⟨Nat.le_of_ble_eq_true rfl, Nat.le_of_ble_eq_true rfl⟩ (preV (preW (va_pl0 (x := usS cI cO us rg g ga ((nI (x_))) ((nI (z_))) G ++ (stW cI h a S)) (y := [(lb, .inl (cI, 96, .inl B))]) (by simpa only [List.append_assoc] using (va_pr0 hP))) hC (va_dl (x := usS cI cO us rg g ga ((nI (x_))) ((nI (z_))) G ++ (stW cI h a S)) (y := [(lb, .inl (cI, 96, .inl B))]) (by simpa only [List.append_assoc] using (va_dr hD)))) hC hP (ci := 1) (q0 := 1) rfl rfl rfl) rfl hl.1 rfl (Nat.le_of_ble_eq_true rfl) dX2_tick_8 ⟨Nat.zero_le _, Nat.zero_le _⟩) (by simpa only [List.append_assoc, List.nil_append, List.append_nil] using hP) (by simpa only [List.append_assoc, List.nil_append, List.append_nil] using hD) hS hA (fun u_1 H locs h_8 hP hD hS => ?_)
  obtain ⟨G_1, nx_1, sz_1⟩ := u_1
  replace hP : va_P D vwCl ([(o, .inr (2, [.ref (h), .ref (us), .ref (lb), .int e0, .int e1, .int e2]))] ++ (usS cI cO us rg g ga nx_1 sz_1 G_1 ++ (stW cI h a S ++ ([(lb, .inl (cI, 96, .inl B))])))) H := by simpa only [List.append_assoc, List.nil_append, List.append_nil] using hP
  replace hD : va_D A ([(o, .inr (2, [.ref (h), .ref (us), .ref (lb), .int e0, .int e1, .int e2]))] ++ (usS cI cO us rg g ga nx_1 sz_1 G_1 ++ (stW cI h a S ++ ([(lb, .inl (cI, 96, .inl B))])))) := by simpa only [List.append_assoc, List.nil_append, List.append_nil] using hD
  refine lv_aload_n hx hb dX2_tick_11 rfl (lv_at hl 0 rfl) ?_
  refine gt2 hx hb hts hown hC.1 hP 0 rfl 0 (by decide) qw118 rfl dX2_tick_12 ?_
  refine lv_dup hx hb dX2_tick_15 rfl ?_
  refine gtN0 hx hb hts hown hC.1 hP 43 rfl 0 (by decide) (nf0 hC) rfl dX2_tick_16 ?_
  refine w_cv (y := (nI (tm w))) hR.t ?_
  refine lv_iconst (v := (nI (1))) hx hb dX2_tick_19 (by decide) ?_
  refine n_iadd hx hb dX2_tick_20  ?_
  refine ptN0 (ty := .int) hx hb hts hown hC.1 hP hD hS 43 rfl 0 (by decide) (nf0 hC) rfl (by decide +kernel) rfl rfl (Nat.le_of_ble_eq_true rfl) dX2_tick_21 (fun H locs hP hD hS => ?_)
  obtain ⟨S_1, hS_1⟩ : ∃ z : Nat → Nat → Int32, z = va_up S 0 (fun _ => (nI ((tm w) + 1))) := ⟨_, rfl⟩
  replace hP : va_P D vwCl ([(o, .inr (2, [.ref (h), .ref (us), .ref (lb), .int e0, .int e1, .int e2]))] ++ (usS cI cO us rg g ga nx_1 sz_1 G_1 ++ (stW cI h a S_1 ++ ([(lb, .inl (cI, 96, .inl B))])))) H := by rw [hS_1]; exact hP
  replace hD : va_D A ([(o, .inr (2, [.ref (h), .ref (us), .ref (lb), .int e0, .int e1, .int e2]))] ++ (usS cI cO us rg g ga nx_1 sz_1 G_1 ++ (stW cI h a S_1 ++ ([(lb, .inl (cI, 96, .inl B))])))) := by rw [hS_1]; exact hD
  have hR1 : RC (c0 + 1) S_1 (tkU w) := by subst hS_1; exact RC_tick hc hR
  refine lv_aload_n hx hb dX2_tick_24 rfl (lv_at hl 0 rfl) ?_
  refine gt2 hx hb hts hown hC.1 hP 0 rfl 0 (by decide) qw118 rfl dX2_tick_25 ?_
  refine goWi (pre := [(o, .inr (2, [.ref (h), .ref (us), .ref (lb), .int e0, .int e1, .int e2]))] ++ (usS cI cO us rg g ga nx_1 sz_1 G_1)) (wc := stW cI h a S_1) (suf := [(lb, .inl (cI, 96, .inl B))]) (kVN (As := []) (rest := []) F (c_X0_releaseHeld l D cI cO _ h a S_1 (tkU w) (c0 + 1) hR1 (by omega)) ywX0_releaseHeld (nk26 hC) qw363 qs25 ⟨rfl, rfl⟩ ⟨Nat.le_of_ble_eq_true rfl, Nat.le_of_ble_eq_true rfl⟩ (preV (preW (va_pl0 (va_pr0 (va_pr0 hP))) hC (va_dl (va_dr (va_dr hD)))) hC hP (ci := 0) (q0 := 43) rfl rfl rfl) rfl hl.1 rfl (Nat.le_of_ble_eq_true rfl) dX2_tick_28 ⟨Nat.zero_le _, Nat.zero_le _⟩) (by simpa only [List.append_assoc, List.nil_append, List.append_nil] using hP) (by simpa only [List.append_assoc, List.nil_append, List.append_nil] using hD) hS hA (fun r_28 T_1 H locs h_28 hP hD hS => ?_)
  replace hP : va_P D vwCl ([(o, .inr (2, [.ref (h), .ref (us), .ref (lb), .int e0, .int e1, .int e2]))] ++ (usS cI cO us rg g ga nx_1 sz_1 G_1 ++ (stW cI h a T_1 ++ ([(lb, .inl (cI, 96, .inl B))])))) H := by simpa only [List.append_assoc, List.nil_append, List.append_nil] using hP
  replace hD : va_D A ([(o, .inr (2, [.ref (h), .ref (us), .ref (lb), .int e0, .int e1, .int e2]))] ++ (usS cI cO us rg g ga nx_1 sz_1 G_1 ++ (stW cI h a T_1 ++ ([(lb, .inl (cI, 96, .inl B))])))) := by simpa only [List.append_assoc, List.nil_append, List.append_nil] using hD
  obtain ⟨h_28, k_28⟩ := h_28
  subst h_28
  exact hret _ (((e0, e1, e2), T_1, B, nx_1, sz_1, G_1)) _ ls _ _ (⟨(by rw [hheq, hop]), nxC_1 hop (k_28) hR h_8⟩) hP hD hS dX2_tick_31

set_option maxHeartbeats 4000000 in
set_option maxRecDepth 100000 in
theorem c_X2_undo (l : Launch) (D : va_G) (cI cO : ClassId) (sz : Nat) (o us rg : Nat) (g : Nat → Nat) (ga : Nat → Nat → Nat) (h : Nat) (a : Nat → Nat) (lb : Nat) (e0 e1 e2 : Int32) (G : Nat → Nat → Nat → Int32) (S : Nat → Nat → Int32) (B : Nat → Int32) (w : Nat → Int32) (c0 : Nat) (hR : RC c0 S w) (x_ z_ : Nat) (hx4 : x_ < 4) (hz : z_ ≤ 4) (hc9 : c0 < 900) : Met l yX2_undo (Cond.code yX2_undo cX2_undo 1 (some .int) :: WL) ({ frames := 4, cells := 0, slots := 0, locals := 103 } : Room) (va_Pc [.ref (o)] (PW D cI cO ([(o, .inr (2, [.ref (h), .ref (us), .ref (lb), .int e0, .int e1, .int e2]))] ++ (usS cI cO us rg g ga ((nI (x_))) ((nI (z_))) G ++ (stW cI h a S ++ ([(lb, .inl (cI, 96, .inl B))])))) sz)) (va_Qi (fun (r : Int32) (u : CV) => (z_ = 0 → r = -3 ∧ u.1 = incE (e0, e1, e2) 1 ∧ RC c0 u.2.1 w ∧ u.2.2.2 = (nI x_, nI z_, G)) ∧ (¬ z_ = 0 → r = nI (z_ - 1) ∧ u.1 = (e0, e1, e2) ∧ CPY u.2.1 (G ((x_ + 3) % 4)) ∧ u.2.2.2 = (nI ((x_ + 3) % 4), nI (z_ - 1), G))) (QB D ([(o, .inr (2, [.ref (h), .ref (us), .ref (lb), .int e0, .int e1, .int e2]))] ++ (usS cI cO us rg g ga ((nI (x_))) ((nI (z_))) G ++ (stW cI h a S ++ ([(lb, .inl (cI, 96, .inl B))])))) sz (fun (u : CV) => cvU cI cO o us rg g ga h a lb u)) (va_A ([(o, .inr (2, [.ref (h), .ref (us), .ref (lb), .int e0, .int e1, .int e2]))] ++ (usS cI cO us rg g ga ((nI (x_))) ((nI (z_))) G ++ (stW cI h a S ++ ([(lb, .inl (cI, 96, .inl B))])))) sz)) 0 0 (va_A ([(o, .inr (2, [.ref (h), .ref (us), .ref (lb), .int e0, .int e1, .int e2]))] ++ (usS cI cO us rg g ga ((nI (x_))) ((nI (z_))) G ++ (stW cI h a S ++ ([(lb, .inl (cI, 96, .inl B))])))) sz) := by
  refine wr_int (by decide) (Nat.le_of_ble_eq_true rfl) ?_
  intro p e s m args below meth c Q ls A F hP hC hD hA hret hl
  have hx := F.1
  have hb := F.2.1
  have hml := F.2.2.1
  have hown := F.2.2.2.1
  have hts := F.2.2.2.2
  replace hl : lv_has ls 1 [(0, .ref (o))] := hl
  have hS : va_S A s.heap s.heap [] := va_S.rf
  have hn4 := hR.wf.n.2
  have hc : c0 < 1000 := by omega
  refine lv_aload_n hx hb dX2_undo_0 rfl (lv_at hl 0 rfl) ?_
  refine gt2 hx hb hts hown hC.1 hP 0 rfl 1 (by decide) qw119 rfl dX2_undo_1 ?_
  refine gtN1 hx hb hts hown hC.1 hP 1 rfl 2 (by decide) (nf13 hC) rfl dX2_undo_4 ?_
  refine n_if_ne (tgt := 15) hx hb dX2_undo_7 (by decide) (by omega) (fun c_7 => ?_) (fun c_7 => ?_)
  · refine lv_aload_n hx hb dX2_undo_15 rfl (lv_at hl 0 rfl) ?_
    refine gt2 hx hb hts hown hC.1 hP 0 rfl 1 (by decide) qw119 rfl dX2_undo_16 ?_
    refine lv_aload_n hx hb dX2_undo_19 rfl (lv_at hl 0 rfl) ?_
    refine gt2 hx hb hts hown hC.1 hP 0 rfl 0 (by decide) qw118 rfl dX2_undo_20 ?_
    refine goWv (pre := [(o, .inr (2, [.ref (h), .ref (us), .ref (lb), .int e0, .int e1, .int e2]))]) (wc := usS cI cO us rg g ga ((nI (x_))) ((nI (z_))) G ++ (stW cI h a S)) (suf := [(lb, .inl (cI, 96, .inl B))]) (kVN (As := [.ref (h)]) (rest := []) F (c_X1_takeBackInto l D cI cO _ us rg g ga G ((nI (z_))) h a S x_ hx4 z_ hz rfl (by omega)) ywX1_takeBackInto (nk29 hC) qw413 qs27 ⟨rfl, rfl⟩ ⟨Nat.le_of_ble_eq_true rfl, Nat.le_of_ble_eq_true rfl⟩ (preV (preW (va_pl0 (x := usS cI cO us rg g ga ((nI (x_))) ((nI (z_))) G ++ (stW cI h a S)) (y := [(lb, .inl (cI, 96, .inl B))]) (by simpa only [List.append_assoc] using (va_pr0 hP))) hC (va_dl (x := usS cI cO us rg g ga ((nI (x_))) ((nI (z_))) G ++ (stW cI h a S)) (y := [(lb, .inl (cI, 96, .inl B))]) (by simpa only [List.append_assoc] using (va_dr hD)))) hC hP (ci := 1) (q0 := 1) rfl rfl rfl) rfl hl.1 rfl (Nat.le_of_ble_eq_true rfl) dX2_undo_23 ⟨Nat.zero_le _, Nat.zero_le _⟩) (by simpa only [List.append_assoc, List.nil_append, List.append_nil] using hP) (by simpa only [List.append_assoc, List.nil_append, List.append_nil] using hD) hS hA (fun u_1 H locs h_23 hP hD hS => ?_)
    obtain ⟨T_1, nx_1, sz_1⟩ := u_1
    replace hP : va_P D vwCl ([(o, .inr (2, [.ref (h), .ref (us), .ref (lb), .int e0, .int e1, .int e2]))] ++ (usS cI cO us rg g ga nx_1 sz_1 G ++ (stW cI h a T_1 ++ ([(lb, .inl (cI, 96, .inl B))])))) H := by simpa only [List.append_assoc, List.nil_append, List.append_nil] using hP
    replace hD : va_D A ([(o, .inr (2, [.ref (h), .ref (us), .ref (lb), .int e0, .int e1, .int e2]))] ++ (usS cI cO us rg g ga nx_1 sz_1 G ++ (stW cI h a T_1 ++ ([(lb, .inl (cI, 96, .inl B))])))) := by simpa only [List.append_assoc, List.nil_append, List.append_nil] using hD
    refine lv_aload_n hx hb dX2_undo_26 rfl (lv_at hl 0 rfl) ?_
    refine gt2 hx hb hts hown hC.1 hP 0 rfl 1 (by decide) qw119 rfl dX2_undo_27 ?_
    refine gtN1 hx hb hts hown hC.1 hP 1 rfl 2 (by decide) (nf13 hC) rfl dX2_undo_30 ?_
    refine w_cv (y := (nI (z_ - 1))) h_23.2.2 ?_
    exact hret _ (((e0, e1, e2), T_1, B, nx_1, sz_1, G)) _ ls _ _ (⟨fun e9 => absurd e9 (by omega), fun _ => ⟨rfl, rfl, h_23.1, congr (congrArg Prod.mk h_23.2.1) (congrArg (fun q => (q, G)) h_23.2.2)⟩⟩) hP hD hS dX2_undo_33
  · refine lv_aload_n hx hb dX2_undo_10 rfl (lv_at hl 0 rfl) ?_
    refine goWi (pre := []) (wc := [(o, .inr (2, [.ref (h), .ref (us), .ref (lb), .int e0, .int e1, .int e2]))]) (suf := usS cI cO us rg g ga ((nI (x_))) ((nI (z_))) G ++ (stW cI h a S ++ ([(lb, .inl (cI, 96, .inl B))]))) (kV (As := []) (rest := []) F (c_X2_rejected l D cI cO _ o h us lb e0 e1 e2) ywX2_rejected qw187 qw189 qs8 ⟨rfl, rfl⟩ ⟨Nat.le_of_ble_eq_true rfl, Nat.le_of_ble_eq_true rfl⟩ (preV (preW (va_pl0 hP) hC (va_dl hD)) hC hP (ci := 2) (q0 := 0) rfl rfl rfl) rfl hl.1 rfl (Nat.le_of_ble_eq_true rfl) dX2_undo_11 ⟨Nat.zero_le _, Nat.zero_le _⟩) (by simpa only [List.append_assoc, List.nil_append, List.append_nil] using hP) (by simpa only [List.append_assoc, List.nil_append, List.append_nil] using hD) hS hA (fun r_11 e_1 H locs h_11 hP hD hS => ?_)
    replace hP : va_P D vwCl ([(o, .inr (2, [.ref (h), .ref (us), .ref (lb), .int e0, .int e_1, .int e2]))] ++ (usS cI cO us rg g ga ((nI (x_))) ((nI (z_))) G ++ (stW cI h a S ++ ([(lb, .inl (cI, 96, .inl B))])))) H := by simpa only [List.append_assoc, List.nil_append, List.append_nil] using hP
    replace hD : va_D A ([(o, .inr (2, [.ref (h), .ref (us), .ref (lb), .int e0, .int e_1, .int e2]))] ++ (usS cI cO us rg g ga ((nI (x_))) ((nI (z_))) G ++ (stW cI h a S ++ ([(lb, .inl (cI, 96, .inl B))])))) := by simpa only [List.append_assoc, List.nil_append, List.append_nil] using hD
    obtain ⟨h_11, k_11⟩ := h_11
    subst h_11
    exact hret _ (((e0, e_1, e2), S, B, (nI (x_)), (nI (z_)), G)) _ ls _ _ (⟨fun _ => ⟨rfl, by rw [k_11]; rfl, hR, rfl⟩, fun e9 => absurd (by omega) e9⟩) hP hD hS dX2_undo_14

set_option maxHeartbeats 4000000 in
set_option maxRecDepth 100000 in
theorem c_X2_digest (l : Launch) (D : va_G) (cI cO : ClassId) (o us rg : Nat) (g : Nat → Nat) (ga : Nat → Nat → Nat) (h : Nat) (a : Nat → Nat) (lb : Nat) (e0 e1 e2 : Int32) (G : Nat → Nat → Nat → Int32) (S : Nat → Nat → Int32) (B : Nat → Int32) (w : Nat → Int32) (c0 : Nat) (hR : RC c0 S w) (x_ z_ : Nat) (hx4 : x_ < 4) (hz : z_ ≤ 4) (hc9 : c0 < 900) : Met l yX2_digest (Cond.code yX2_digest cX2_digest 4 (some .long) :: WL) ({ frames := 4, cells := 0, slots := 0, locals := 96 } : Room) (va_Pc [.ref (o)] (PR D cI cO ([(o, .inr (2, [.ref (h), .ref (us), .ref (lb), .int e0, .int e1, .int e2]))] ++ (usS cI cO us rg g ga ((nI (x_))) ((nI (z_))) G ++ (stW cI h a S ++ ([(lb, .inl (cI, 96, .inl B))])))))) (vp_Sl (fun r => r = mxH w (mxDs w (mxS w (mx (mxC w (mx (mx (mx (mx 12144 e0) e1) e2) (nI z_))) (nI (nn w))) (nn w)) 6))) 0 0 (fun _ => False) := by
  refine rd_long (by decide) (Nat.le_of_ble_eq_true rfl) ?_
  intro p e s m args below meth c Q ls F hP hC hret hl
  have hx := F.1
  have hb := F.2.1
  have hml := F.2.2.1
  have hown := F.2.2.2.1
  have hts := F.2.2.2.2
  replace hl : lv_has ls 4 [(0, .ref (o))] := hl
  have hn4 := hR.wf.n.2
  have hc : c0 < 1000 := by omega
  refine lv_ldc2 (own := "SignallingPoint") (v := 12144) hx hb hown (hts _ qw423) dX2_digest_0 ?_
  refine lv_lstore_n (lv' := [(1, .long (12144)), (0, .ref (o))]) hx hb dX2_digest_3 rfl hl (by decide) rfl (fun ls hl => ?_)
  refine lv_lload_n hx hb dX2_digest_4 rfl (lv_at hl 0 rfl) ?_
  refine lv_aload_n hx hb dX2_digest_5 rfl (lv_at hl 1 rfl) ?_
  refine gt2 hx hb hts hown hC.1 hP 0 rfl 3 (by decide) qw121 rfl dX2_digest_6 ?_
  refine goRl (kS (As := [.long (12144), .int (e0)]) (rest := []) F (c_X2_mix l D cI cO (12144) (e0)) ywX2_mix qw424 qw425  ⟨rfl, rfl⟩ ⟨Nat.le_of_ble_eq_true rfl, Nat.le_of_ble_eq_true rfl⟩ (preR (fun k q h => by simp at h) hC) rfl hl.1 rfl (Nat.le_of_ble_eq_true rfl) dX2_digest_9 ⟨Nat.zero_le _, Nat.zero_le _⟩) (fun r_9 h_9 => ?_)
  subst h_9
  refine lv_lstore_n (lv' := [(1, .long (mx 12144 (e0))), (0, .ref (o))]) hx hb dX2_digest_12 rfl hl (by decide) rfl (fun ls hl => ?_)
  refine lv_lload_n hx hb dX2_digest_13 rfl (lv_at hl 0 rfl) ?_
  refine lv_aload_n hx hb dX2_digest_14 rfl (lv_at hl 1 rfl) ?_
  refine gt2 hx hb hts hown hC.1 hP 0 rfl 4 (by decide) qw122 rfl dX2_digest_15 ?_
  refine goRl (kS (As := [.long (mx 12144 (e0)), .int (e1)]) (rest := []) F (c_X2_mix l D cI cO (mx 12144 (e0)) (e1)) ywX2_mix qw424 qw425  ⟨rfl, rfl⟩ ⟨Nat.le_of_ble_eq_true rfl, Nat.le_of_ble_eq_true rfl⟩ (preR (fun k q h => by simp at h) hC) rfl hl.1 rfl (Nat.le_of_ble_eq_true rfl) dX2_digest_18 ⟨Nat.zero_le _, Nat.zero_le _⟩) (fun r_18 h_18 => ?_)
  subst h_18
  refine lv_lstore_n (lv' := [(1, .long (mx (mx 12144 (e0)) (e1))), (0, .ref (o))]) hx hb dX2_digest_21 rfl hl (by decide) rfl (fun ls hl => ?_)
  refine lv_lload_n hx hb dX2_digest_22 rfl (lv_at hl 0 rfl) ?_
  refine lv_aload_n hx hb dX2_digest_23 rfl (lv_at hl 1 rfl) ?_
  refine gt2 hx hb hts hown hC.1 hP 0 rfl 5 (by decide) qw123 rfl dX2_digest_24 ?_
  refine goRl (kS (As := [.long (mx (mx 12144 (e0)) (e1)), .int (e2)]) (rest := []) F (c_X2_mix l D cI cO (mx (mx 12144 (e0)) (e1)) (e2)) ywX2_mix qw424 qw425  ⟨rfl, rfl⟩ ⟨Nat.le_of_ble_eq_true rfl, Nat.le_of_ble_eq_true rfl⟩ (preR (fun k q h => by simp at h) hC) rfl hl.1 rfl (Nat.le_of_ble_eq_true rfl) dX2_digest_27 ⟨Nat.zero_le _, Nat.zero_le _⟩) (fun r_27 h_27 => ?_)
  subst h_27
  refine lv_lstore_n (lv' := [(1, .long (mx (mx (mx 12144 (e0)) (e1)) (e2))), (0, .ref (o))]) hx hb dX2_digest_30 rfl hl (by decide) rfl (fun ls hl => ?_)
  refine lv_lload_n hx hb dX2_digest_31 rfl (lv_at hl 0 rfl) ?_
  refine lv_aload_n hx hb dX2_digest_32 rfl (lv_at hl 1 rfl) ?_
  refine gt2 hx hb hts hown hC.1 hP 0 rfl 1 (by decide) qw119 rfl dX2_digest_33 ?_
  refine gtN1 hx hb hts hown hC.1 hP 1 rfl 2 (by decide) (nf13 hC) rfl dX2_digest_36 ?_
  refine goRl (kS (As := [.long (mx (mx (mx 12144 (e0)) (e1)) (e2)), .int (nI (z_))]) (rest := []) F (c_X2_mix l D cI cO (mx (mx (mx 12144 (e0)) (e1)) (e2)) (nI (z_))) ywX2_mix qw424 qw425  ⟨rfl, rfl⟩ ⟨Nat.le_of_ble_eq_true rfl, Nat.le_of_ble_eq_true rfl⟩ (preR (fun k q h => by simp at h) hC) rfl hl.1 rfl (Nat.le_of_ble_eq_true rfl) dX2_digest_39 ⟨Nat.zero_le _, Nat.zero_le _⟩) (fun r_39 h_39 => ?_)
  subst h_39
  refine lv_lstore_n (lv' := [(1, .long (mx (mx (mx (mx 12144 (e0)) (e1)) (e2)) (nI (z_)))), (0, .ref (o))]) hx hb dX2_digest_42 rfl hl (by decide) rfl (fun ls hl => ?_)
  refine lv_aload_n hx hb dX2_digest_43 rfl (lv_at hl 1 rfl) ?_
  refine gt2 hx hb hts hown hC.1 hP 0 rfl 0 (by decide) qw118 rfl dX2_digest_44 ?_
  refine lv_lload_n hx hb dX2_digest_47 rfl (lv_at hl 0 rfl) ?_
  refine goRl (kVN (As := [.long (mx (mx (mx (mx 12144 (e0)) (e1)) (e2)) (nI (z_)))]) (rest := []) F (c_X0_mixCounters l D cI cO h a S w c0 hR (mx (mx (mx (mx 12144 (e0)) (e1)) (e2)) (nI (z_)))) ywX0_mixCounters (nk30 hC) qw430 qs28 ⟨rfl, rfl⟩ ⟨Nat.le_of_ble_eq_true rfl, Nat.le_of_ble_eq_true rfl⟩ (preV (preR (va_pl0 (va_pr0 (va_pr0 hP))) hC) hC hP (ci := 0) (q0 := 43) rfl rfl rfl) rfl hl.1 rfl (Nat.le_of_ble_eq_true rfl) dX2_digest_48 ⟨Nat.zero_le _, Nat.zero_le _⟩) (fun r_48 h_48 => ?_)
  subst h_48
  refine lv_lstore_n (lv' := [(1, .long (mxC w (mx (mx (mx (mx 12144 (e0)) (e1)) (e2)) (nI (z_))))), (0, .ref (o))]) hx hb dX2_digest_51 rfl hl (by decide) rfl (fun ls hl => ?_)
  refine lv_aload_n hx hb dX2_digest_52 rfl (lv_at hl 1 rfl) ?_
  refine gt2 hx hb hts hown hC.1 hP 0 rfl 0 (by decide) qw118 rfl dX2_digest_53 ?_
  refine lv_lload_n hx hb dX2_digest_56 rfl (lv_at hl 0 rfl) ?_
  refine goRl (kVN (As := [.long (mxC w (mx (mx (mx (mx 12144 (e0)) (e1)) (e2)) (nI (z_))))]) (rest := []) F (c_X0_mixLinksets l D cI cO h a S w c0 hR (mxC w (mx (mx (mx (mx 12144 (e0)) (e1)) (e2)) (nI (z_)))) hc) ywX0_mixLinksets (nk32 hC) qw435 qs29 ⟨rfl, rfl⟩ ⟨Nat.le_of_ble_eq_true rfl, Nat.le_of_ble_eq_true rfl⟩ (preV (preR (va_pl0 (va_pr0 (va_pr0 hP))) hC) hC hP (ci := 0) (q0 := 43) rfl rfl rfl) rfl hl.1 rfl (Nat.le_of_ble_eq_true rfl) dX2_digest_57 ⟨Nat.zero_le _, Nat.zero_le _⟩) (fun r_57 h_57 => ?_)
  subst h_57
  refine lv_lstore_n (lv' := [(1, .long (mxS w (mx (mxC w (mx (mx (mx (mx 12144 (e0)) (e1)) (e2)) (nI (z_)))) (nI (nn w))) (nn w))), (0, .ref (o))]) hx hb dX2_digest_60 rfl hl (by decide) rfl (fun ls hl => ?_)
  refine lv_iconst (v := (nI (0))) hx hb dX2_digest_61 (by decide) ?_
  refine lv_istore_n (lv' := [(3, .int (nI (0))), (1, .long (mxS w (mx (mxC w (mx (mx (mx (mx 12144 (e0)) (e1)) (e2)) (nI (z_)))) (nI (nn w))) (nn w))), (0, .ref (o))]) hx hb dX2_digest_62 rfl hl (by decide) rfl (fun ls hl => ?_)
  have lp_63 : ∀ (fu_63 : Nat) (d_ : Nat) (g2 : Int64) (ls : Array Slot), 6 - d_ < fu_63 → (d_ ≤ 6) → (g2 = mxDs w (mxS w (mx (mxC w (mx (mx (mx (mx 12144 e0) e1) e2) (nI z_))) (nI (nn w))) (nn w)) d_) → lv_has ls 4 [(3, .int (nI (d_))), (1, .long (g2)), (0, .ref (o))] → W p l e ({ frames := 4, cells := 0, slots := 0, locals := 96 } : Room) s m args below meth c s.heap [] 0 0 Q (F0 m 63 ls []) := by
    intro fu_63
    induction fu_63 with
    | zero => intro d_ g2 ls hmu_63; exact absurd hmu_63 (Nat.not_lt_zero _)
    | succ fu_63 ih_63 =>
      intro d_ g2 ls hmu_63 hd_ hg2 hl
      refine lv_iload_n hx hb dX2_digest_63 rfl (lv_at hl 0 rfl) ?_
      refine lv_bipush (v := (nI (6))) hx hb dX2_digest_64 (by decide) ?_
      refine n_icmp_ge (tgt := 85) hx hb dX2_digest_66 (by decide) (by omega) (by omega) (fun c_66 => ?_) (fun c_66 => ?_)
      · refine lv_aload_n hx hb dX2_digest_85 rfl (lv_at hl 2 rfl) ?_
        refine gt2 hx hb hts hown hC.1 hP 0 rfl 0 (by decide) qw118 rfl dX2_digest_86 ?_
        refine lv_lload_n hx hb dX2_digest_89 rfl (lv_at hl 1 rfl) ?_
        refine goRl (kVN (As := [.long (g2)]) (rest := []) F (c_X0_mixHolding l D cI cO h a S w c0 hR (g2) hc) ywX0_mixHolding (nk34 hC) qw448 qs32 ⟨rfl, rfl⟩ ⟨Nat.le_of_ble_eq_true rfl, Nat.le_of_ble_eq_true rfl⟩ (preV (preR (va_pl0 (va_pr0 (va_pr0 hP))) hC) hC hP (ci := 0) (q0 := 43) rfl rfl rfl) rfl hl.1 rfl (Nat.le_of_ble_eq_true rfl) dX2_digest_90 ⟨Nat.zero_le _, Nat.zero_le _⟩) (fun r_90 h_90 => ?_)
        subst h_90
        exact hret _ _ ls (by rw [hg2, show d_ = 6 by omega]) dX2_digest_93
      · refine lv_aload_n hx hb dX2_digest_69 rfl (lv_at hl 2 rfl) ?_
        refine gt2 hx hb hts hown hC.1 hP 0 rfl 0 (by decide) qw118 rfl dX2_digest_70 ?_
        refine lv_lload_n hx hb dX2_digest_73 rfl (lv_at hl 1 rfl) ?_
        refine lv_iload_n hx hb dX2_digest_74 rfl (lv_at hl 0 rfl) ?_
        refine goRl (kVN (As := [.long (g2), .int (nI (d_))]) (rest := []) F (c_X0_mixDestination l D cI cO h a S w c0 hR (g2) (d_) hc (by omega)) ywX0_mixDestination (nk33 hC) qw444 qs31 ⟨rfl, rfl⟩ ⟨Nat.le_of_ble_eq_true rfl, Nat.le_of_ble_eq_true rfl⟩ (preV (preR (va_pl0 (va_pr0 (va_pr0 hP))) hC) hC hP (ci := 0) (q0 := 43) rfl rfl rfl) rfl hl.1 rfl (Nat.le_of_ble_eq_true rfl) dX2_digest_75 ⟨Nat.zero_le _, Nat.zero_le _⟩) (fun r_75 h_75 => ?_)
        subst h_75
        refine lv_lstore_n (lv' := [(1, .long (mxD w d_ g2)), (3, .int (nI (d_))), (0, .ref (o))]) hx hb dX2_digest_78 rfl hl (by decide) rfl (fun ls hl => ?_)
        refine n_iinc (a := d_) (b := 1) (lv' := [(3, .int (nI (d_ + 1))), (1, .long (mxD w d_ g2)), (0, .ref (o))]) hx hb dX2_digest_79 hl (k := 1) rfl rfl (by decide) rfl (fun ls hl => ?_)
        refine lv_goto (tgt := 63) hx hb dX2_digest_82 (by decide) ?_
        exact ih_63 (d_ + 1) (mxD w d_ g2) ls (by omega) (by omega) (by rw [hg2]; rfl) (lv_sub hl [0, 1, 2] rfl)
  exact lp_63 _ (0) (mxS w (mx (mxC w (mx (mx (mx (mx 12144 (e0)) (e1)) (e2)) (nI (z_)))) (nI (nn w))) (nn w)) ls (Nat.lt_succ_self _) (Nat.zero_le _) (rfl) (lv_sub hl [0, 1, 2] rfl)
