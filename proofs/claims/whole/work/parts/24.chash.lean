set_option maxHeartbeats 4000000 in
set_option maxRecDepth 100000 in
theorem c_X2_mix (l : Launch) (D : va_G) (cI cO : ClassId) (g_ : Int64) (v_ : Int32)  : Met l yX2_mix (Cond.code yX2_mix cX2_mix 3 (some .long) :: WL) ({ frames := 0, cells := 0, slots := 0, locals := 0 } : Room) (va_Pc [.long (g_), .int (v_)] (PR D cI cO ([]))) (vp_Sl (fun r => r = mx g_ v_)) 0 0 (fun _ => False) := by
  refine rd_long (by decide) (Nat.le_of_ble_eq_true rfl) ?_
  intro p e s m args below meth c Q ls F hP hC hret hl
  have hx := F.1
  have hb := F.2.1
  have hml := F.2.2.1
  have hown := F.2.2.2.1
  have hts := F.2.2.2.2
  replace hl : lv_has ls 3 [(0, .long (g_)), (2, .int (v_))] := hl
  refine lv_ldc2 (own := "SignallingPoint") (v := 31) hx hb hown (hts _ qw427) dX2_mix_0 ?_
  refine lv_lload_n hx hb dX2_mix_3 rfl (lv_at hl 0 rfl) ?_
  refine lv_lmul hx hb dX2_mix_4 ?_
  refine lv_iload_n hx hb dX2_mix_5 rfl (lv_at hl 1 rfl) ?_
  refine lv_i2l (v := Int32.toInt64 (v_)) hx hb dX2_mix_6 rfl ?_
  refine lv_ladd hx hb dX2_mix_7 ?_
  exact hret _ _ ls (rfl) dX2_mix_8

set_option maxHeartbeats 4000000 in
set_option maxRecDepth 100000 in
theorem c_X0_mixCounters (l : Launch) (D : va_G) (cI cO : ClassId) (h : Nat) (a : Nat → Nat) (S : Nat → Nat → Int32) (w : Nat → Int32) (c0 : Nat) (hR : RC c0 S w) (g_ : Int64)  : Met l yX0_mixCounters (Cond.code yX0_mixCounters cX0_mixCounters 5 (some .long) :: WL) ({ frames := 1, cells := 0, slots := 0, locals := 22 } : Room) (va_Pc [.ref (h), .long (g_)] (PR D cI cO (stW cI h a S))) (vp_Sl (fun r => r = mxC w g_)) 0 0 (fun _ => False) := by
  refine rd_long (by decide) (Nat.le_of_ble_eq_true rfl) ?_
  intro p e s m args below meth c Q ls F hP hC hret hl
  have hx := F.1
  have hb := F.2.1
  have hml := F.2.2.1
  have hown := F.2.2.2.1
  have hts := F.2.2.2.2
  replace hl : lv_has ls 5 [(0, .ref (h)), (1, .long (g_))] := hl
  have hn4 := hR.wf.n.2
  refine lv_lload_n hx hb dX0_mixCounters_0 rfl (lv_at hl 1 rfl) ?_
  refine lv_aload_n hx hb dX0_mixCounters_1 rfl (lv_at hl 0 rfl) ?_
  refine gt0 hx hb hts hown hC.1 hP 0 rfl 0 (by decide) qw26 rfl dX0_mixCounters_2 ?_
  refine w_cv (y := (w 462)) hR.i.1 ?_
  refine goRl (kSN (As := [.long (g_), .int (w 462)]) (rest := []) F (c_X2_mix l D cI cO (g_) (w 462)) ywX2_mix (nk31 hC) qw425  ⟨rfl, rfl⟩ ⟨Nat.le_of_ble_eq_true rfl, Nat.le_of_ble_eq_true rfl⟩ (preR (fun k q h => by simp at h) hC) rfl hl.1 rfl (Nat.le_of_ble_eq_true rfl) dX0_mixCounters_5 ⟨Nat.zero_le _, Nat.zero_le _⟩) (fun r_5 h_5 => ?_)
  subst h_5
  refine lv_lstore_n (lv' := [(3, .long (mx g_ (w 462))), (0, .ref (h)), (1, .long (g_))]) hx hb dX0_mixCounters_8 rfl hl (by decide) rfl (fun ls hl => ?_)
  refine lv_lload_n hx hb dX0_mixCounters_9 rfl (lv_at hl 0 rfl) ?_
  refine lv_aload_n hx hb dX0_mixCounters_10 rfl (lv_at hl 1 rfl) ?_
  refine gt0 hx hb hts hown hC.1 hP 0 rfl 1 (by decide) qw28 rfl dX0_mixCounters_11 ?_
  refine w_cv (y := (w 463)) hR.i.2.1 ?_
  refine goRl (kSN (As := [.long (mx g_ (w 462)), .int (w 463)]) (rest := []) F (c_X2_mix l D cI cO (mx g_ (w 462)) (w 463)) ywX2_mix (nk31 hC) qw425  ⟨rfl, rfl⟩ ⟨Nat.le_of_ble_eq_true rfl, Nat.le_of_ble_eq_true rfl⟩ (preR (fun k q h => by simp at h) hC) rfl hl.1 rfl (Nat.le_of_ble_eq_true rfl) dX0_mixCounters_14 ⟨Nat.zero_le _, Nat.zero_le _⟩) (fun r_14 h_14 => ?_)
  subst h_14
  refine lv_lstore_n (lv' := [(3, .long (mx (mx g_ (w 462)) (w 463))), (0, .ref (h)), (1, .long (g_))]) hx hb dX0_mixCounters_17 rfl hl (by decide) rfl (fun ls hl => ?_)
  refine lv_lload_n hx hb dX0_mixCounters_18 rfl (lv_at hl 0 rfl) ?_
  refine lv_aload_n hx hb dX0_mixCounters_19 rfl (lv_at hl 1 rfl) ?_
  refine gt0 hx hb hts hown hC.1 hP 0 rfl 2 (by decide) qw30 rfl dX0_mixCounters_20 ?_
  refine w_cv (y := (w 464)) hR.i.2.2.1 ?_
  refine goRl (kSN (As := [.long (mx (mx g_ (w 462)) (w 463)), .int (w 464)]) (rest := []) F (c_X2_mix l D cI cO (mx (mx g_ (w 462)) (w 463)) (w 464)) ywX2_mix (nk31 hC) qw425  ⟨rfl, rfl⟩ ⟨Nat.le_of_ble_eq_true rfl, Nat.le_of_ble_eq_true rfl⟩ (preR (fun k q h => by simp at h) hC) rfl hl.1 rfl (Nat.le_of_ble_eq_true rfl) dX0_mixCounters_23 ⟨Nat.zero_le _, Nat.zero_le _⟩) (fun r_23 h_23 => ?_)
  subst h_23
  refine lv_lstore_n (lv' := [(3, .long (mx (mx (mx g_ (w 462)) (w 463)) (w 464))), (0, .ref (h)), (1, .long (g_))]) hx hb dX0_mixCounters_26 rfl hl (by decide) rfl (fun ls hl => ?_)
  refine lv_lload_n hx hb dX0_mixCounters_27 rfl (lv_at hl 0 rfl) ?_
  refine lv_aload_n hx hb dX0_mixCounters_28 rfl (lv_at hl 1 rfl) ?_
  refine gt0 hx hb hts hown hC.1 hP 0 rfl 3 (by decide) qw31 rfl dX0_mixCounters_29 ?_
  refine w_cv (y := (w 465)) hR.i.2.2.2.1 ?_
  refine goRl (kSN (As := [.long (mx (mx (mx g_ (w 462)) (w 463)) (w 464)), .int (w 465)]) (rest := []) F (c_X2_mix l D cI cO (mx (mx (mx g_ (w 462)) (w 463)) (w 464)) (w 465)) ywX2_mix (nk31 hC) qw425  ⟨rfl, rfl⟩ ⟨Nat.le_of_ble_eq_true rfl, Nat.le_of_ble_eq_true rfl⟩ (preR (fun k q h => by simp at h) hC) rfl hl.1 rfl (Nat.le_of_ble_eq_true rfl) dX0_mixCounters_32 ⟨Nat.zero_le _, Nat.zero_le _⟩) (fun r_32 h_32 => ?_)
  subst h_32
  refine lv_lstore_n (lv' := [(3, .long (mx (mx (mx (mx g_ (w 462)) (w 463)) (w 464)) (w 465))), (0, .ref (h)), (1, .long (g_))]) hx hb dX0_mixCounters_35 rfl hl (by decide) rfl (fun ls hl => ?_)
  refine lv_lload_n hx hb dX0_mixCounters_36 rfl (lv_at hl 0 rfl) ?_
  refine lv_aload_n hx hb dX0_mixCounters_37 rfl (lv_at hl 1 rfl) ?_
  refine gt0 hx hb hts hown hC.1 hP 0 rfl 4 (by decide) qw33 rfl dX0_mixCounters_38 ?_
  refine w_cv (y := (w 466)) hR.i.2.2.2.2.1 ?_
  refine goRl (kSN (As := [.long (mx (mx (mx (mx g_ (w 462)) (w 463)) (w 464)) (w 465)), .int (w 466)]) (rest := []) F (c_X2_mix l D cI cO (mx (mx (mx (mx g_ (w 462)) (w 463)) (w 464)) (w 465)) (w 466)) ywX2_mix (nk31 hC) qw425  ⟨rfl, rfl⟩ ⟨Nat.le_of_ble_eq_true rfl, Nat.le_of_ble_eq_true rfl⟩ (preR (fun k q h => by simp at h) hC) rfl hl.1 rfl (Nat.le_of_ble_eq_true rfl) dX0_mixCounters_41 ⟨Nat.zero_le _, Nat.zero_le _⟩) (fun r_41 h_41 => ?_)
  subst h_41
  refine lv_lstore_n (lv' := [(3, .long (mx (mx (mx (mx (mx g_ (w 462)) (w 463)) (w 464)) (w 465)) (w 466))), (0, .ref (h)), (1, .long (g_))]) hx hb dX0_mixCounters_44 rfl hl (by decide) rfl (fun ls hl => ?_)
  refine lv_lload_n hx hb dX0_mixCounters_45 rfl (lv_at hl 0 rfl) ?_
  refine lv_aload_n hx hb dX0_mixCounters_46 rfl (lv_at hl 1 rfl) ?_
  refine gt0 hx hb hts hown hC.1 hP 0 rfl 5 (by decide) qw35 rfl dX0_mixCounters_47 ?_
  refine w_cv (y := (w 467)) hR.i.2.2.2.2.2.1 ?_
  refine goRl (kSN (As := [.long (mx (mx (mx (mx (mx g_ (w 462)) (w 463)) (w 464)) (w 465)) (w 466)), .int (w 467)]) (rest := []) F (c_X2_mix l D cI cO (mx (mx (mx (mx (mx g_ (w 462)) (w 463)) (w 464)) (w 465)) (w 466)) (w 467)) ywX2_mix (nk31 hC) qw425  ⟨rfl, rfl⟩ ⟨Nat.le_of_ble_eq_true rfl, Nat.le_of_ble_eq_true rfl⟩ (preR (fun k q h => by simp at h) hC) rfl hl.1 rfl (Nat.le_of_ble_eq_true rfl) dX0_mixCounters_50 ⟨Nat.zero_le _, Nat.zero_le _⟩) (fun r_50 h_50 => ?_)
  subst h_50
  refine lv_lstore_n (lv' := [(3, .long (mx (mx (mx (mx (mx (mx g_ (w 462)) (w 463)) (w 464)) (w 465)) (w 466)) (w 467))), (0, .ref (h)), (1, .long (g_))]) hx hb dX0_mixCounters_53 rfl hl (by decide) rfl (fun ls hl => ?_)
  refine lv_lload_n hx hb dX0_mixCounters_54 rfl (lv_at hl 0 rfl) ?_
  refine lv_aload_n hx hb dX0_mixCounters_55 rfl (lv_at hl 1 rfl) ?_
  refine gt0 hx hb hts hown hC.1 hP 0 rfl 6 (by decide) qw37 rfl dX0_mixCounters_56 ?_
  refine w_cv (y := (w 468)) hR.i.2.2.2.2.2.2.1 ?_
  refine goRl (kSN (As := [.long (mx (mx (mx (mx (mx (mx g_ (w 462)) (w 463)) (w 464)) (w 465)) (w 466)) (w 467)), .int (w 468)]) (rest := []) F (c_X2_mix l D cI cO (mx (mx (mx (mx (mx (mx g_ (w 462)) (w 463)) (w 464)) (w 465)) (w 466)) (w 467)) (w 468)) ywX2_mix (nk31 hC) qw425  ⟨rfl, rfl⟩ ⟨Nat.le_of_ble_eq_true rfl, Nat.le_of_ble_eq_true rfl⟩ (preR (fun k q h => by simp at h) hC) rfl hl.1 rfl (Nat.le_of_ble_eq_true rfl) dX0_mixCounters_59 ⟨Nat.zero_le _, Nat.zero_le _⟩) (fun r_59 h_59 => ?_)
  subst h_59
  refine lv_lstore_n (lv' := [(3, .long (mx (mx (mx (mx (mx (mx (mx g_ (w 462)) (w 463)) (w 464)) (w 465)) (w 466)) (w 467)) (w 468))), (0, .ref (h)), (1, .long (g_))]) hx hb dX0_mixCounters_62 rfl hl (by decide) rfl (fun ls hl => ?_)
  refine lv_lload_n hx hb dX0_mixCounters_63 rfl (lv_at hl 0 rfl) ?_
  refine lv_aload_n hx hb dX0_mixCounters_64 rfl (lv_at hl 1 rfl) ?_
  refine gt0 hx hb hts hown hC.1 hP 0 rfl 7 (by decide) qw39 rfl dX0_mixCounters_65 ?_
  refine w_cv (y := (w 469)) hR.i.2.2.2.2.2.2.2.1 ?_
  refine goRl (kSN (As := [.long (mx (mx (mx (mx (mx (mx (mx g_ (w 462)) (w 463)) (w 464)) (w 465)) (w 466)) (w 467)) (w 468)), .int (w 469)]) (rest := []) F (c_X2_mix l D cI cO (mx (mx (mx (mx (mx (mx (mx g_ (w 462)) (w 463)) (w 464)) (w 465)) (w 466)) (w 467)) (w 468)) (w 469)) ywX2_mix (nk31 hC) qw425  ⟨rfl, rfl⟩ ⟨Nat.le_of_ble_eq_true rfl, Nat.le_of_ble_eq_true rfl⟩ (preR (fun k q h => by simp at h) hC) rfl hl.1 rfl (Nat.le_of_ble_eq_true rfl) dX0_mixCounters_68 ⟨Nat.zero_le _, Nat.zero_le _⟩) (fun r_68 h_68 => ?_)
  subst h_68
  exact hret _ _ ls (rfl) dX0_mixCounters_71

set_option maxHeartbeats 4000000 in
set_option maxRecDepth 100000 in
theorem c_X0_mixQueue (l : Launch) (D : va_G) (cI cO : ClassId) (h : Nat) (a : Nat → Nat) (S : Nat → Nat → Int32) (w : Nat → Int32) (c0 : Nat) (hR : RC c0 S w) (g_ : Int64) (v_ : Nat) (hc : c0 < 1000) (hv : v_ < 16) : Met l yX0_mixQueue (Cond.code yX0_mixQueue cX0_mixQueue 7 (some .long) :: WL) ({ frames := 2, cells := 0, slots := 0, locals := 42 } : Room) (va_Pc [.ref (h), .long (g_), .int (nI (v_))] (PR D cI cO (stW cI h a S))) (vp_Sl (fun r => r = mxQ w v_ g_)) 0 0 (fun _ => False) := by
  refine rd_long (by decide) (Nat.le_of_ble_eq_true rfl) ?_
  intro p e s m args below meth c Q ls F hP hC hret hl
  have hx := F.1
  have hb := F.2.1
  have hml := F.2.2.1
  have hown := F.2.2.2.1
  have hts := F.2.2.2.2
  replace hl : lv_has ls 7 [(0, .ref (h)), (1, .long (g_)), (3, .int (nI (v_)))] := hl
  have hn4 := hR.wf.n.2
  have hl10 := (hR.wf.l v_ hv).2
  have hsn := hR.wf.e.2
  refine lv_lload_n hx hb dX0_mixQueue_0 rfl (lv_at hl 1 rfl) ?_
  refine lv_aload_n hx hb dX0_mixQueue_1 rfl (lv_at hl 0 rfl) ?_
  refine gt0 hx hb hts hown hC.1 hP 0 rfl 12 (by decide) qw47 rfl dX0_mixQueue_2 ?_
  refine lv_iload_n hx hb dX0_mixQueue_5 rfl (lv_at hl 2 rfl) ?_
  refine n_iald hx hb hC.1 hP 3 0 rfl rfl (by omega) (by decide) dX0_mixQueue_6 ?_
  refine w_cv (y := (nI (le w v_))) (hR.l v_ hv) ?_
  refine goRl (kSN (As := [.long (g_), .int (nI (le w v_))]) (rest := []) F (c_X2_mix l D cI cO (g_) (nI (le w v_))) ywX2_mix (nk31 hC) qw425  ⟨rfl, rfl⟩ ⟨Nat.le_of_ble_eq_true rfl, Nat.le_of_ble_eq_true rfl⟩ (preR (fun k q h => by simp at h) hC) rfl hl.1 rfl (Nat.le_of_ble_eq_true rfl) dX0_mixQueue_7 ⟨Nat.zero_le _, Nat.zero_le _⟩) (fun r_7 h_7 => ?_)
  subst h_7
  refine lv_lstore (lv' := [(4, .long (mx g_ (nI (le w v_)))), (0, .ref (h)), (1, .long (g_)), (3, .int (nI (v_)))]) hx hb dX0_mixQueue_10 hl (by decide) rfl (fun ls hl => ?_)
  refine lv_iconst (v := (nI (0))) hx hb dX0_mixQueue_12 (by decide) ?_
  refine lv_istore (lv' := [(6, .int (nI (0))), (4, .long (mx g_ (nI (le w v_)))), (0, .ref (h)), (1, .long (g_)), (3, .int (nI (v_)))]) hx hb dX0_mixQueue_13 hl (by decide) rfl (fun ls hl => ?_)
  have lp_15 : ∀ (fu_15 : Nat) (i_ : Nat) (g2 : Int64) (ls : Array Slot), le w v_ - i_ < fu_15 → (i_ ≤ le w v_) → (g2 = mxN (fun j => nI (msg w v_ j / 128)) (mx g_ (nI (le w v_))) i_) → lv_has ls 7 [(6, .int (nI (i_))), (4, .long (g2)), (0, .ref (h)), (1, .long (g_)), (3, .int (nI (v_)))] → W p l e ({ frames := 2, cells := 0, slots := 0, locals := 42 } : Room) s m args below meth c s.heap [] 0 0 Q (F0 m 15 ls []) := by
    intro fu_15
    induction fu_15 with
    | zero => intro i_ g2 ls hmu_15; exact absurd hmu_15 (Nat.not_lt_zero _)
    | succ fu_15 ih_15 =>
      intro i_ g2 ls hmu_15 hi_ hg2 hl
      refine lv_iload hx hb dX0_mixQueue_15 (lv_at hl 0 rfl) ?_
      refine lv_aload_n hx hb dX0_mixQueue_17 rfl (lv_at hl 2 rfl) ?_
      refine gt0 hx hb hts hown hC.1 hP 0 rfl 12 (by decide) qw47 rfl dX0_mixQueue_18 ?_
      refine lv_iload_n hx hb dX0_mixQueue_21 rfl (lv_at hl 4 rfl) ?_
      refine n_iald hx hb hC.1 hP 3 0 rfl rfl (by omega) (by decide) dX0_mixQueue_22 ?_
      refine w_cv (y := (nI (le w v_))) (hR.l v_ hv) ?_
      refine n_icmp_ge (tgt := 54) hx hb dX0_mixQueue_23 (by decide) (by omega) (by omega) (fun c_23 => ?_) (fun c_23 => ?_)
      · refine lv_lload hx hb dX0_mixQueue_54 (lv_at hl 1 rfl) ?_
        exact hret _ _ ls (by rw [hg2, show i_ = le w v_ by omega]; rfl) dX0_mixQueue_56
      · obtain ⟨b_, k_, hb0, hk_, hx_, hms⟩ := msg_ok hR.wf hc hv (i := i_) (by omega)
        have hb13 : S 13 (v_ * 10 + i_) = nI (b_ * 96 + k_) := by rw [hR.q v_ hv i_ (by omega), hx_, trm_ok (by omega) hk_]
        refine lv_lload hx hb dX0_mixQueue_26 (lv_at hl 1 rfl) ?_
        refine lv_aload_n hx hb dX0_mixQueue_28 rfl (lv_at hl 2 rfl) ?_
        refine gt0 hx hb hts hown hC.1 hP 0 rfl 13 (by decide) qw49 rfl dX0_mixQueue_29 ?_
        refine lv_iload_n hx hb dX0_mixQueue_32 rfl (lv_at hl 4 rfl) ?_
        refine lv_bipush (v := (nI (10))) hx hb dX0_mixQueue_33 (by decide) ?_
        refine n_imul hx hb dX0_mixQueue_35  ?_
        refine lv_iload hx hb dX0_mixQueue_36 (lv_at hl 0 rfl) ?_
        refine n_iadd hx hb dX0_mixQueue_38  ?_
        refine n_iald hx hb hC.1 hP 4 0 rfl rfl (by omega) (by decide) dX0_mixQueue_39 ?_
        refine w_cv (y := (nI (b_ * 96 + k_))) hb13 ?_
        refine goR (kSN (As := [.int (nI (b_ * 96 + k_))]) (rest := [.long (g2)]) F (c_X2_numberOf l D cI cO (b_ * 96 + k_) (by omega)) ywX2_numberOf (nk17 hC) qw266  ⟨rfl, rfl⟩ ⟨Nat.le_of_ble_eq_true rfl, Nat.le_of_ble_eq_true rfl⟩ (preR (fun k q h => by simp at h) hC) rfl hl.1 rfl (Nat.le_of_ble_eq_true rfl) dX0_mixQueue_40 ⟨Nat.zero_le _, Nat.zero_le _⟩) (fun r_40 h_40 => ?_)
        subst h_40
        refine w_cv (y := (nI (msg w v_ i_ / 128))) (congrArg nI (by rw [hms]; omega)) ?_
        refine goRl (kSN (As := [.long (g2), .int (nI (msg w v_ i_ / 128))]) (rest := []) F (c_X2_mix l D cI cO (g2) (nI (msg w v_ i_ / 128))) ywX2_mix (nk31 hC) qw425  ⟨rfl, rfl⟩ ⟨Nat.le_of_ble_eq_true rfl, Nat.le_of_ble_eq_true rfl⟩ (preR (fun k q h => by simp at h) hC) rfl hl.1 rfl (Nat.le_of_ble_eq_true rfl) dX0_mixQueue_43 ⟨Nat.zero_le _, Nat.zero_le _⟩) (fun r_43 h_43 => ?_)
        subst h_43
        refine lv_lstore (lv' := [(4, .long (mx g2 (nI (msg w v_ i_ / 128)))), (6, .int (nI (i_))), (0, .ref (h)), (1, .long (g_)), (3, .int (nI (v_)))]) hx hb dX0_mixQueue_46 hl (by decide) rfl (fun ls hl => ?_)
        refine n_iinc (a := i_) (b := 1) (lv' := [(6, .int (nI (i_ + 1))), (4, .long (mx g2 (nI (msg w v_ i_ / 128)))), (0, .ref (h)), (1, .long (g_)), (3, .int (nI (v_)))]) hx hb dX0_mixQueue_48 hl (k := 1) rfl rfl (by decide) rfl (fun ls hl => ?_)
        refine lv_goto (tgt := 15) hx hb dX0_mixQueue_51 (by decide) ?_
        exact ih_15 (i_ + 1) (mx g2 (nI (msg w v_ i_ / 128))) ls (by omega) (by omega) (by rw [hg2]; rfl) (lv_sub hl [0, 1, 2, 3, 4] rfl)
  exact lp_15 _ (0) (mx g_ (nI (le w v_))) ls (Nat.lt_succ_self _) (Nat.zero_le _) (rfl) (lv_sub hl [0, 1, 2, 3, 4] rfl)

set_option maxHeartbeats 4000000 in
set_option maxRecDepth 100000 in
theorem c_X0_mixLinksets (l : Launch) (D : va_G) (cI cO : ClassId) (h : Nat) (a : Nat → Nat) (S : Nat → Nat → Int32) (w : Nat → Int32) (c0 : Nat) (hR : RC c0 S w) (g_ : Int64) (hc : c0 < 1000) : Met l yX0_mixLinksets (Cond.code yX0_mixLinksets cX0_mixLinksets 7 (some .long) :: WL) ({ frames := 3, cells := 0, slots := 0, locals := 68 } : Room) (va_Pc [.ref (h), .long (g_)] (PR D cI cO (stW cI h a S))) (vp_Sl (fun r => r = mxS w (mx g_ (nI (nn w))) (nn w))) 0 0 (fun _ => False) := by
  refine rd_long (by decide) (Nat.le_of_ble_eq_true rfl) ?_
  intro p e s m args below meth c Q ls F hP hC hret hl
  have hx := F.1
  have hb := F.2.1
  have hml := F.2.2.1
  have hown := F.2.2.2.1
  have hts := F.2.2.2.2
  replace hl : lv_has ls 7 [(0, .ref (h)), (1, .long (g_))] := hl
  have hn4 := hR.wf.n.2
  refine lv_lload_n hx hb dX0_mixLinksets_0 rfl (lv_at hl 1 rfl) ?_
  refine lv_aload_n hx hb dX0_mixLinksets_1 rfl (lv_at hl 0 rfl) ?_
  refine gt0 hx hb hts hown hC.1 hP 0 rfl 8 (by decide) qw42 rfl dX0_mixLinksets_2 ?_
  refine w_cv (y := (nI (nn w))) hR.n ?_
  refine goRl (kSN (As := [.long (g_), .int (nI (nn w))]) (rest := []) F (c_X2_mix l D cI cO (g_) (nI (nn w))) ywX2_mix (nk31 hC) qw425  ⟨rfl, rfl⟩ ⟨Nat.le_of_ble_eq_true rfl, Nat.le_of_ble_eq_true rfl⟩ (preR (fun k q h => by simp at h) hC) rfl hl.1 rfl (Nat.le_of_ble_eq_true rfl) dX0_mixLinksets_5 ⟨Nat.zero_le _, Nat.zero_le _⟩) (fun r_5 h_5 => ?_)
  subst h_5
  refine lv_lstore_n (lv' := [(3, .long (mx g_ (nI (nn w)))), (0, .ref (h)), (1, .long (g_))]) hx hb dX0_mixLinksets_8 rfl hl (by decide) rfl (fun ls hl => ?_)
  refine lv_iconst (v := (nI (0))) hx hb dX0_mixLinksets_9 (by decide) ?_
  refine lv_istore (lv' := [(5, .int (nI (0))), (3, .long (mx g_ (nI (nn w)))), (0, .ref (h)), (1, .long (g_))]) hx hb dX0_mixLinksets_10 hl (by decide) rfl (fun ls hl => ?_)
  have lp_12 : ∀ (fu_12 : Nat) (i_ : Nat) (g2 : Int64) (ls : Array Slot), nn w - i_ < fu_12 → (i_ ≤ nn w) → (g2 = mxS w (mx g_ (nI (nn w))) i_) → lv_has ls 7 [(5, .int (nI (i_))), (3, .long (g2)), (0, .ref (h)), (1, .long (g_))] → W p l e ({ frames := 3, cells := 0, slots := 0, locals := 68 } : Room) s m args below meth c s.heap [] 0 0 Q (F0 m 12 ls []) := by
    intro fu_12
    induction fu_12 with
    | zero => intro i_ g2 ls hmu_12; exact absurd hmu_12 (Nat.not_lt_zero _)
    | succ fu_12 ih_12 =>
      intro i_ g2 ls hmu_12 hi_ hg2 hl
      refine lv_iload hx hb dX0_mixLinksets_12 (lv_at hl 0 rfl) ?_
      refine lv_aload_n hx hb dX0_mixLinksets_14 rfl (lv_at hl 2 rfl) ?_
      refine gt0 hx hb hts hown hC.1 hP 0 rfl 8 (by decide) qw42 rfl dX0_mixLinksets_15 ?_
      refine w_cv (y := (nI (nn w))) hR.n ?_
      refine n_icmp_ge (tgt := 94) hx hb dX0_mixLinksets_18 (by decide) (by omega) (by omega) (fun c_18 => ?_) (fun c_18 => ?_)
      · refine lv_lload_n hx hb dX0_mixLinksets_94 rfl (lv_at hl 1 rfl) ?_
        exact hret _ _ ls (by rw [hg2, show i_ = nn w by omega]) dX0_mixLinksets_95
      · have hm4 := (hR.wf.m i_ (by omega)).2
        refine lv_lload_n hx hb dX0_mixLinksets_21 rfl (lv_at hl 1 rfl) ?_
        refine lv_aload_n hx hb dX0_mixLinksets_22 rfl (lv_at hl 2 rfl) ?_
        refine gt0 hx hb hts hown hC.1 hP 0 rfl 10 (by decide) qw45 rfl dX0_mixLinksets_23 ?_
        refine lv_iload hx hb dX0_mixLinksets_26 (lv_at hl 0 rfl) ?_
        refine n_iald hx hb hC.1 hP 1 0 rfl rfl (by omega) (by decide) dX0_mixLinksets_28 ?_
        refine w_cv (y := (nI (mn w i_))) (hR.m i_ (by omega)) ?_
        refine goRl (kSN (As := [.long (g2), .int (nI (mn w i_))]) (rest := []) F (c_X2_mix l D cI cO (g2) (nI (mn w i_))) ywX2_mix (nk31 hC) qw425  ⟨rfl, rfl⟩ ⟨Nat.le_of_ble_eq_true rfl, Nat.le_of_ble_eq_true rfl⟩ (preR (fun k q h => by simp at h) hC) rfl hl.1 rfl (Nat.le_of_ble_eq_true rfl) dX0_mixLinksets_29 ⟨Nat.zero_le _, Nat.zero_le _⟩) (fun r_29 h_29 => ?_)
        subst h_29
        refine lv_lstore_n (lv' := [(3, .long (mx g2 (nI (mn w i_)))), (5, .int (nI (i_))), (0, .ref (h)), (1, .long (g_))]) hx hb dX0_mixLinksets_32 rfl hl (by decide) rfl (fun ls hl => ?_)
        refine lv_iconst (v := (nI (0))) hx hb dX0_mixLinksets_33 (by decide) ?_
        refine lv_istore (lv' := [(6, .int (nI (0))), (3, .long (mx g2 (nI (mn w i_)))), (5, .int (nI (i_))), (0, .ref (h)), (1, .long (g_))]) hx hb dX0_mixLinksets_34 hl (by decide) rfl (fun ls hl => ?_)
        have lp_36 : ∀ (fu_36 : Nat) (l_ : Nat) (g3 : Int64) (ls : Array Slot), mn w i_ - l_ < fu_36 → (l_ ≤ mn w i_) → (g3 = mxK w i_ (mx g2 (nI (mn w i_))) l_) → lv_has ls 7 [(6, .int (nI (l_))), (3, .long (g3)), (5, .int (nI (i_))), (0, .ref (h)), (1, .long (g_))] → W p l e ({ frames := 3, cells := 0, slots := 0, locals := 68 } : Room) s m args below meth c s.heap [] 0 0 Q (F0 m 36 ls []) := by
          intro fu_36
          induction fu_36 with
          | zero => intro l_ g3 ls hmu_36; exact absurd hmu_36 (Nat.not_lt_zero _)
          | succ fu_36 ih_36 =>
            intro l_ g3 ls hmu_36 hl_ hg3 hl
            refine lv_iload hx hb dX0_mixLinksets_36 (lv_at hl 0 rfl) ?_
            refine lv_aload_n hx hb dX0_mixLinksets_38 rfl (lv_at hl 3 rfl) ?_
            refine gt0 hx hb hts hown hC.1 hP 0 rfl 10 (by decide) qw45 rfl dX0_mixLinksets_39 ?_
            refine lv_iload hx hb dX0_mixLinksets_42 (lv_at hl 2 rfl) ?_
            refine n_iald hx hb hC.1 hP 1 0 rfl rfl (by omega) (by decide) dX0_mixLinksets_44 ?_
            refine w_cv (y := (nI (mn w i_))) (hR.m i_ (by omega)) ?_
            refine n_icmp_ge (tgt := 88) hx hb dX0_mixLinksets_45 (by decide) (by omega) (by omega) (fun c_45 => ?_) (fun c_45 => ?_)
            · refine n_iinc (a := i_) (b := 1) (lv' := [(5, .int (nI (i_ + 1))), (6, .int (nI (l_))), (3, .long (g3)), (0, .ref (h)), (1, .long (g_))]) hx hb dX0_mixLinksets_88 hl (k := 2) rfl rfl (by decide) rfl (fun ls hl => ?_)
              refine lv_goto (tgt := 12) hx hb dX0_mixLinksets_91 (by decide) ?_
              exact ih_12 (i_ + 1) (g3) ls (by omega) (by omega) (by rw [hg3, show l_ = mn w i_ by omega, hg2]; rfl) (lv_sub hl [0, 2, 3, 4] rfl)
            · refine lv_lload_n hx hb dX0_mixLinksets_48 rfl (lv_at hl 1 rfl) ?_
              refine lv_aload_n hx hb dX0_mixLinksets_49 rfl (lv_at hl 3 rfl) ?_
              refine lv_iload hx hb dX0_mixLinksets_50 (lv_at hl 2 rfl) ?_
              refine lv_iload hx hb dX0_mixLinksets_52 (lv_at hl 0 rfl) ?_
              refine goR (kV (As := [.int (nI (i_)), .int (nI (l_))]) (rest := [.long (g3)]) F (c_X0_linkWorks l D cI cO h a S w c0 hR (i_) (l_) (by omega) (by omega)) ywX0_linkWorks qw437 qw185 qs7 ⟨rfl, rfl⟩ ⟨Nat.le_of_ble_eq_true rfl, Nat.le_of_ble_eq_true rfl⟩ (preV (preR hP hC) hC hP (ci := 0) (q0 := 0) rfl rfl rfl) rfl hl.1 rfl (Nat.le_of_ble_eq_true rfl) dX0_mixLinksets_54 ⟨Nat.zero_le _, Nat.zero_le _⟩) (fun r_54 h_54 => ?_)
              rcases h_54 with ⟨rfl, h_54⟩ | ⟨rfl, h_54⟩
              · refine n_if_eq (tgt := 64) hx hb dX0_mixLinksets_57 (by decide) (by omega) (fun h => absurd h (by decide)) (fun _ => ?_)
                refine lv_iconst (v := (nI (1))) hx hb dX0_mixLinksets_60 (by decide) ?_
                refine lv_goto (tgt := 65) hx hb dX0_mixLinksets_61 (by decide) ?_
                refine goRl (kSN (As := [.long (g3), .int (nI (1))]) (rest := []) F (c_X2_mix l D cI cO (g3) (nI (1))) ywX2_mix (nk31 hC) qw425  ⟨rfl, rfl⟩ ⟨Nat.le_of_ble_eq_true rfl, Nat.le_of_ble_eq_true rfl⟩ (preR (fun k q h => by simp at h) hC) rfl hl.1 rfl (Nat.le_of_ble_eq_true rfl) dX0_mixLinksets_65 ⟨Nat.zero_le _, Nat.zero_le _⟩) (fun r_65 h_65 => ?_)
                subst h_65
                refine lv_lstore_n (lv' := [(3, .long (mx g3 (nI (1)))), (6, .int (nI (l_))), (5, .int (nI (i_))), (0, .ref (h)), (1, .long (g_))]) hx hb dX0_mixLinksets_68 rfl hl (by decide) rfl (fun ls hl => ?_)
                refine lv_aload_n hx hb dX0_mixLinksets_69 rfl (lv_at hl 3 rfl) ?_
                refine lv_lload_n hx hb dX0_mixLinksets_70 rfl (lv_at hl 0 rfl) ?_
                refine lv_iload hx hb dX0_mixLinksets_71 (lv_at hl 2 rfl) ?_
                refine lv_iload hx hb dX0_mixLinksets_73 (lv_at hl 1 rfl) ?_
                refine goR (kSN (As := [.int (nI (i_)), .int (nI (l_))]) (rest := [.long (mx g3 (nI (1))), .ref (h)]) F (c_X2_linkPlace l D cI cO (i_) (l_)) ywX2_linkPlace (nk9 hC) qw196  ⟨rfl, rfl⟩ ⟨Nat.le_of_ble_eq_true rfl, Nat.le_of_ble_eq_true rfl⟩ (preR (fun k q h => by simp at h) hC) rfl hl.1 rfl (Nat.le_of_ble_eq_true rfl) dX0_mixLinksets_75 ⟨Nat.zero_le _, Nat.zero_le _⟩) (fun r_75 h_75 => ?_)
                subst h_75
                refine goRl (kV (As := [.long (mx g3 (nI (1))), .int (nI (i_ * 4 + l_))]) (rest := []) F (c_X0_mixQueue l D cI cO h a S w c0 hR (mx g3 (nI (1))) (i_ * 4 + l_) hc (by omega)) ywX0_mixQueue qw438 qw440 qs30 ⟨rfl, rfl⟩ ⟨Nat.le_of_ble_eq_true rfl, Nat.le_of_ble_eq_true rfl⟩ (preV (preR hP hC) hC hP (ci := 0) (q0 := 0) rfl rfl rfl) rfl hl.1 rfl (Nat.le_of_ble_eq_true rfl) dX0_mixLinksets_78 ⟨Nat.zero_le _, Nat.zero_le _⟩) (fun r_78 h_78 => ?_)
                subst h_78
                refine lv_lstore_n (lv' := [(3, .long (mxQ w (i_ * 4 + l_) (mx g3 (nI (1))))), (6, .int (nI (l_))), (5, .int (nI (i_))), (0, .ref (h)), (1, .long (g_))]) hx hb dX0_mixLinksets_81 rfl hl (by decide) rfl (fun ls hl => ?_)
                refine n_iinc (a := l_) (b := 1) (lv' := [(6, .int (nI (l_ + 1))), (3, .long (mxQ w (i_ * 4 + l_) (mx g3 (nI (1))))), (5, .int (nI (i_))), (0, .ref (h)), (1, .long (g_))]) hx hb dX0_mixLinksets_82 hl (k := 1) rfl rfl (by decide) rfl (fun ls hl => ?_)
                refine lv_goto (tgt := 36) hx hb dX0_mixLinksets_85 (by decide) ?_
                exact ih_36 (l_ + 1) (mxQ w (i_ * 4 + l_) (mx g3 (nI (1)))) ls (by omega) (by omega) (by show _ = mxQ w (i_ * 4 + l_) (mx (mxK w i_ (mx g2 (nI (mn w i_))) l_) (nI (ac w (4 * i_ + l_)))); rw [h_54, ← hg3]) (lv_sub hl [0, 1, 2, 3, 4] rfl)
              · refine n_if_eq (tgt := 64) hx hb dX0_mixLinksets_57 (by decide) (by omega) (fun _ => ?_) (fun h => absurd h (by decide))
                refine lv_iconst (v := (nI (0))) hx hb dX0_mixLinksets_64 (by decide) ?_
                refine goRl (kSN (As := [.long (g3), .int (nI (0))]) (rest := []) F (c_X2_mix l D cI cO (g3) (nI (0))) ywX2_mix (nk31 hC) qw425  ⟨rfl, rfl⟩ ⟨Nat.le_of_ble_eq_true rfl, Nat.le_of_ble_eq_true rfl⟩ (preR (fun k q h => by simp at h) hC) rfl hl.1 rfl (Nat.le_of_ble_eq_true rfl) dX0_mixLinksets_65 ⟨Nat.zero_le _, Nat.zero_le _⟩) (fun r_65 h_65 => ?_)
                subst h_65
                refine lv_lstore_n (lv' := [(3, .long (mx g3 (nI (0)))), (6, .int (nI (l_))), (5, .int (nI (i_))), (0, .ref (h)), (1, .long (g_))]) hx hb dX0_mixLinksets_68 rfl hl (by decide) rfl (fun ls hl => ?_)
                refine lv_aload_n hx hb dX0_mixLinksets_69 rfl (lv_at hl 3 rfl) ?_
                refine lv_lload_n hx hb dX0_mixLinksets_70 rfl (lv_at hl 0 rfl) ?_
                refine lv_iload hx hb dX0_mixLinksets_71 (lv_at hl 2 rfl) ?_
                refine lv_iload hx hb dX0_mixLinksets_73 (lv_at hl 1 rfl) ?_
                refine goR (kSN (As := [.int (nI (i_)), .int (nI (l_))]) (rest := [.long (mx g3 (nI (0))), .ref (h)]) F (c_X2_linkPlace l D cI cO (i_) (l_)) ywX2_linkPlace (nk9 hC) qw196  ⟨rfl, rfl⟩ ⟨Nat.le_of_ble_eq_true rfl, Nat.le_of_ble_eq_true rfl⟩ (preR (fun k q h => by simp at h) hC) rfl hl.1 rfl (Nat.le_of_ble_eq_true rfl) dX0_mixLinksets_75 ⟨Nat.zero_le _, Nat.zero_le _⟩) (fun r_75 h_75 => ?_)
                subst h_75
                refine goRl (kV (As := [.long (mx g3 (nI (0))), .int (nI (i_ * 4 + l_))]) (rest := []) F (c_X0_mixQueue l D cI cO h a S w c0 hR (mx g3 (nI (0))) (i_ * 4 + l_) hc (by omega)) ywX0_mixQueue qw438 qw440 qs30 ⟨rfl, rfl⟩ ⟨Nat.le_of_ble_eq_true rfl, Nat.le_of_ble_eq_true rfl⟩ (preV (preR hP hC) hC hP (ci := 0) (q0 := 0) rfl rfl rfl) rfl hl.1 rfl (Nat.le_of_ble_eq_true rfl) dX0_mixLinksets_78 ⟨Nat.zero_le _, Nat.zero_le _⟩) (fun r_78 h_78 => ?_)
                subst h_78
                refine lv_lstore_n (lv' := [(3, .long (mxQ w (i_ * 4 + l_) (mx g3 (nI (0))))), (6, .int (nI (l_))), (5, .int (nI (i_))), (0, .ref (h)), (1, .long (g_))]) hx hb dX0_mixLinksets_81 rfl hl (by decide) rfl (fun ls hl => ?_)
                refine n_iinc (a := l_) (b := 1) (lv' := [(6, .int (nI (l_ + 1))), (3, .long (mxQ w (i_ * 4 + l_) (mx g3 (nI (0))))), (5, .int (nI (i_))), (0, .ref (h)), (1, .long (g_))]) hx hb dX0_mixLinksets_82 hl (k := 1) rfl rfl (by decide) rfl (fun ls hl => ?_)
                refine lv_goto (tgt := 36) hx hb dX0_mixLinksets_85 (by decide) ?_
                exact ih_36 (l_ + 1) (mxQ w (i_ * 4 + l_) (mx g3 (nI (0)))) ls (by omega) (by omega) (by show _ = mxQ w (i_ * 4 + l_) (mx (mxK w i_ (mx g2 (nI (mn w i_))) l_) (nI (ac w (4 * i_ + l_)))); rw [h_54, ← hg3]) (lv_sub hl [0, 1, 2, 3, 4] rfl)
        exact lp_36 _ (0) (mx g2 (nI (mn w i_))) ls (Nat.lt_succ_self _) (Nat.zero_le _) (rfl) (lv_sub hl [0, 1, 2, 3, 4] rfl)
  exact lp_12 _ (0) (mx g_ (nI (nn w))) ls (Nat.lt_succ_self _) (Nat.zero_le _) (rfl) (lv_sub hl [0, 1, 2, 3] rfl)

set_option maxHeartbeats 4000000 in
set_option maxRecDepth 100000 in
theorem c_X0_mixDestination (l : Launch) (D : va_G) (cI cO : ClassId) (h : Nat) (a : Nat → Nat) (S : Nat → Nat → Int32) (w : Nat → Int32) (c0 : Nat) (hR : RC c0 S w) (g_ : Int64) (d_ : Nat) (hc : c0 < 1000) (hd6 : d_ < 6) : Met l yX0_mixDestination (Cond.code yX0_mixDestination cX0_mixDestination 8 (some .long) :: WL) ({ frames := 3, cells := 0, slots := 0, locals := 69 } : Room) (va_Pc [.ref (h), .long (g_), .int (nI (d_))] (PR D cI cO (stW cI h a S))) (vp_Sl (fun r => r = mxD w d_ g_)) 0 0 (fun _ => False) := by
  refine rd_long (by decide) (Nat.le_of_ble_eq_true rfl) ?_
  intro p e s m args below meth c Q ls F hP hC hret hl
  have hx := F.1
  have hb := F.2.1
  have hml := F.2.2.1
  have hown := F.2.2.2.1
  have hts := F.2.2.2.2
  replace hl : lv_has ls 8 [(0, .ref (h)), (1, .long (g_)), (3, .int (nI (d_)))] := hl
  have hn4 := hR.wf.n.2
  refine lv_lload_n hx hb dX0_mixDestination_0 rfl (lv_at hl 1 rfl) ?_
  refine lv_lstore (lv' := [(4, .long (g_)), (0, .ref (h)), (1, .long (g_)), (3, .int (nI (d_)))]) hx hb dX0_mixDestination_1 hl (by decide) rfl (fun ls hl => ?_)
  refine lv_iconst (v := (nI (0))) hx hb dX0_mixDestination_3 (by decide) ?_
  refine lv_istore (lv' := [(6, .int (nI (0))), (4, .long (g_)), (0, .ref (h)), (1, .long (g_)), (3, .int (nI (d_)))]) hx hb dX0_mixDestination_4 hl (by decide) rfl (fun ls hl => ?_)
  have lp_6 : ∀ (fu_6 : Nat) (i_ : Nat) (g2 : Int64) (ls : Array Slot), nn w - i_ < fu_6 → (i_ ≤ nn w) → (g2 = mxR w d_ g_ i_) → lv_has ls 8 [(6, .int (nI (i_))), (4, .long (g2)), (0, .ref (h)), (1, .long (g_)), (3, .int (nI (d_)))] → W p l e ({ frames := 3, cells := 0, slots := 0, locals := 69 } : Room) s m args below meth c s.heap [] 0 0 Q (F0 m 6 ls []) := by
    intro fu_6
    induction fu_6 with
    | zero => intro i_ g2 ls hmu_6; exact absurd hmu_6 (Nat.not_lt_zero _)
    | succ fu_6 ih_6 =>
      intro i_ g2 ls hmu_6 hi_ hg2 hl
      refine lv_iload hx hb dX0_mixDestination_6 (lv_at hl 0 rfl) ?_
      refine lv_aload_n hx hb dX0_mixDestination_8 rfl (lv_at hl 2 rfl) ?_
      refine gt0 hx hb hts hown hC.1 hP 0 rfl 8 (by decide) qw42 rfl dX0_mixDestination_9 ?_
      refine w_cv (y := (nI (nn w))) hR.n ?_
      refine n_icmp_ge (tgt := 57) hx hb dX0_mixDestination_12 (by decide) (by omega) (by omega) (fun c_12 => ?_) (fun c_12 => ?_)
      · refine lv_aload_n hx hb dX0_mixDestination_57 rfl (lv_at hl 2 rfl) ?_
        refine lv_iload_n hx hb dX0_mixDestination_58 rfl (lv_at hl 4 rfl) ?_
        refine goR (kV (As := [.int (nI (d_))]) (rest := []) F (c_X0_routesTo l D cI cO h a S w c0 hR (d_) (by omega)) ywX0_routesTo qw212 qw214 qs12 ⟨rfl, rfl⟩ ⟨Nat.le_of_ble_eq_true rfl, Nat.le_of_ble_eq_true rfl⟩ (preV (preR hP hC) hC hP (ci := 0) (q0 := 0) rfl rfl rfl) rfl hl.1 rfl (Nat.le_of_ble_eq_true rfl) dX0_mixDestination_59 ⟨Nat.zero_le _, Nat.zero_le _⟩) (fun r_59 h_59 => ?_)
        subst h_59
        refine lv_istore (lv' := [(6, .int (nI (rts w d_))), (4, .long (g2)), (0, .ref (h)), (1, .long (g_)), (3, .int (nI (d_)))]) hx hb dX0_mixDestination_62 hl (by decide) rfl (fun ls hl => ?_)
        refine lv_iconst (v := (nI (0))) hx hb dX0_mixDestination_64 (by decide) ?_
        refine lv_istore (lv' := [(7, .int (nI (0))), (6, .int (nI (rts w d_))), (4, .long (g2)), (0, .ref (h)), (1, .long (g_)), (3, .int (nI (d_)))]) hx hb dX0_mixDestination_65 hl (by decide) rfl (fun ls hl => ?_)
        have lp_67 : ∀ (fu_67 : Nat) (s_ : Nat) (g3 : Int64) (ls : Array Slot), 16 - s_ < fu_67 → (s_ ≤ 16) → (g3 = mxT w d_ (mxR w d_ g_ (nn w)) s_) → lv_has ls 8 [(7, .int (nI (s_))), (6, .int (nI (rts w d_))), (4, .long (g3)), (0, .ref (h)), (1, .long (g_)), (3, .int (nI (d_)))] → W p l e ({ frames := 3, cells := 0, slots := 0, locals := 69 } : Room) s m args below meth c s.heap [] 0 0 Q (F0 m 67 ls []) := by
          intro fu_67
          induction fu_67 with
          | zero => intro s_ g3 ls hmu_67; exact absurd hmu_67 (Nat.not_lt_zero _)
          | succ fu_67 ih_67 =>
            intro s_ g3 ls hmu_67 hs_ hg3 hl
            refine lv_iload hx hb dX0_mixDestination_67 (lv_at hl 0 rfl) ?_
            refine lv_bipush (v := (nI (16))) hx hb dX0_mixDestination_69 (by decide) ?_
            refine n_icmp_ge (tgt := 120) hx hb dX0_mixDestination_71 (by decide) (by omega) (by omega) (fun c_71 => ?_) (fun c_71 => ?_)
            · refine lv_lload hx hb dX0_mixDestination_120 (lv_at hl 2 rfl) ?_
              exact hret _ _ ls (by rw [hg3, show s_ = 16 by omega]; rfl) dX0_mixDestination_122
            · refine lv_lload hx hb dX0_mixDestination_74 (lv_at hl 2 rfl) ?_
              refine lv_aload_n hx hb dX0_mixDestination_76 rfl (lv_at hl 3 rfl) ?_
              refine lv_iload hx hb dX0_mixDestination_77 (lv_at hl 1 rfl) ?_
              refine lv_iload hx hb dX0_mixDestination_79 (lv_at hl 0 rfl) ?_
              refine goR (kV (As := [.int (nI (rts w d_)), .int (nI (s_))]) (rest := [.long (g3)]) F (c_X0_linkOver l D cI cO h a S w c0 hR (rts w d_) (s_) (rts_lt hR.wf _) (by omega) (fun i hi ht => (rts_tb hR.wf hi ht).2)) ywX0_linkOver qw223 qw225 qs14 ⟨rfl, rfl⟩ ⟨Nat.le_of_ble_eq_true rfl, Nat.le_of_ble_eq_true rfl⟩ (preV (preR hP hC) hC hP (ci := 0) (q0 := 0) rfl rfl rfl) rfl hl.1 rfl (Nat.le_of_ble_eq_true rfl) dX0_mixDestination_81 ⟨Nat.zero_le _, Nat.zero_le _⟩) (fun r_81 h_81 => ?_)
              subst h_81
              refine goRl (kSN (As := [.long (g3), .int (lkm w (rts w d_) s_)]) (rest := []) F (c_X2_mix l D cI cO (g3) (lkm w (rts w d_) s_)) ywX2_mix (nk31 hC) qw425  ⟨rfl, rfl⟩ ⟨Nat.le_of_ble_eq_true rfl, Nat.le_of_ble_eq_true rfl⟩ (preR (fun k q h => by simp at h) hC) rfl hl.1 rfl (Nat.le_of_ble_eq_true rfl) dX0_mixDestination_84 ⟨Nat.zero_le _, Nat.zero_le _⟩) (fun r_84 h_84 => ?_)
              subst h_84
              refine lv_lstore (lv' := [(4, .long (mx g3 (lkm w (rts w d_) s_))), (7, .int (nI (s_))), (6, .int (nI (rts w d_))), (0, .ref (h)), (1, .long (g_)), (3, .int (nI (d_)))]) hx hb dX0_mixDestination_87 hl (by decide) rfl (fun ls hl => ?_)
              refine lv_lload hx hb dX0_mixDestination_89 (lv_at hl 0 rfl) ?_
              refine lv_aload_n hx hb dX0_mixDestination_91 rfl (lv_at hl 3 rfl) ?_
              refine lv_iload_n hx hb dX0_mixDestination_92 rfl (lv_at hl 5 rfl) ?_
              refine lv_iload hx hb dX0_mixDestination_93 (lv_at hl 1 rfl) ?_
              refine goR (kSN (As := [.int (nI (d_)), .int (nI (s_))]) (rest := [.ref (h), .long (mx g3 (lkm w (rts w d_) s_))]) F (c_X2_streamPlace l D cI cO (d_) (s_)) ywX2_streamPlace (nk24 hC) qw339  ⟨rfl, rfl⟩ ⟨Nat.le_of_ble_eq_true rfl, Nat.le_of_ble_eq_true rfl⟩ (preR (fun k q h => by simp at h) hC) rfl hl.1 rfl (Nat.le_of_ble_eq_true rfl) dX0_mixDestination_95 ⟨Nat.zero_le _, Nat.zero_le _⟩) (fun r_95 h_95 => ?_)
              subst h_95
              refine goR (kV (As := [.int (nI (d_ * 16 + s_))]) (rest := [.long (mx g3 (lkm w (rts w d_) s_))]) F (c_X0_holds l D cI cO h a S w c0 hR (d_ * 16 + s_) hc (by omega)) ywX0_holds qw344 qw346 qs23 ⟨rfl, rfl⟩ ⟨Nat.le_of_ble_eq_true rfl, Nat.le_of_ble_eq_true rfl⟩ (preV (preR hP hC) hC hP (ci := 0) (q0 := 0) rfl rfl rfl) rfl hl.1 rfl (Nat.le_of_ble_eq_true rfl) dX0_mixDestination_98 ⟨Nat.zero_le _, Nat.zero_le _⟩) (fun r_98 h_98 => ?_)
              rcases h_98 with ⟨rfl, h_98⟩ | ⟨rfl, h_98⟩
              · refine n_if_eq (tgt := 108) hx hb dX0_mixDestination_101 (by decide) (by omega) (fun h => absurd h (by decide)) (fun _ => ?_)
                refine lv_iconst (v := (nI (1))) hx hb dX0_mixDestination_104 (by decide) ?_
                refine lv_goto (tgt := 109) hx hb dX0_mixDestination_105 (by decide) ?_
                refine goRl (kSN (As := [.long (mx g3 (lkm w (rts w d_) s_)), .int (nI (1))]) (rest := []) F (c_X2_mix l D cI cO (mx g3 (lkm w (rts w d_) s_)) (nI (1))) ywX2_mix (nk31 hC) qw425  ⟨rfl, rfl⟩ ⟨Nat.le_of_ble_eq_true rfl, Nat.le_of_ble_eq_true rfl⟩ (preR (fun k q h => by simp at h) hC) rfl hl.1 rfl (Nat.le_of_ble_eq_true rfl) dX0_mixDestination_109 ⟨Nat.zero_le _, Nat.zero_le _⟩) (fun r_109 h_109 => ?_)
                subst h_109
                refine lv_lstore (lv' := [(4, .long (mx (mx g3 (lkm w (rts w d_) s_)) (nI (1)))), (7, .int (nI (s_))), (6, .int (nI (rts w d_))), (0, .ref (h)), (1, .long (g_)), (3, .int (nI (d_)))]) hx hb dX0_mixDestination_112 hl (by decide) rfl (fun ls hl => ?_)
                refine n_iinc (a := s_) (b := 1) (lv' := [(7, .int (nI (s_ + 1))), (4, .long (mx (mx g3 (lkm w (rts w d_) s_)) (nI (1)))), (6, .int (nI (rts w d_))), (0, .ref (h)), (1, .long (g_)), (3, .int (nI (d_)))]) hx hb dX0_mixDestination_114 hl (k := 1) rfl rfl (by decide) rfl (fun ls hl => ?_)
                refine lv_goto (tgt := 67) hx hb dX0_mixDestination_117 (by decide) ?_
                exact ih_67 (s_ + 1) (mx (mx g3 (lkm w (rts w d_) s_)) (nI (1))) ls (by omega) (by omega) (by show _ = mx (mx (mxT w d_ (mxR w d_ g_ (nn w)) s_) (lkm w (rts w d_) s_)) (nI (if un w (d_ * 16 + s_) = 0 then 0 else 1)); rw [if_neg h_98, ← hg3]) (lv_sub hl [0, 2, 1, 3, 4, 5] rfl)
              · refine n_if_eq (tgt := 108) hx hb dX0_mixDestination_101 (by decide) (by omega) (fun _ => ?_) (fun h => absurd h (by decide))
                refine lv_iconst (v := (nI (0))) hx hb dX0_mixDestination_108 (by decide) ?_
                refine goRl (kSN (As := [.long (mx g3 (lkm w (rts w d_) s_)), .int (nI (0))]) (rest := []) F (c_X2_mix l D cI cO (mx g3 (lkm w (rts w d_) s_)) (nI (0))) ywX2_mix (nk31 hC) qw425  ⟨rfl, rfl⟩ ⟨Nat.le_of_ble_eq_true rfl, Nat.le_of_ble_eq_true rfl⟩ (preR (fun k q h => by simp at h) hC) rfl hl.1 rfl (Nat.le_of_ble_eq_true rfl) dX0_mixDestination_109 ⟨Nat.zero_le _, Nat.zero_le _⟩) (fun r_109 h_109 => ?_)
                subst h_109
                refine lv_lstore (lv' := [(4, .long (mx (mx g3 (lkm w (rts w d_) s_)) (nI (0)))), (7, .int (nI (s_))), (6, .int (nI (rts w d_))), (0, .ref (h)), (1, .long (g_)), (3, .int (nI (d_)))]) hx hb dX0_mixDestination_112 hl (by decide) rfl (fun ls hl => ?_)
                refine n_iinc (a := s_) (b := 1) (lv' := [(7, .int (nI (s_ + 1))), (4, .long (mx (mx g3 (lkm w (rts w d_) s_)) (nI (0)))), (6, .int (nI (rts w d_))), (0, .ref (h)), (1, .long (g_)), (3, .int (nI (d_)))]) hx hb dX0_mixDestination_114 hl (k := 1) rfl rfl (by decide) rfl (fun ls hl => ?_)
                refine lv_goto (tgt := 67) hx hb dX0_mixDestination_117 (by decide) ?_
                exact ih_67 (s_ + 1) (mx (mx g3 (lkm w (rts w d_) s_)) (nI (0))) ls (by omega) (by omega) (by show _ = mx (mx (mxT w d_ (mxR w d_ g_ (nn w)) s_) (lkm w (rts w d_) s_)) (nI (if un w (d_ * 16 + s_) = 0 then 0 else 1)); rw [if_pos h_98, ← hg3]) (lv_sub hl [0, 2, 1, 3, 4, 5] rfl)
        exact lp_67 _ (0) (g2) ls (Nat.lt_succ_self _) (Nat.zero_le _) (by rw [hg2, show i_ = nn w by omega]; rfl) (lv_sub hl [0, 1, 2, 3, 4, 5] rfl)
      · refine lv_lload hx hb dX0_mixDestination_15 (lv_at hl 1 rfl) ?_
        refine lv_aload_n hx hb dX0_mixDestination_17 rfl (lv_at hl 2 rfl) ?_
        refine gt0 hx hb hts hown hC.1 hP 0 rfl 14 (by decide) qw51 rfl dX0_mixDestination_18 ?_
        refine lv_iload_n hx hb dX0_mixDestination_21 rfl (lv_at hl 4 rfl) ?_
        refine lv_iload hx hb dX0_mixDestination_22 (lv_at hl 0 rfl) ?_
        refine goR (kSN (As := [.int (nI (d_)), .int (nI (i_))]) (rest := [.ref (a 4), .long (g2)]) F (c_X2_routePlace l D cI cO (d_) (i_)) ywX2_routePlace (nk11 hC) qw221  ⟨rfl, rfl⟩ ⟨Nat.le_of_ble_eq_true rfl, Nat.le_of_ble_eq_true rfl⟩ (preR (fun k q h => by simp at h) hC) rfl hl.1 rfl (Nat.le_of_ble_eq_true rfl) dX0_mixDestination_24 ⟨Nat.zero_le _, Nat.zero_le _⟩) (fun r_24 h_24 => ?_)
        subst h_24
        refine n_iald hx hb hC.1 hP 5 0 rfl rfl (by omega) (by decide) dX0_mixDestination_27 ?_
        refine w_cv (y := (w (197 + 4 * d_ + i_))) (hR.s d_ hd6 i_ (by omega)) ?_
        refine goRl (kSN (As := [.long (g2), .int (w (197 + 4 * d_ + i_))]) (rest := []) F (c_X2_mix l D cI cO (g2) (w (197 + 4 * d_ + i_))) ywX2_mix (nk31 hC) qw425  ⟨rfl, rfl⟩ ⟨Nat.le_of_ble_eq_true rfl, Nat.le_of_ble_eq_true rfl⟩ (preR (fun k q h => by simp at h) hC) rfl hl.1 rfl (Nat.le_of_ble_eq_true rfl) dX0_mixDestination_28 ⟨Nat.zero_le _, Nat.zero_le _⟩) (fun r_28 h_28 => ?_)
        subst h_28
        refine lv_lstore (lv' := [(4, .long (mx g2 (w (197 + 4 * d_ + i_)))), (6, .int (nI (i_))), (0, .ref (h)), (1, .long (g_)), (3, .int (nI (d_)))]) hx hb dX0_mixDestination_31 hl (by decide) rfl (fun ls hl => ?_)
        refine lv_lload hx hb dX0_mixDestination_33 (lv_at hl 0 rfl) ?_
        refine lv_aload_n hx hb dX0_mixDestination_35 rfl (lv_at hl 2 rfl) ?_
        refine gt0 hx hb hts hown hC.1 hP 0 rfl 15 (by decide) qw53 rfl dX0_mixDestination_36 ?_
        refine lv_iload_n hx hb dX0_mixDestination_39 rfl (lv_at hl 4 rfl) ?_
        refine lv_iload hx hb dX0_mixDestination_40 (lv_at hl 1 rfl) ?_
        refine goR (kSN (As := [.int (nI (d_)), .int (nI (i_))]) (rest := [.ref (a 5), .long (mx g2 (w (197 + 4 * d_ + i_)))]) F (c_X2_routePlace l D cI cO (d_) (i_)) ywX2_routePlace (nk11 hC) qw221  ⟨rfl, rfl⟩ ⟨Nat.le_of_ble_eq_true rfl, Nat.le_of_ble_eq_true rfl⟩ (preR (fun k q h => by simp at h) hC) rfl hl.1 rfl (Nat.le_of_ble_eq_true rfl) dX0_mixDestination_42 ⟨Nat.zero_le _, Nat.zero_le _⟩) (fun r_42 h_42 => ?_)
        subst h_42
        refine n_iald hx hb hC.1 hP 6 0 rfl rfl (by omega) (by decide) dX0_mixDestination_45 ?_
        refine w_cv (y := (w (221 + 4 * d_ + i_))) (hR.p d_ hd6 i_ (by omega)) ?_
        refine goRl (kSN (As := [.long (mx g2 (w (197 + 4 * d_ + i_))), .int (w (221 + 4 * d_ + i_))]) (rest := []) F (c_X2_mix l D cI cO (mx g2 (w (197 + 4 * d_ + i_))) (w (221 + 4 * d_ + i_))) ywX2_mix (nk31 hC) qw425  ⟨rfl, rfl⟩ ⟨Nat.le_of_ble_eq_true rfl, Nat.le_of_ble_eq_true rfl⟩ (preR (fun k q h => by simp at h) hC) rfl hl.1 rfl (Nat.le_of_ble_eq_true rfl) dX0_mixDestination_46 ⟨Nat.zero_le _, Nat.zero_le _⟩) (fun r_46 h_46 => ?_)
        subst h_46
        refine lv_lstore (lv' := [(4, .long (mx (mx g2 (w (197 + 4 * d_ + i_))) (w (221 + 4 * d_ + i_)))), (6, .int (nI (i_))), (0, .ref (h)), (1, .long (g_)), (3, .int (nI (d_)))]) hx hb dX0_mixDestination_49 hl (by decide) rfl (fun ls hl => ?_)
        refine n_iinc (a := i_) (b := 1) (lv' := [(6, .int (nI (i_ + 1))), (4, .long (mx (mx g2 (w (197 + 4 * d_ + i_))) (w (221 + 4 * d_ + i_)))), (0, .ref (h)), (1, .long (g_)), (3, .int (nI (d_)))]) hx hb dX0_mixDestination_51 hl (k := 1) rfl rfl (by decide) rfl (fun ls hl => ?_)
        refine lv_goto (tgt := 6) hx hb dX0_mixDestination_54 (by decide) ?_
        exact ih_6 (i_ + 1) (mx (mx g2 (w (197 + 4 * d_ + i_))) (w (221 + 4 * d_ + i_))) ls (by omega) (by omega) (by rw [hg2]; rfl) (lv_sub hl [0, 1, 2, 3, 4] rfl)
  exact lp_6 _ (0) (g_) ls (Nat.lt_succ_self _) (Nat.zero_le _) (rfl) (lv_sub hl [0, 1, 2, 3, 4] rfl)

set_option maxHeartbeats 4000000 in
set_option maxRecDepth 100000 in
theorem c_X0_mixHolding (l : Launch) (D : va_G) (cI cO : ClassId) (h : Nat) (a : Nat → Nat) (S : Nat → Nat → Int32) (w : Nat → Int32) (c0 : Nat) (hR : RC c0 S w) (g_ : Int64) (hc : c0 < 1000) : Met l yX0_mixHolding (Cond.code yX0_mixHolding cX0_mixHolding 6 (some .long) :: WL) ({ frames := 2, cells := 0, slots := 0, locals := 42 } : Room) (va_Pc [.ref (h), .long (g_)] (PR D cI cO (stW cI h a S))) (vp_Sl (fun r => r = mxH w g_)) 0 0 (fun _ => False) := by
  refine rd_long (by decide) (Nat.le_of_ble_eq_true rfl) ?_
  intro p e s m args below meth c Q ls F hP hC hret hl
  have hx := F.1
  have hb := F.2.1
  have hml := F.2.2.1
  have hown := F.2.2.2.1
  have hts := F.2.2.2.2
  replace hl : lv_has ls 6 [(0, .ref (h)), (1, .long (g_))] := hl
  have hn4 := hR.wf.n.2
  have hh24 := hR.wf.h.2
  have hsn := hR.wf.e.2
  refine lv_lload_n hx hb dX0_mixHolding_0 rfl (lv_at hl 1 rfl) ?_
  refine lv_aload_n hx hb dX0_mixHolding_1 rfl (lv_at hl 0 rfl) ?_
  refine gt0 hx hb hts hown hC.1 hP 0 rfl 9 (by decide) qw43 rfl dX0_mixHolding_2 ?_
  refine w_cv (y := (nI (he w))) hR.h ?_
  refine goRl (kSN (As := [.long (g_), .int (nI (he w))]) (rest := []) F (c_X2_mix l D cI cO (g_) (nI (he w))) ywX2_mix (nk31 hC) qw425  ⟨rfl, rfl⟩ ⟨Nat.le_of_ble_eq_true rfl, Nat.le_of_ble_eq_true rfl⟩ (preR (fun k q h => by simp at h) hC) rfl hl.1 rfl (Nat.le_of_ble_eq_true rfl) dX0_mixHolding_5 ⟨Nat.zero_le _, Nat.zero_le _⟩) (fun r_5 h_5 => ?_)
  subst h_5
  refine lv_lstore_n (lv' := [(3, .long (mx g_ (nI (he w)))), (0, .ref (h)), (1, .long (g_))]) hx hb dX0_mixHolding_8 rfl hl (by decide) rfl (fun ls hl => ?_)
  refine lv_iconst (v := (nI (0))) hx hb dX0_mixHolding_9 (by decide) ?_
  refine lv_istore (lv' := [(5, .int (nI (0))), (3, .long (mx g_ (nI (he w)))), (0, .ref (h)), (1, .long (g_))]) hx hb dX0_mixHolding_10 hl (by decide) rfl (fun ls hl => ?_)
  have lp_12 : ∀ (fu_12 : Nat) (i_ : Nat) (g2 : Int64) (ls : Array Slot), he w - i_ < fu_12 → (i_ ≤ he w) → (g2 = mxN (fun j => nI (nv (w (342 + j)) / 128)) (mx g_ (nI (he w))) i_) → lv_has ls 6 [(5, .int (nI (i_))), (3, .long (g2)), (0, .ref (h)), (1, .long (g_))] → W p l e ({ frames := 2, cells := 0, slots := 0, locals := 42 } : Room) s m args below meth c s.heap [] 0 0 Q (F0 m 12 ls []) := by
    intro fu_12
    induction fu_12 with
    | zero => intro i_ g2 ls hmu_12; exact absurd hmu_12 (Nat.not_lt_zero _)
    | succ fu_12 ih_12 =>
      intro i_ g2 ls hmu_12 hi_ hg2 hl
      refine lv_iload hx hb dX0_mixHolding_12 (lv_at hl 0 rfl) ?_
      refine lv_aload_n hx hb dX0_mixHolding_14 rfl (lv_at hl 2 rfl) ?_
      refine gt0 hx hb hts hown hC.1 hP 0 rfl 9 (by decide) qw43 rfl dX0_mixHolding_15 ?_
      refine w_cv (y := (nI (he w))) hR.h ?_
      refine n_icmp_ge (tgt := 42) hx hb dX0_mixHolding_18 (by decide) (by omega) (by omega) (fun c_18 => ?_) (fun c_18 => ?_)
      · refine lv_lload_n hx hb dX0_mixHolding_42 rfl (lv_at hl 1 rfl) ?_
        exact hret _ _ ls (by rw [hg2, show i_ = he w by omega]; rfl) dX0_mixHolding_43
      · obtain ⟨b_, k_, hb0, hk_, hx_⟩ := hR.wf.b i_ (by omega)
        have hM_ : nv (w (342 + i_)) = 128 * b_ + k_ := by rw [hx_, nv_nI (by omega)]
        have hb18 : S 18 i_ = nI (b_ * 96 + k_) := by rw [hR.b i_ (by omega), hx_, trm_ok (by omega) hk_]
        refine lv_lload_n hx hb dX0_mixHolding_21 rfl (lv_at hl 1 rfl) ?_
        refine lv_aload_n hx hb dX0_mixHolding_22 rfl (lv_at hl 2 rfl) ?_
        refine gt0 hx hb hts hown hC.1 hP 0 rfl 18 (by decide) qw57 rfl dX0_mixHolding_23 ?_
        refine lv_iload hx hb dX0_mixHolding_26 (lv_at hl 0 rfl) ?_
        refine n_iald hx hb hC.1 hP 9 0 rfl rfl (by omega) (by decide) dX0_mixHolding_28 ?_
        refine w_cv (y := (nI (b_ * 96 + k_))) hb18 ?_
        refine goR (kSN (As := [.int (nI (b_ * 96 + k_))]) (rest := [.long (g2)]) F (c_X2_numberOf l D cI cO (b_ * 96 + k_) (by omega)) ywX2_numberOf (nk17 hC) qw266  ⟨rfl, rfl⟩ ⟨Nat.le_of_ble_eq_true rfl, Nat.le_of_ble_eq_true rfl⟩ (preR (fun k q h => by simp at h) hC) rfl hl.1 rfl (Nat.le_of_ble_eq_true rfl) dX0_mixHolding_29 ⟨Nat.zero_le _, Nat.zero_le _⟩) (fun r_29 h_29 => ?_)
        subst h_29
        refine w_cv (y := (nI (nv (w (342 + i_)) / 128))) (congrArg nI (by rw [hM_]; omega)) ?_
        refine goRl (kSN (As := [.long (g2), .int (nI (nv (w (342 + i_)) / 128))]) (rest := []) F (c_X2_mix l D cI cO (g2) (nI (nv (w (342 + i_)) / 128))) ywX2_mix (nk31 hC) qw425  ⟨rfl, rfl⟩ ⟨Nat.le_of_ble_eq_true rfl, Nat.le_of_ble_eq_true rfl⟩ (preR (fun k q h => by simp at h) hC) rfl hl.1 rfl (Nat.le_of_ble_eq_true rfl) dX0_mixHolding_32 ⟨Nat.zero_le _, Nat.zero_le _⟩) (fun r_32 h_32 => ?_)
        subst h_32
        refine lv_lstore_n (lv' := [(3, .long (mx g2 (nI (nv (w (342 + i_)) / 128)))), (5, .int (nI (i_))), (0, .ref (h)), (1, .long (g_))]) hx hb dX0_mixHolding_35 rfl hl (by decide) rfl (fun ls hl => ?_)
        refine n_iinc (a := i_) (b := 1) (lv' := [(5, .int (nI (i_ + 1))), (3, .long (mx g2 (nI (nv (w (342 + i_)) / 128)))), (0, .ref (h)), (1, .long (g_))]) hx hb dX0_mixHolding_36 hl (k := 1) rfl rfl (by decide) rfl (fun ls hl => ?_)
        refine lv_goto (tgt := 12) hx hb dX0_mixHolding_39 (by decide) ?_
        exact ih_12 (i_ + 1) (mx g2 (nI (nv (w (342 + i_)) / 128))) ls (by omega) (by omega) (by rw [hg2]; rfl) (lv_sub hl [0, 1, 2, 3] rfl)
  exact lp_12 _ (0) (mx g_ (nI (he w))) ls (Nat.lt_succ_self _) (Nat.zero_le _) (rfl) (lv_sub hl [0, 1, 2, 3] rfl)

set_option maxHeartbeats 4000000 in
set_option maxRecDepth 100000 in
theorem c_bitCount65 (l : Launch) (D : va_G) (cI cO : ClassId) (m_ : Nat) (hm : m_ < 65536) : Met l yJ6_bitCount_0f7a4 (Cond.code yJ6_bitCount_0f7a4 cJ6_bitCount_0f7a4 1 (some .int) :: WL) ({ frames := 0, cells := 0, slots := 0, locals := 0 } : Room) (va_Pc [.int (nI (m_))] (PR D cI cO ([]))) (vp_Si (fun r => r = nI (cb m_ 16))) 0 0 (fun _ => False) := by
  refine rd_int (by decide) (Nat.le_of_ble_eq_true rfl) ?_
  intro p e s m args below meth c Q ls F hP hC hret hl
  have hx := F.1
  have hb := F.2.1
  have hml := F.2.2.1
  have hown := F.2.2.2.1
  have hts := F.2.2.2.2
  replace hl : lv_has ls 1 [(0, .int (nI (m_)))] := hl
  refine lv_iload_n hx hb dJ6_bitCount_0f7a4_0 rfl (lv_at hl 0 rfl) ?_
  refine lv_iload_n hx hb dJ6_bitCount_0f7a4_1 rfl (lv_at hl 0 rfl) ?_
  refine lv_iconst (v := (nI (1))) hx hb dJ6_bitCount_0f7a4_2 (by decide) ?_
  refine lv_iushr (v := (Int32.toUInt32 (nI (m_)) >>> (Int32.toUInt32 (nI (1)) &&& Int32.toUInt32 31)).toInt32) hx hb dJ6_bitCount_0f7a4_3 rfl ?_
  refine lv_ldcw (own := "java/lang/Integer") (v := 1431655765) hx hb hown (hts _ qw230) dJ6_bitCount_0f7a4_4 ?_
  refine lv_iand hx hb dJ6_bitCount_0f7a4_7 ?_
  refine lv_isub hx hb dJ6_bitCount_0f7a4_8  ?_
  refine w_cv (y := (bcA (nI m_))) rfl ?_
  refine lv_istore_n (lv' := [(0, .int (bcA (nI m_)))]) hx hb dJ6_bitCount_0f7a4_9 rfl hl (by decide) rfl (fun ls hl => ?_)
  refine lv_iload_n hx hb dJ6_bitCount_0f7a4_10 rfl (lv_at hl 0 rfl) ?_
  refine lv_ldcw (own := "java/lang/Integer") (v := 858993459) hx hb hown (hts _ qw231) dJ6_bitCount_0f7a4_11 ?_
  refine lv_iand hx hb dJ6_bitCount_0f7a4_14 ?_
  refine lv_iload_n hx hb dJ6_bitCount_0f7a4_15 rfl (lv_at hl 0 rfl) ?_
  refine lv_iconst (v := (nI (2))) hx hb dJ6_bitCount_0f7a4_16 (by decide) ?_
  refine lv_iushr (v := (Int32.toUInt32 (bcA (nI m_)) >>> (Int32.toUInt32 (nI (2)) &&& Int32.toUInt32 31)).toInt32) hx hb dJ6_bitCount_0f7a4_17 rfl ?_
  refine lv_ldcw (own := "java/lang/Integer") (v := 858993459) hx hb hown (hts _ qw231) dJ6_bitCount_0f7a4_18 ?_
  refine lv_iand hx hb dJ6_bitCount_0f7a4_21 ?_
  refine lv_iadd hx hb dJ6_bitCount_0f7a4_22  ?_
  refine w_cv (y := (bcB (bcA (nI m_)))) rfl ?_
  refine lv_istore_n (lv' := [(0, .int (bcB (bcA (nI m_))))]) hx hb dJ6_bitCount_0f7a4_23 rfl hl (by decide) rfl (fun ls hl => ?_)
  refine lv_iload_n hx hb dJ6_bitCount_0f7a4_24 rfl (lv_at hl 0 rfl) ?_
  refine lv_iload_n hx hb dJ6_bitCount_0f7a4_25 rfl (lv_at hl 0 rfl) ?_
  refine lv_iconst (v := (nI (4))) hx hb dJ6_bitCount_0f7a4_26 (by decide) ?_
  refine lv_iushr (v := (Int32.toUInt32 (bcB (bcA (nI m_))) >>> (Int32.toUInt32 (nI (4)) &&& Int32.toUInt32 31)).toInt32) hx hb dJ6_bitCount_0f7a4_27 rfl ?_
  refine lv_iadd hx hb dJ6_bitCount_0f7a4_28  ?_
  refine lv_ldcw (own := "java/lang/Integer") (v := 252645135) hx hb hown (hts _ qw232) dJ6_bitCount_0f7a4_29 ?_
  refine lv_iand hx hb dJ6_bitCount_0f7a4_32 ?_
  refine w_cv (y := (bcC (bcB (bcA (nI m_))))) rfl ?_
  refine lv_istore_n (lv' := [(0, .int (bcC (bcB (bcA (nI m_)))))]) hx hb dJ6_bitCount_0f7a4_33 rfl hl (by decide) rfl (fun ls hl => ?_)
  refine lv_iload_n hx hb dJ6_bitCount_0f7a4_34 rfl (lv_at hl 0 rfl) ?_
  refine lv_iload_n hx hb dJ6_bitCount_0f7a4_35 rfl (lv_at hl 0 rfl) ?_
  refine lv_bipush (v := (nI (8))) hx hb dJ6_bitCount_0f7a4_36 (by decide) ?_
  refine lv_iushr (v := (Int32.toUInt32 (bcC (bcB (bcA (nI m_)))) >>> (Int32.toUInt32 (nI (8)) &&& Int32.toUInt32 31)).toInt32) hx hb dJ6_bitCount_0f7a4_38 rfl ?_
  refine lv_iadd hx hb dJ6_bitCount_0f7a4_39  ?_
  refine w_cv (y := (bcD (bcC (bcB (bcA (nI m_)))))) rfl ?_
  refine lv_istore_n (lv' := [(0, .int (bcD (bcC (bcB (bcA (nI m_))))))]) hx hb dJ6_bitCount_0f7a4_40 rfl hl (by decide) rfl (fun ls hl => ?_)
  refine lv_iload_n hx hb dJ6_bitCount_0f7a4_41 rfl (lv_at hl 0 rfl) ?_
  refine lv_iload_n hx hb dJ6_bitCount_0f7a4_42 rfl (lv_at hl 0 rfl) ?_
  refine lv_bipush (v := (nI (16))) hx hb dJ6_bitCount_0f7a4_43 (by decide) ?_
  refine lv_iushr (v := (Int32.toUInt32 (bcD (bcC (bcB (bcA (nI m_))))) >>> (Int32.toUInt32 (nI (16)) &&& Int32.toUInt32 31)).toInt32) hx hb dJ6_bitCount_0f7a4_45 rfl ?_
  refine lv_iadd hx hb dJ6_bitCount_0f7a4_46  ?_
  refine w_cv (y := (bcE (bcD (bcC (bcB (bcA (nI m_))))))) rfl ?_
  refine lv_istore_n (lv' := [(0, .int (bcE (bcD (bcC (bcB (bcA (nI m_)))))))]) hx hb dJ6_bitCount_0f7a4_47 rfl hl (by decide) rfl (fun ls hl => ?_)
  refine lv_iload_n hx hb dJ6_bitCount_0f7a4_48 rfl (lv_at hl 0 rfl) ?_
  refine lv_bipush (v := (nI (63))) hx hb dJ6_bitCount_0f7a4_49 (by decide) ?_
  refine lv_iand hx hb dJ6_bitCount_0f7a4_51 ?_
  exact hret _ _ ls (bc65 hm) dJ6_bitCount_0f7a4_52

set_option maxHeartbeats 4000000 in
set_option maxRecDepth 100000 in
theorem c_X0_countLinksTo (l : Launch) (D : va_G) (cI cO : ClassId) (h : Nat) (a : Nat → Nat) (S : Nat → Nat → Int32) (w : Nat → Int32) (c0 : Nat) (hR : RC c0 S w) (d_ : Nat) (hd6 : d_ < 6) : Met l yX0_countLinksTo (Cond.code yX0_countLinksTo cX0_countLinksTo 6 (some .int) :: WL) ({ frames := 3, cells := 0, slots := 0, locals := 69 } : Room) (va_Pc [.ref (h), .int (nI (d_))] (PR D cI cO (stW cI h a S))) (vp_Si (fun r => r = nI (cb (usd w d_ 16) 16))) 0 0 (fun _ => False) := by
  refine rd_int (by decide) (Nat.le_of_ble_eq_true rfl) ?_
  intro p e s m args below meth c Q ls F hP hC hret hl
  have hx := F.1
  have hb := F.2.1
  have hml := F.2.2.1
  have hown := F.2.2.2.1
  have hts := F.2.2.2.2
  replace hl : lv_has ls 6 [(0, .ref (h)), (1, .int (nI (d_)))] := hl
  have hn4 := hR.wf.n.2
  refine lv_aload_n hx hb dX0_countLinksTo_0 rfl (lv_at hl 0 rfl) ?_
  refine lv_iload_n hx hb dX0_countLinksTo_1 rfl (lv_at hl 1 rfl) ?_
  refine goR (kV (As := [.int (nI (d_))]) (rest := []) F (c_X0_routesTo l D cI cO h a S w c0 hR (d_) (by omega)) ywX0_routesTo qw212 qw214 qs12 ⟨rfl, rfl⟩ ⟨Nat.le_of_ble_eq_true rfl, Nat.le_of_ble_eq_true rfl⟩ (preV (preR hP hC) hC hP (ci := 0) (q0 := 0) rfl rfl rfl) rfl hl.1 rfl (Nat.le_of_ble_eq_true rfl) dX0_countLinksTo_2 ⟨Nat.zero_le _, Nat.zero_le _⟩) (fun r_2 h_2 => ?_)
  subst h_2
  refine lv_istore_n (lv' := [(2, .int (nI (rts w d_))), (0, .ref (h)), (1, .int (nI (d_)))]) hx hb dX0_countLinksTo_5 rfl hl (by decide) rfl (fun ls hl => ?_)
  refine lv_iconst (v := (nI (0))) hx hb dX0_countLinksTo_6 (by decide) ?_
  refine lv_istore_n (lv' := [(3, .int (nI (0))), (2, .int (nI (rts w d_))), (0, .ref (h)), (1, .int (nI (d_)))]) hx hb dX0_countLinksTo_7 rfl hl (by decide) rfl (fun ls hl => ?_)
  refine lv_iconst (v := (nI (0))) hx hb dX0_countLinksTo_8 (by decide) ?_
  refine lv_istore (lv' := [(4, .int (nI (0))), (3, .int (nI (0))), (2, .int (nI (rts w d_))), (0, .ref (h)), (1, .int (nI (d_)))]) hx hb dX0_countLinksTo_9 hl (by decide) rfl (fun ls hl => ?_)
  have lp_11 : ∀ (fu_11 : Nat) (s_ : Nat) (u_ : Nat) (ls : Array Slot), 16 - s_ < fu_11 → (s_ ≤ 16) → (u_ = usd w d_ s_) → lv_has ls 6 [(4, .int (nI (s_))), (3, .int (nI (u_))), (2, .int (nI (rts w d_))), (0, .ref (h)), (1, .int (nI (d_)))] → W p l e ({ frames := 3, cells := 0, slots := 0, locals := 69 } : Room) s m args below meth c s.heap [] 0 0 Q (F0 m 11 ls []) := by
    intro fu_11
    induction fu_11 with
    | zero => intro s_ u_ ls hmu_11; exact absurd hmu_11 (Nat.not_lt_zero _)
    | succ fu_11 ih_11 =>
      intro s_ u_ ls hmu_11 hs_ hu_ hl
      refine lv_iload hx hb dX0_countLinksTo_11 (lv_at hl 0 rfl) ?_
      refine lv_bipush (v := (nI (16))) hx hb dX0_countLinksTo_13 (by decide) ?_
      refine n_icmp_ge (tgt := 46) hx hb dX0_countLinksTo_15 (by decide) (by omega) (by omega) (fun c_15 => ?_) (fun c_15 => ?_)
      · refine lv_iload_n hx hb dX0_countLinksTo_46 rfl (lv_at hl 1 rfl) ?_
        refine goR (kS (As := [.int (nI (u_))]) (rest := []) F (c_bitCount65 l D cI cO (u_) (by rw [hu_]; exact usd_lt hR.wf hd6 s_ hs_)) ywJ6_bitCount_0f7a4 qw227 qw228  ⟨rfl, rfl⟩ ⟨Nat.le_of_ble_eq_true rfl, Nat.le_of_ble_eq_true rfl⟩ (preR (fun k q h => by simp at h) hC) rfl hl.1 rfl (Nat.le_of_ble_eq_true rfl) dX0_countLinksTo_47 ⟨Nat.zero_le _, Nat.zero_le _⟩) (fun r_47 h_47 => ?_)
        subst h_47
        exact hret _ _ ls (by rw [hu_, show s_ = 16 by omega]) dX0_countLinksTo_50
      · refine lv_aload_n hx hb dX0_countLinksTo_18 rfl (lv_at hl 3 rfl) ?_
        refine lv_iload_n hx hb dX0_countLinksTo_19 rfl (lv_at hl 2 rfl) ?_
        refine lv_iload hx hb dX0_countLinksTo_20 (lv_at hl 0 rfl) ?_
        refine goR (kV (As := [.int (nI (rts w d_)), .int (nI (s_))]) (rest := []) F (c_X0_linkOver l D cI cO h a S w c0 hR (rts w d_) (s_) (rts_lt hR.wf _) (by omega) (fun i hi ht => (rts_tb hR.wf hi ht).2)) ywX0_linkOver qw223 qw225 qs14 ⟨rfl, rfl⟩ ⟨Nat.le_of_ble_eq_true rfl, Nat.le_of_ble_eq_true rfl⟩ (preV (preR hP hC) hC hP (ci := 0) (q0 := 0) rfl rfl rfl) rfl hl.1 rfl (Nat.le_of_ble_eq_true rfl) dX0_countLinksTo_22 ⟨Nat.zero_le _, Nat.zero_le _⟩) (fun r_22 h_22 => ?_)
        subst h_22
        refine lv_istore (lv' := [(5, .int (lkm w (rts w d_) s_)), (4, .int (nI (s_))), (3, .int (nI (u_))), (2, .int (nI (rts w d_))), (0, .ref (h)), (1, .int (nI (d_)))]) hx hb dX0_countLinksTo_25 hl (by decide) rfl (fun ls hl => ?_)
        refine lv_iload hx hb dX0_countLinksTo_27 (lv_at hl 0 rfl) ?_
        refine lv_iconst (v := (-1)) hx hb dX0_countLinksTo_29 (by decide) ?_
        refine lv_icmp_eq (tgt := 40) hx hb dX0_countLinksTo_30 (by decide)  (fun c_30 => ?_) (fun c_30 => ?_)
        · refine n_iinc (a := s_) (b := 1) (lv' := [(4, .int (nI (s_ + 1))), (5, .int (lkm w (rts w d_) s_)), (3, .int (nI (u_))), (2, .int (nI (rts w d_))), (0, .ref (h)), (1, .int (nI (d_)))]) hx hb dX0_countLinksTo_40 hl (k := 1) rfl rfl (by decide) rfl (fun ls hl => ?_)
          refine lv_goto (tgt := 11) hx hb dX0_countLinksTo_43 (by decide) ?_
          exact ih_11 (s_ + 1) (u_) ls (by omega) (by omega) (by simp only [usd]; rw [if_pos c_30]; exact hu_) (lv_sub hl [0, 2, 3, 4, 5] rfl)
        · obtain ⟨p_, hp16, -, -, hlk⟩ := lk_some hR.wf (k := d_ * 16 + s_) (by omega) (by rw [lk_lkm (by omega)]; exact c_30)
          rw [lk_lkm (by omega)] at hlk
          rw [hlk] at hl
          refine lv_iload_n hx hb dX0_countLinksTo_33 rfl (lv_at hl 2 rfl) ?_
          refine lv_iconst (v := (nI (1))) hx hb dX0_countLinksTo_34 (by decide) ?_
          refine lv_iload hx hb dX0_countLinksTo_35 (lv_at hl 0 rfl) ?_
          refine lv_ishl hx hb dX0_countLinksTo_37 ?_
          refine lv_ior hx hb dX0_countLinksTo_38 ?_
          refine w_cv (y := (nI (u_ ||| 2 ^ p_))) (or16 hp16) ?_
          refine lv_istore_n (lv' := [(3, .int (nI (u_ ||| 2 ^ p_))), (5, .int (nI (p_))), (4, .int (nI (s_))), (2, .int (nI (rts w d_))), (0, .ref (h)), (1, .int (nI (d_)))]) hx hb dX0_countLinksTo_39 rfl hl (by decide) rfl (fun ls hl => ?_)
          refine n_iinc (a := s_) (b := 1) (lv' := [(4, .int (nI (s_ + 1))), (3, .int (nI (u_ ||| 2 ^ p_))), (5, .int (nI (p_))), (2, .int (nI (rts w d_))), (0, .ref (h)), (1, .int (nI (d_)))]) hx hb dX0_countLinksTo_40 hl (k := 2) rfl rfl (by decide) rfl (fun ls hl => ?_)
          refine lv_goto (tgt := 11) hx hb dX0_countLinksTo_43 (by decide) ?_
          exact ih_11 (s_ + 1) (u_ ||| 2 ^ p_) ls (by omega) (by omega) (by simp only [usd]; rw [if_neg c_30, hlk, nv_nI (by omega), ← hu_]) (lv_sub hl [0, 1, 3, 4, 5] rfl)
  exact lp_11 _ (0) (0) ls (Nat.lt_succ_self _) (Nat.zero_le _) (rfl) (lv_sub hl [0, 1, 2, 3, 4] rfl)
