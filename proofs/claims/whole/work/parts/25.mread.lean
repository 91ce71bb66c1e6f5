theorem okI_to {x : Int32} {n : Nat} (hn : n < 2 ^ 30) : (nI 0 ≤ x ∧ x ≤ nI n) ↔ okI x (n + 1) := by
  constructor
  · intro ⟨h1, h2⟩
    refine okI_of (by omega) (Int32.not_lt.mpr h1) (fun q => ?_)
    rw [Int32.le_iff_toInt_le, nI_toInt (by omega)] at h2 q
    omega
  · rintro ⟨j, hj, rfl⟩
    exact ⟨nI_le (Nat.zero_le _) (by omega), nI_le (by omega) (by omega)⟩
theorem okI_sub {x : Int32} {n : Nat} (hn : n < 2 ^ 30) : (nI 0 ≤ x ∧ x ≤ nI n - nI 1) ↔ okI x n := by
  constructor
  · intro ⟨h1, h2⟩
    refine okI_of (by omega) (Int32.not_lt.mpr h1) (fun q => ?_)
    rw [Int32.le_iff_toInt_le, pk_sub_toInt (by omega) (by decide)] at h2
    rw [Int32.le_iff_toInt_le, nI_toInt (by omega)] at q
    omega
  · rintro ⟨j, hj, rfl⟩
    refine ⟨nI_le (Nat.zero_le _) (by omega), ?_⟩
    rw [Int32.le_iff_toInt_le, pk_sub_toInt (by omega) (by decide), nI_toInt (by omega)]
    omega
def sa (w : Nat → Int32) (i : Nat) : Nat → Nat
  | 0 => 0
  | k + 1 => sa w i k + ac w (4 * i + k)
theorem sa_end {c : Nat} {w : Nat → Int32} (h : WF c w) {i : Nat} (hi : i < 4) : sa w i (mn w i) = pc4 (am w i) := by
  rw [pc4_am h hi]
  have h4 := (h.m i hi).2
  have z0 := h.a0 i hi 0 (by decide)
  have z1 := h.a0 i hi 1 (by decide)
  have z2 := h.a0 i hi 2 (by decide)
  have z3 := h.a0 i hi 3 (by decide)
  generalize mn w i = m at *
  rcases (show m = 0 ∨ m = 1 ∨ m = 2 ∨ m = 3 ∨ m = 4 by omega) with rfl | rfl | rfl | rfl | rfl <;> simp only [sa, Nat.add_zero] at * <;> omega
theorem us_st {x : Int32} (h : x = nI 0 ∨ x = nI 1) : x = nI (nv x) := by
  rcases h with rfl | rfl <;> rw [nv_nI (by decide)]
theorem us_ne {x : Int32} (h : x = nI 0 ∨ x = nI 1) : ¬ x = -1 := by
  rcases h with rfl | rfl <;> decide
theorem rcd_us {w : Nat → Int32} {d i : Nat} (h : (w (197 + 4 * d + i) = nI 0 ∨ w (197 + 4 * d + i) = nI 1) ∧ ¬ am w i = 0) : 10 * nv (w (197 + 4 * d + i)) + pq w d i = rcd w d i := by
  unfold rcd
  rw [if_neg h.2]
  rcases h.1 with e | e
  · rw [if_pos e, e, nv_nI (by decide)]; omega
  · rw [if_neg (by rw [e]; decide), if_pos e, e, nv_nI (by decide)]
theorem rcd_le {w : Nat → Int32} {d i : Nat} (hp : pq w d i ≤ 2) (h : (w (197 + 4 * d + i) = nI 0 ∨ w (197 + 4 * d + i) = nI 1) ∧ ¬ am w i = 0) : rcd w d i ≤ 12 ∧ 10 * nv (w (197 + 4 * d + i)) + pq w d i ≤ 12 := by
  have e := rcd_us h
  have h2 : nv (w (197 + 4 * d + i)) ≤ 1 := by rcases h.1 with e | e <;> rw [e, nv_nI (by decide)] <;> omega
  omega
theorem rcd_no {w : Nat → Int32} {d i : Nat} (h : ¬ ((w (197 + 4 * d + i) = nI 0 ∨ w (197 + 4 * d + i) = nI 1) ∧ ¬ am w i = 0)) : rcd w d i = 99 := by
  unfold rcd
  by_cases e : am w i = 0
  · rw [if_pos e]
  · rw [if_neg e, if_neg (fun q => h ⟨Or.inl q, e⟩), if_neg (fun q => h ⟨Or.inr q, e⟩)]
theorem or0 (m : Nat) : nI m ||| nI 0 = nI m := by rw [nI_or, Nat.or_zero]
set_option maxHeartbeats 4000000 in
set_option maxRecDepth 100000 in
theorem c_X3_isSet (l : Launch) (D : va_G) (cI cO : ClassId) (h : Nat) (b : Nat → Nat) (w past er bf tk : Nat → Int32) (sv : Int32) (hs : Int64) (c0 : Nat) (hW : WF c0 w) (x : Int32)  : Met l yX3_isSet (Cond.code yX3_isSet cX3_isSet 2 (some .boolean) :: WL) ({ frames := 1, cells := 0, slots := 0, locals := 22 } : Room) (va_Pc [.ref (h), .int (x)] (PR D cI cO (mdW cI h b w past er bf tk sv hs))) (vp_Si (fun r => (r = nI 1 ∧ okI x (nn w)) ∨ (r = nI 0 ∧ ¬ okI x (nn w)))) 0 0 (fun _ => False) := by
  refine rd_bool (by decide) (Nat.le_of_ble_eq_true rfl) ?_
  intro p e s m args below meth c Q ls F hP hC hret hl
  have hx := F.1
  have hb := F.2.1
  have hml := F.2.2.1
  have hown := F.2.2.2.1
  have hts := F.2.2.2.2
  replace hl : lv_has ls 2 [(0, .ref (h)), (1, .int (x))] := hl
  have hn4 := hW.n.2
  refine lv_iload_n hx hb dX3_isSet_0 rfl (lv_at hl 1 rfl) ?_
  refine lv_iconst (v := (nI (0))) hx hb dX3_isSet_1 (by decide) ?_
  refine lv_aload_n hx hb dX3_isSet_2 rfl (lv_at hl 0 rfl) ?_
  refine gt3 hx hb hts hown hC.1 hP 0 rfl 0 (by decide) qw456 rfl dX3_isSet_3 ?_
  refine lv_iconst (v := (nI (0))) hx hb dX3_isSet_6 (by decide) ?_
  refine n_iald hx hb hC.1 hP 1 0 rfl rfl (by omega) (by decide) dX3_isSet_7 ?_
  refine w_cv (y := (nI (nn w))) hW.n.1 ?_
  refine lv_iconst (v := (nI (1))) hx hb dX3_isSet_8 (by decide) ?_
  refine lv_isub hx hb dX3_isSet_9  ?_
  refine goR (kS (As := [.int (x), .int (nI (0)), .int ((nI (nn w)) - (nI (1)))]) (rest := []) F (c_X3_within l D cI cO (x) (nI (0)) ((nI (nn w)) - (nI (1)))) ywX3_within qw490 qw491  ⟨rfl, rfl⟩ ⟨Nat.le_of_ble_eq_true rfl, Nat.le_of_ble_eq_true rfl⟩ (preR (fun k q h => by simp at h) hC) rfl hl.1 rfl (Nat.le_of_ble_eq_true rfl) dX3_isSet_10 ⟨Nat.zero_le _, Nat.zero_le _⟩) (fun r_10 h_10 => ?_)
  rcases h_10 with ⟨rfl, h_10⟩ | ⟨rfl, h_10⟩
  · exact hret _ _ ls (by first | exact Or.inl ⟨rfl, (okI_sub (by omega)).mp h_10⟩ | exact Or.inr ⟨rfl, fun q => h_10 ((okI_sub (by omega)).mpr q)⟩) (Or.inr (by decide)) dX3_isSet_13
  · exact hret _ _ ls (by first | exact Or.inl ⟨rfl, (okI_sub (by omega)).mp h_10⟩ | exact Or.inr ⟨rfl, fun q => h_10 ((okI_sub (by omega)).mpr q)⟩) (Or.inl (by decide)) dX3_isSet_13

set_option maxHeartbeats 4000000 in
set_option maxRecDepth 100000 in
theorem c_X3_isLink (l : Launch) (D : va_G) (cI cO : ClassId) (h : Nat) (b : Nat → Nat) (w past er bf tk : Nat → Int32) (sv : Int32) (hs : Int64) (c0 : Nat) (hW : WF c0 w) (x y : Int32)  : Met l yX3_isLink (Cond.code yX3_isLink cX3_isLink 3 (some .boolean) :: WL) ({ frames := 2, cells := 0, slots := 0, locals := 43 } : Room) (va_Pc [.ref (h), .int (x), .int (y)] (PR D cI cO (mdW cI h b w past er bf tk sv hs))) (vp_Si (fun r => (r = nI 1 ∧ okL w x y) ∨ (r = nI 0 ∧ ¬ okL w x y))) 0 0 (fun _ => False) := by
  refine rd_bool (by decide) (Nat.le_of_ble_eq_true rfl) ?_
  intro p e s m args below meth c Q ls F hP hC hret hl
  have hx := F.1
  have hb := F.2.1
  have hml := F.2.2.1
  have hown := F.2.2.2.1
  have hts := F.2.2.2.2
  replace hl : lv_has ls 3 [(0, .ref (h)), (1, .int (x)), (2, .int (y))] := hl
  have hn4 := hW.n.2
  refine lv_aload_n hx hb dX3_isLink_0 rfl (lv_at hl 0 rfl) ?_
  refine lv_iload_n hx hb dX3_isLink_1 rfl (lv_at hl 1 rfl) ?_
  refine goR (kV (As := [.int (x)]) (rest := []) F (c_X3_isSet l D cI cO h b w past er bf tk sv hs c0 hW (x)) ywX3_isSet qw505 qw507 qs36 ⟨rfl, rfl⟩ ⟨Nat.le_of_ble_eq_true rfl, Nat.le_of_ble_eq_true rfl⟩ (preV (preR hP hC) hC hP (ci := 3) (q0 := 0) rfl rfl rfl) rfl hl.1 rfl (Nat.le_of_ble_eq_true rfl) dX3_isLink_2 ⟨Nat.zero_le _, Nat.zero_le _⟩) (fun r_2 h_2 => ?_)
  rcases h_2 with ⟨rfl, h_2⟩ | ⟨rfl, h_2⟩
  · obtain ⟨i, hi, rfl⟩ := h_2
    have hm4 := (hW.m i (by omega)).2
    refine n_if_eq (tgt := 30) hx hb dX3_isLink_5 (by decide) (by omega) (fun h => absurd h (by decide)) (fun _ => ?_)
    refine lv_iload_n hx hb dX3_isLink_8 rfl (lv_at hl 2 rfl) ?_
    refine lv_iconst (v := (nI (0))) hx hb dX3_isLink_9 (by decide) ?_
    refine lv_aload_n hx hb dX3_isLink_10 rfl (lv_at hl 0 rfl) ?_
    refine gt3 hx hb hts hown hC.1 hP 0 rfl 0 (by decide) qw456 rfl dX3_isLink_11 ?_
    refine lv_iconst (v := (nI (1))) hx hb dX3_isLink_14 (by decide) ?_
    refine lv_iload_n hx hb dX3_isLink_15 rfl (lv_at hl 1 rfl) ?_
    refine n_iadd hx hb dX3_isLink_16  ?_
    refine n_iald hx hb hC.1 hP 1 0 rfl rfl (by omega) (by decide) dX3_isLink_17 ?_
    refine w_cv (y := (nI (mn w i))) (hW.m i (by omega)).1 ?_
    refine lv_iconst (v := (nI (1))) hx hb dX3_isLink_18 (by decide) ?_
    refine lv_isub hx hb dX3_isLink_19  ?_
    refine goR (kS (As := [.int (y), .int (nI (0)), .int ((nI (mn w i)) - (nI (1)))]) (rest := []) F (c_X3_within l D cI cO (y) (nI (0)) ((nI (mn w i)) - (nI (1)))) ywX3_within qw490 qw491  ⟨rfl, rfl⟩ ⟨Nat.le_of_ble_eq_true rfl, Nat.le_of_ble_eq_true rfl⟩ (preR (fun k q h => by simp at h) hC) rfl hl.1 rfl (Nat.le_of_ble_eq_true rfl) dX3_isLink_20 ⟨Nat.zero_le _, Nat.zero_le _⟩) (fun r_20 h_20 => ?_)
    rcases h_20 with ⟨rfl, h_20⟩ | ⟨rfl, h_20⟩
    · refine n_if_eq (tgt := 30) hx hb dX3_isLink_23 (by decide) (by omega) (fun h => absurd h (by decide)) (fun _ => ?_)
      refine lv_iconst (v := (nI (1))) hx hb dX3_isLink_26 (by decide) ?_
      refine lv_goto (tgt := 31) hx hb dX3_isLink_27 (by decide) ?_
      exact hret _ _ ls (by first | exact Or.inl ⟨rfl, i, hi, rfl, (okI_sub (by omega)).mp h_20⟩ | exact Or.inr ⟨rfl, fun h => h_2 (okL_1 h)⟩ | exact Or.inr ⟨rfl, fun h => h_20 ((okI_sub (by omega)).mpr (okL_2 hi hn4 h))⟩) (Or.inr (by decide)) dX3_isLink_31
    · refine n_if_eq (tgt := 30) hx hb dX3_isLink_23 (by decide) (by omega) (fun _ => ?_) (fun h => absurd h (by decide))
      refine lv_iconst (v := (nI (0))) hx hb dX3_isLink_30 (by decide) ?_
      exact hret _ _ ls (by first | exact Or.inl ⟨rfl, i, hi, rfl, (okI_sub (by omega)).mp h_20⟩ | exact Or.inr ⟨rfl, fun h => h_2 (okL_1 h)⟩ | exact Or.inr ⟨rfl, fun h => h_20 ((okI_sub (by omega)).mpr (okL_2 hi hn4 h))⟩) (Or.inl (by decide)) dX3_isLink_31
  · refine n_if_eq (tgt := 30) hx hb dX3_isLink_5 (by decide) (by omega) (fun _ => ?_) (fun h => absurd h (by decide))
    refine lv_iconst (v := (nI (0))) hx hb dX3_isLink_30 (by decide) ?_
    exact hret _ _ ls (by first | exact Or.inl ⟨rfl, i, hi, rfl, (okI_sub (by omega)).mp h_20⟩ | exact Or.inr ⟨rfl, fun h => h_2 (okL_1 h)⟩ | exact Or.inr ⟨rfl, fun h => h_20 ((okI_sub (by omega)).mpr (okL_2 hi hn4 h))⟩) (Or.inl (by decide)) dX3_isLink_31

set_option maxHeartbeats 4000000 in
set_option maxRecDepth 100000 in
theorem c_X3_isDestination (l : Launch) (D : va_G) (cI cO : ClassId) (x : Int32)  : Met l yX3_isDestination (Cond.code yX3_isDestination cX3_isDestination 1 (some .boolean) :: WL) ({ frames := 1, cells := 0, slots := 0, locals := 22 } : Room) (va_Pc [.int (x)] (PR D cI cO ([]))) (vp_Si (fun r => (r = nI 1 ∧ okI x 6) ∨ (r = nI 0 ∧ ¬ okI x 6))) 0 0 (fun _ => False) := by
  refine rd_bool (by decide) (Nat.le_of_ble_eq_true rfl) ?_
  intro p e s m args below meth c Q ls F hP hC hret hl
  have hx := F.1
  have hb := F.2.1
  have hml := F.2.2.1
  have hown := F.2.2.2.1
  have hts := F.2.2.2.2
  replace hl : lv_has ls 1 [(0, .int (x))] := hl
  refine lv_iload_n hx hb dX3_isDestination_0 rfl (lv_at hl 0 rfl) ?_
  refine lv_iconst (v := (nI (0))) hx hb dX3_isDestination_1 (by decide) ?_
  refine lv_iconst (v := (nI (5))) hx hb dX3_isDestination_2 (by decide) ?_
  refine goR (kS (As := [.int (x), .int (nI (0)), .int (nI (5))]) (rest := []) F (c_X3_within l D cI cO (x) (nI (0)) (nI (5))) ywX3_within qw490 qw491  ⟨rfl, rfl⟩ ⟨Nat.le_of_ble_eq_true rfl, Nat.le_of_ble_eq_true rfl⟩ (preR (fun k q h => by simp at h) hC) rfl hl.1 rfl (Nat.le_of_ble_eq_true rfl) dX3_isDestination_3 ⟨Nat.zero_le _, Nat.zero_le _⟩) (fun r_3 h_3 => ?_)
  rcases h_3 with ⟨rfl, h_3⟩ | ⟨rfl, h_3⟩
  · exact hret _ _ ls (by first | exact Or.inl ⟨rfl, (okI_to (n := 5) (by decide)).mp h_3⟩ | exact Or.inr ⟨rfl, fun q => h_3 ((okI_to (n := 5) (by decide)).mpr q)⟩) (Or.inr (by decide)) dX3_isDestination_6
  · exact hret _ _ ls (by first | exact Or.inl ⟨rfl, (okI_to (n := 5) (by decide)).mp h_3⟩ | exact Or.inr ⟨rfl, fun q => h_3 ((okI_to (n := 5) (by decide)).mpr q)⟩) (Or.inl (by decide)) dX3_isDestination_6

set_option maxHeartbeats 4000000 in
set_option maxRecDepth 100000 in
theorem c_X3_isStream (l : Launch) (D : va_G) (cI cO : ClassId) (x y : Int32)  : Met l yX3_isStream (Cond.code yX3_isStream cX3_isStream 2 (some .boolean) :: WL) ({ frames := 2, cells := 0, slots := 0, locals := 42 } : Room) (va_Pc [.int (x), .int (y)] (PR D cI cO ([]))) (vp_Si (fun r => (r = nI 1 ∧ okI x 6 ∧ okI y 16) ∨ (r = nI 0 ∧ ¬ (okI x 6 ∧ okI y 16)))) 0 0 (fun _ => False) := by
  refine rd_bool (by decide) (Nat.le_of_ble_eq_true rfl) ?_
  intro p e s m args below meth c Q ls F hP hC hret hl
  have hx := F.1
  have hb := F.2.1
  have hml := F.2.2.1
  have hown := F.2.2.2.1
  have hts := F.2.2.2.2
  replace hl : lv_has ls 2 [(0, .int (x)), (1, .int (y))] := hl
  refine lv_iload_n hx hb dX3_isStream_0 rfl (lv_at hl 0 rfl) ?_
  refine goR (kS (As := [.int (x)]) (rest := []) F (c_X3_isDestination l D cI cO (x)) ywX3_isDestination qw576 qw577  ⟨rfl, rfl⟩ ⟨Nat.le_of_ble_eq_true rfl, Nat.le_of_ble_eq_true rfl⟩ (preR (fun k q h => by simp at h) hC) rfl hl.1 rfl (Nat.le_of_ble_eq_true rfl) dX3_isStream_1 ⟨Nat.zero_le _, Nat.zero_le _⟩) (fun r_1 h_1 => ?_)
  rcases h_1 with ⟨rfl, h_1⟩ | ⟨rfl, h_1⟩
  · refine n_if_eq (tgt := 21) hx hb dX3_isStream_4 (by decide) (by omega) (fun h => absurd h (by decide)) (fun _ => ?_)
    refine lv_iload_n hx hb dX3_isStream_7 rfl (lv_at hl 1 rfl) ?_
    refine lv_iconst (v := (nI (0))) hx hb dX3_isStream_8 (by decide) ?_
    refine lv_bipush (v := (nI (15))) hx hb dX3_isStream_9 (by decide) ?_
    refine goR (kS (As := [.int (y), .int (nI (0)), .int (nI (15))]) (rest := []) F (c_X3_within l D cI cO (y) (nI (0)) (nI (15))) ywX3_within qw490 qw491  ⟨rfl, rfl⟩ ⟨Nat.le_of_ble_eq_true rfl, Nat.le_of_ble_eq_true rfl⟩ (preR (fun k q h => by simp at h) hC) rfl hl.1 rfl (Nat.le_of_ble_eq_true rfl) dX3_isStream_11 ⟨Nat.zero_le _, Nat.zero_le _⟩) (fun r_11 h_11 => ?_)
    rcases h_11 with ⟨rfl, h_11⟩ | ⟨rfl, h_11⟩
    · refine n_if_eq (tgt := 21) hx hb dX3_isStream_14 (by decide) (by omega) (fun h => absurd h (by decide)) (fun _ => ?_)
      refine lv_iconst (v := (nI (1))) hx hb dX3_isStream_17 (by decide) ?_
      refine lv_goto (tgt := 22) hx hb dX3_isStream_18 (by decide) ?_
      exact hret _ _ ls (by first | exact Or.inl ⟨rfl, h_1, (okI_to (n := 15) (by decide)).mp h_11⟩ | exact Or.inr ⟨rfl, fun h => h_1 h.1⟩ | exact Or.inr ⟨rfl, fun h => h_11 ((okI_to (n := 15) (by decide)).mpr h.2)⟩) (Or.inr (by decide)) dX3_isStream_22
    · refine n_if_eq (tgt := 21) hx hb dX3_isStream_14 (by decide) (by omega) (fun _ => ?_) (fun h => absurd h (by decide))
      refine lv_iconst (v := (nI (0))) hx hb dX3_isStream_21 (by decide) ?_
      exact hret _ _ ls (by first | exact Or.inl ⟨rfl, h_1, (okI_to (n := 15) (by decide)).mp h_11⟩ | exact Or.inr ⟨rfl, fun h => h_1 h.1⟩ | exact Or.inr ⟨rfl, fun h => h_11 ((okI_to (n := 15) (by decide)).mpr h.2)⟩) (Or.inl (by decide)) dX3_isStream_22
  · refine n_if_eq (tgt := 21) hx hb dX3_isStream_4 (by decide) (by omega) (fun _ => ?_) (fun h => absurd h (by decide))
    refine lv_iconst (v := (nI (0))) hx hb dX3_isStream_21 (by decide) ?_
    exact hret _ _ ls (by first | exact Or.inl ⟨rfl, h_1, (okI_to (n := 15) (by decide)).mp h_11⟩ | exact Or.inr ⟨rfl, fun h => h_1 h.1⟩ | exact Or.inr ⟨rfl, fun h => h_11 ((okI_to (n := 15) (by decide)).mpr h.2)⟩) (Or.inl (by decide)) dX3_isStream_22

set_option maxHeartbeats 4000000 in
set_option maxRecDepth 100000 in
theorem c_X3_activeOf (l : Launch) (D : va_G) (cI cO : ClassId) (h : Nat) (b : Nat → Nat) (w past er bf tk : Nat → Int32) (sv : Int32) (hs : Int64) (c0 : Nat) (hW : WF c0 w) (i : Nat) (hi : i < 4) : Met l yX3_activeOf (Cond.code yX3_activeOf cX3_activeOf 4 (some .int) :: WL) ({ frames := 0, cells := 0, slots := 0, locals := 0 } : Room) (va_Pc [.ref (h), .int (nI (i))] (PR D cI cO (mdW cI h b w past er bf tk sv hs))) (vp_Si (fun r => r = nI (pc4 (am w i)))) 0 0 (fun _ => False) := by
  refine rd_int (by decide) (Nat.le_of_ble_eq_true rfl) ?_
  intro p e s m args below meth c Q ls F hP hC hret hl
  have hx := F.1
  have hb := F.2.1
  have hml := F.2.2.1
  have hown := F.2.2.2.1
  have hts := F.2.2.2.2
  replace hl : lv_has ls 4 [(0, .ref (h)), (1, .int (nI (i)))] := hl
  have hn4 := hW.n.2
  have hm4 := (hW.m i hi).2
  refine lv_iconst (v := (nI (0))) hx hb dX3_activeOf_0 (by decide) ?_
  refine lv_istore_n (lv' := [(2, .int (nI (0))), (0, .ref (h)), (1, .int (nI (i)))]) hx hb dX3_activeOf_1 rfl hl (by decide) rfl (fun ls hl => ?_)
  refine lv_iconst (v := (nI (0))) hx hb dX3_activeOf_2 (by decide) ?_
  refine lv_istore_n (lv' := [(3, .int (nI (0))), (2, .int (nI (0))), (0, .ref (h)), (1, .int (nI (i)))]) hx hb dX3_activeOf_3 rfl hl (by decide) rfl (fun ls hl => ?_)
  have lp_4 : ∀ (fu_4 : Nat) (k : Nat) (n_ : Nat) (ls : Array Slot), mn w i - k < fu_4 → (k ≤ mn w i) → (n_ = sa w i k) → lv_has ls 4 [(3, .int (nI (k))), (2, .int (nI (n_))), (0, .ref (h)), (1, .int (nI (i)))] → W p l e ({ frames := 0, cells := 0, slots := 0, locals := 0 } : Room) s m args below meth c s.heap [] 0 0 Q (F0 m 4 ls []) := by
    intro fu_4
    induction fu_4 with
    | zero => intro k n_ ls hmu_4; exact absurd hmu_4 (Nat.not_lt_zero _)
    | succ fu_4 ih_4 =>
      intro k n_ ls hmu_4 hk hn_ hl
      refine lv_iload_n hx hb dX3_activeOf_4 rfl (lv_at hl 0 rfl) ?_
      refine lv_aload_n hx hb dX3_activeOf_5 rfl (lv_at hl 2 rfl) ?_
      refine gt3 hx hb hts hown hC.1 hP 0 rfl 0 (by decide) qw456 rfl dX3_activeOf_6 ?_
      refine lv_iconst (v := (nI (1))) hx hb dX3_activeOf_9 (by decide) ?_
      refine lv_iload_n hx hb dX3_activeOf_10 rfl (lv_at hl 3 rfl) ?_
      refine n_iadd hx hb dX3_activeOf_11  ?_
      refine n_iald hx hb hC.1 hP 1 0 rfl rfl (by omega) (by decide) dX3_activeOf_12 ?_
      refine w_cv (y := (nI (mn w i))) (hW.m i hi).1 ?_
      refine n_icmp_ge (tgt := 37) hx hb dX3_activeOf_13 (by decide) (by omega) (by omega) (fun c_13 => ?_) (fun c_13 => ?_)
      · refine lv_iload_n hx hb dX3_activeOf_37 rfl (lv_at hl 1 rfl) ?_
        exact hret _ _ ls (by rw [hn_, show k = mn w i by omega, sa_end hW hi]) dX3_activeOf_38
      · refine lv_iload_n hx hb dX3_activeOf_16 rfl (lv_at hl 1 rfl) ?_
        refine lv_aload_n hx hb dX3_activeOf_17 rfl (lv_at hl 2 rfl) ?_
        refine gt3 hx hb hts hown hC.1 hP 0 rfl 0 (by decide) qw456 rfl dX3_activeOf_18 ?_
        refine lv_iconst (v := (nI (5))) hx hb dX3_activeOf_21 (by decide) ?_
        refine lv_iconst (v := (nI (4))) hx hb dX3_activeOf_22 (by decide) ?_
        refine lv_iload_n hx hb dX3_activeOf_23 rfl (lv_at hl 3 rfl) ?_
        refine n_imul hx hb dX3_activeOf_24  ?_
        refine n_iadd hx hb dX3_activeOf_25  ?_
        refine lv_iload_n hx hb dX3_activeOf_26 rfl (lv_at hl 0 rfl) ?_
        refine n_iadd hx hb dX3_activeOf_27  ?_
        refine n_iald hx hb hC.1 hP 1 0 rfl rfl (by omega) (by decide) dX3_activeOf_28 ?_
        refine w_cv (y := (nI (ac w (4 * i + k)))) ((congrArg w (by omega)).trans (hW.a (4 * i + k) (by omega)).1) ?_
        refine n_iadd hx hb dX3_activeOf_29  ?_
        refine lv_istore_n (lv' := [(2, .int (nI (n_ + (ac w (4 * i + k))))), (3, .int (nI (k))), (0, .ref (h)), (1, .int (nI (i)))]) hx hb dX3_activeOf_30 rfl hl (by decide) rfl (fun ls hl => ?_)
        refine n_iinc (a := k) (b := 1) (lv' := [(3, .int (nI (k + 1))), (2, .int (nI (n_ + (ac w (4 * i + k))))), (0, .ref (h)), (1, .int (nI (i)))]) hx hb dX3_activeOf_31 hl (k := 1) rfl rfl (by decide) rfl (fun ls hl => ?_)
        refine lv_goto (tgt := 4) hx hb dX3_activeOf_34 (by decide) ?_
        exact ih_4 (k + 1) (n_ + (ac w (4 * i + k))) ls (by omega) (by omega) (by rw [hn_]; rfl) (lv_sub hl [0, 1, 2, 3] rfl)
  exact lp_4 _ (0) (0) ls (Nat.lt_succ_self _) (Nat.zero_le _) (rfl) (lv_sub hl [0, 1, 2, 3] rfl)

set_option maxHeartbeats 4000000 in
set_option maxRecDepth 100000 in
theorem c_X3_isUsable (l : Launch) (D : va_G) (cI cO : ClassId) (h : Nat) (b : Nat → Nat) (w past er bf tk : Nat → Int32) (sv : Int32) (hs : Int64) (c0 : Nat) (hW : WF c0 w) (d_ i : Nat) (hd6 : d_ < 6) (hi : i < 4) : Met l yX3_isUsable (Cond.code yX3_isUsable cX3_isUsable 4 (some .boolean) :: WL) ({ frames := 1, cells := 0, slots := 0, locals := 23 } : Room) (va_Pc [.ref (h), .int (nI (d_)), .int (nI (i))] (PR D cI cO (mdW cI h b w past er bf tk sv hs))) (vp_Si (fun r => (r = nI 1 ∧ ((w (197 + 4 * d_ + i) = nI 0 ∨ w (197 + 4 * d_ + i) = nI 1) ∧ ¬ am w i = 0)) ∨ (r = nI 0 ∧ ¬ ((w (197 + 4 * d_ + i) = nI 0 ∨ w (197 + 4 * d_ + i) = nI 1) ∧ ¬ am w i = 0)))) 0 0 (fun _ => False) := by
  refine rd_bool (by decide) (Nat.le_of_ble_eq_true rfl) ?_
  intro p e s m args below meth c Q ls F hP hC hret hl
  have hx := F.1
  have hb := F.2.1
  have hml := F.2.2.1
  have hown := F.2.2.2.1
  have hts := F.2.2.2.2
  replace hl : lv_has ls 4 [(0, .ref (h)), (1, .int (nI (d_))), (2, .int (nI (i)))] := hl
  have hn4 := hW.n.2
  have ham := am_lt hW hi
  have hpa := pc4_le _ ham
  refine lv_aload_n hx hb dX3_isUsable_0 rfl (lv_at hl 0 rfl) ?_
  refine gt3 hx hb hts hown hC.1 hP 0 rfl 0 (by decide) qw456 rfl dX3_isUsable_1 ?_
  refine lv_sipush (v := (nI (197))) hx hb dX3_isUsable_4 (by decide) ?_
  refine lv_iconst (v := (nI (4))) hx hb dX3_isUsable_7 (by decide) ?_
  refine lv_iload_n hx hb dX3_isUsable_8 rfl (lv_at hl 1 rfl) ?_
  refine n_imul hx hb dX3_isUsable_9  ?_
  refine n_iadd hx hb dX3_isUsable_10  ?_
  refine lv_iload_n hx hb dX3_isUsable_11 rfl (lv_at hl 2 rfl) ?_
  refine n_iadd hx hb dX3_isUsable_12  ?_
  refine n_iald hx hb hC.1 hP 1 0 rfl rfl (by omega) (by decide) dX3_isUsable_13 ?_
  refine w_cv (y := (w (197 + 4 * d_ + i))) rfl ?_
  refine lv_istore_n (lv' := [(3, .int (w (197 + 4 * d_ + i))), (0, .ref (h)), (1, .int (nI (d_))), (2, .int (nI (i)))]) hx hb dX3_isUsable_14 rfl hl (by decide) rfl (fun ls hl => ?_)
  refine lv_iload_n hx hb dX3_isUsable_15 rfl (lv_at hl 0 rfl) ?_
  refine lv_if_eq (tgt := 24) hx hb dX3_isUsable_16 (by decide)  (fun c_16 => ?_) (fun c_16 => ?_)
  · refine lv_aload_n hx hb dX3_isUsable_24 rfl (lv_at hl 1 rfl) ?_
    refine lv_iload_n hx hb dX3_isUsable_25 rfl (lv_at hl 3 rfl) ?_
    refine goR (kV (As := [.int (nI (i))]) (rest := []) F (c_X3_activeOf l D cI cO h b w past er bf tk sv hs c0 hW (i) (by omega)) ywX3_activeOf qw525 qw527 qs41 ⟨rfl, rfl⟩ ⟨Nat.le_of_ble_eq_true rfl, Nat.le_of_ble_eq_true rfl⟩ (preV (preR hP hC) hC hP (ci := 3) (q0 := 0) rfl rfl rfl) rfl hl.1 rfl (Nat.le_of_ble_eq_true rfl) dX3_isUsable_26 ⟨Nat.zero_le _, Nat.zero_le _⟩) (fun r_26 h_26 => ?_)
    subst h_26
    refine n_if_le (tgt := 36) hx hb dX3_isUsable_29 (by decide) (by omega) (fun c_29 => ?_) (fun c_29 => ?_)
    · refine lv_iconst (v := (nI (0))) hx hb dX3_isUsable_36 (by decide) ?_
      exact hret _ _ ls (Or.inr ⟨rfl, fun q => absurd q.2 (by omega)⟩) (Or.inl (by decide)) dX3_isUsable_37
    · refine lv_iconst (v := (nI (1))) hx hb dX3_isUsable_32 (by decide) ?_
      refine lv_goto (tgt := 37) hx hb dX3_isUsable_33 (by decide) ?_
      exact hret _ _ ls (Or.inl ⟨rfl, Or.inl c_16, by omega⟩) (Or.inr (by decide)) dX3_isUsable_37
  · refine lv_iload_n hx hb dX3_isUsable_19 rfl (lv_at hl 0 rfl) ?_
    refine lv_iconst (v := (nI (1))) hx hb dX3_isUsable_20 (by decide) ?_
    refine lv_icmp_ne (tgt := 36) hx hb dX3_isUsable_21 (by decide)  (fun c_21 => ?_) (fun c_21 => ?_)
    · refine lv_iconst (v := (nI (0))) hx hb dX3_isUsable_36 (by decide) ?_
      exact hret _ _ ls (Or.inr ⟨rfl, fun q => q.1.elim c_16 c_21⟩) (Or.inl (by decide)) dX3_isUsable_37
    · refine lv_aload_n hx hb dX3_isUsable_24 rfl (lv_at hl 1 rfl) ?_
      refine lv_iload_n hx hb dX3_isUsable_25 rfl (lv_at hl 3 rfl) ?_
      refine goR (kV (As := [.int (nI (i))]) (rest := []) F (c_X3_activeOf l D cI cO h b w past er bf tk sv hs c0 hW (i) (by omega)) ywX3_activeOf qw525 qw527 qs41 ⟨rfl, rfl⟩ ⟨Nat.le_of_ble_eq_true rfl, Nat.le_of_ble_eq_true rfl⟩ (preV (preR hP hC) hC hP (ci := 3) (q0 := 0) rfl rfl rfl) rfl hl.1 rfl (Nat.le_of_ble_eq_true rfl) dX3_isUsable_26 ⟨Nat.zero_le _, Nat.zero_le _⟩) (fun r_26 h_26 => ?_)
      subst h_26
      refine n_if_le (tgt := 36) hx hb dX3_isUsable_29 (by decide) (by omega) (fun c_29 => ?_) (fun c_29 => ?_)
      · refine lv_iconst (v := (nI (0))) hx hb dX3_isUsable_36 (by decide) ?_
        exact hret _ _ ls (Or.inr ⟨rfl, fun q => absurd q.2 (by omega)⟩) (Or.inl (by decide)) dX3_isUsable_37
      · refine lv_iconst (v := (nI (1))) hx hb dX3_isUsable_32 (by decide) ?_
        refine lv_goto (tgt := 37) hx hb dX3_isUsable_33 (by decide) ?_
        exact hret _ _ ls (Or.inl ⟨rfl, Or.inr c_21, by omega⟩) (Or.inr (by decide)) dX3_isUsable_37

set_option maxHeartbeats 4000000 in
set_option maxRecDepth 100000 in
theorem c_X3_routesOf (l : Launch) (D : va_G) (cI cO : ClassId) (h : Nat) (b : Nat → Nat) (w past er bf tk : Nat → Int32) (sv : Int32) (hs : Int64) (c0 : Nat) (hW : WF c0 w) (d_ : Nat) (hd6 : d_ < 6) : Met l yX3_routesOf (Cond.code yX3_routesOf cX3_routesOf 6 (some .int) :: WL) ({ frames := 2, cells := 0, slots := 0, locals := 46 } : Room) (va_Pc [.ref (h), .int (nI (d_))] (PR D cI cO (mdW cI h b w past er bf tk sv hs))) (vp_Si (fun r => r = nI (rts w d_))) 0 0 (fun _ => False) := by
  refine rd_int (by decide) (Nat.le_of_ble_eq_true rfl) ?_
  intro p e s m args below meth c Q ls F hP hC hret hl
  have hx := F.1
  have hb := F.2.1
  have hml := F.2.2.1
  have hown := F.2.2.2.1
  have hts := F.2.2.2.2
  replace hl : lv_has ls 6 [(0, .ref (h)), (1, .int (nI (d_)))] := hl
  have hn4 := hW.n.2
  refine lv_bipush (v := (nI (99))) hx hb dX3_routesOf_0 (by decide) ?_
  refine lv_istore_n (lv' := [(2, .int (nI (99))), (0, .ref (h)), (1, .int (nI (d_)))]) hx hb dX3_routesOf_2 rfl hl (by decide) rfl (fun ls hl => ?_)
  refine lv_iconst (v := (nI (0))) hx hb dX3_routesOf_3 (by decide) ?_
  refine lv_istore_n (lv' := [(3, .int (nI (0))), (2, .int (nI (99))), (0, .ref (h)), (1, .int (nI (d_)))]) hx hb dX3_routesOf_4 rfl hl (by decide) rfl (fun ls hl => ?_)
  refine lv_iconst (v := (nI (0))) hx hb dX3_routesOf_5 (by decide) ?_
  refine lv_istore (lv' := [(4, .int (nI (0))), (3, .int (nI (0))), (2, .int (nI (99))), (0, .ref (h)), (1, .int (nI (d_)))]) hx hb dX3_routesOf_6 hl (by decide) rfl (fun ls hl => ?_)
  have lp_8 : ∀ (fu_8 : Nat) (i : Nat) (b1 : Nat) (m_ : Nat) (ls : Array Slot), nn w - i < fu_8 → (i ≤ nn w) → (bmL 99 (rcd w d_) i = (b1, m_)) → lv_has ls 6 [(4, .int (nI (i))), (3, .int (nI (m_))), (2, .int (nI (b1))), (0, .ref (h)), (1, .int (nI (d_)))] → W p l e ({ frames := 2, cells := 0, slots := 0, locals := 46 } : Room) s m args below meth c s.heap [] 0 0 Q (F0 m 8 ls []) := by
    intro fu_8
    induction fu_8 with
    | zero => intro i b1 m_ ls hmu_8; exact absurd hmu_8 (Nat.not_lt_zero _)
    | succ fu_8 ih_8 =>
      intro i b1 m_ ls hmu_8 hi he hl
      have hl3 := bmL_lim (lim := 99) (f := rcd w d_) i
      have hlt := bmL_lt (lim := 99) (f := rcd w d_) i
      rw [he] at hl3 hlt
      simp only at hl3 hlt
      refine lv_iload hx hb dX3_routesOf_8 (lv_at hl 0 rfl) ?_
      refine lv_aload_n hx hb dX3_routesOf_10 rfl (lv_at hl 3 rfl) ?_
      refine gt3 hx hb hts hown hC.1 hP 0 rfl 0 (by decide) qw456 rfl dX3_routesOf_11 ?_
      refine lv_iconst (v := (nI (0))) hx hb dX3_routesOf_14 (by decide) ?_
      refine n_iald hx hb hC.1 hP 1 0 rfl rfl (by omega) (by decide) dX3_routesOf_15 ?_
      refine w_cv (y := (nI (nn w))) hW.n.1 ?_
      refine n_icmp_ge (tgt := 113) hx hb dX3_routesOf_16 (by decide) (by omega) (by omega) (fun c_16 => ?_) (fun c_16 => ?_)
      · refine lv_iload_n hx hb dX3_routesOf_113 rfl (lv_at hl 1 rfl) ?_
        exact hret _ _ ls (by unfold rts; rw [show nn w = i by omega, he]) dX3_routesOf_114
      · have h2i : 2 ^ i ≤ 8 := by have := Nat.pow_le_pow_right (n := 2) (by decide) (show i ≤ 3 by omega); simpa using this
        have h2p : 0 < 2 ^ i := Nat.pow_pos (by decide)
        refine lv_aload_n hx hb dX3_routesOf_19 rfl (lv_at hl 3 rfl) ?_
        refine lv_iload_n hx hb dX3_routesOf_20 rfl (lv_at hl 4 rfl) ?_
        refine lv_iload hx hb dX3_routesOf_21 (lv_at hl 0 rfl) ?_
        refine goR (kV (As := [.int (nI (d_)), .int (nI (i))]) (rest := []) F (c_X3_isUsable l D cI cO h b w past er bf tk sv hs c0 hW (d_) (i) (by omega) (by omega)) ywX3_isUsable qw521 qw523 qs40 ⟨rfl, rfl⟩ ⟨Nat.le_of_ble_eq_true rfl, Nat.le_of_ble_eq_true rfl⟩ (preV (preR hP hC) hC hP (ci := 3) (q0 := 0) rfl rfl rfl) rfl hl.1 rfl (Nat.le_of_ble_eq_true rfl) dX3_routesOf_23 ⟨Nat.zero_le _, Nat.zero_le _⟩) (fun r_23 h_23 => ?_)
        rcases h_23 with ⟨rfl, h_23⟩ | ⟨rfl, h_23⟩
        · have hpq := hW.p d_ hd6 i (by omega) (us_ne h_23.1)
          have hp2 := hpq.2
          have hr12 := rcd_le hp2 h_23
          refine n_if_eq (tgt := 107) hx hb dX3_routesOf_26 (by decide) (by omega) (fun h => absurd h (by decide)) (fun _ => ?_)
          refine lv_bipush (v := (nI (10))) hx hb dX3_routesOf_29 (by decide) ?_
          refine lv_aload_n hx hb dX3_routesOf_31 rfl (lv_at hl 3 rfl) ?_
          refine gt3 hx hb hts hown hC.1 hP 0 rfl 0 (by decide) qw456 rfl dX3_routesOf_32 ?_
          refine lv_sipush (v := (nI (197))) hx hb dX3_routesOf_35 (by decide) ?_
          refine lv_iconst (v := (nI (4))) hx hb dX3_routesOf_38 (by decide) ?_
          refine lv_iload_n hx hb dX3_routesOf_39 rfl (lv_at hl 4 rfl) ?_
          refine n_imul hx hb dX3_routesOf_40  ?_
          refine n_iadd hx hb dX3_routesOf_41  ?_
          refine lv_iload hx hb dX3_routesOf_42 (lv_at hl 0 rfl) ?_
          refine n_iadd hx hb dX3_routesOf_44  ?_
          refine n_iald hx hb hC.1 hP 1 0 rfl rfl (by omega) (by decide) dX3_routesOf_45 ?_
          refine w_cv (y := (nI (nv (w (197 + 4 * d_ + i))))) (us_st h_23.1) ?_
          refine n_imul hx hb dX3_routesOf_46  ?_
          refine lv_aload_n hx hb dX3_routesOf_47 rfl (lv_at hl 3 rfl) ?_
          refine gt3 hx hb hts hown hC.1 hP 0 rfl 0 (by decide) qw456 rfl dX3_routesOf_48 ?_
          refine lv_sipush (v := (nI (221))) hx hb dX3_routesOf_51 (by decide) ?_
          refine lv_iconst (v := (nI (4))) hx hb dX3_routesOf_54 (by decide) ?_
          refine lv_iload_n hx hb dX3_routesOf_55 rfl (lv_at hl 4 rfl) ?_
          refine n_imul hx hb dX3_routesOf_56  ?_
          refine n_iadd hx hb dX3_routesOf_57  ?_
          refine lv_iload hx hb dX3_routesOf_58 (lv_at hl 0 rfl) ?_
          refine n_iadd hx hb dX3_routesOf_60  ?_
          refine n_iald hx hb hC.1 hP 1 0 rfl rfl (by omega) (by decide) dX3_routesOf_61 ?_
          refine w_cv (y := (nI (pq w d_ i))) hpq.1 ?_
          refine n_iadd hx hb dX3_routesOf_62  ?_
          refine w_cv (y := (nI (rcd w d_ i))) (congrArg nI (rcd_us h_23)) ?_
          refine lv_istore (lv' := [(5, .int (nI (rcd w d_ i))), (4, .int (nI (i))), (3, .int (nI (m_))), (2, .int (nI (b1))), (0, .ref (h)), (1, .int (nI (d_)))]) hx hb dX3_routesOf_63 hl (by decide) rfl (fun ls hl => ?_)
          refine lv_iload hx hb dX3_routesOf_65 (lv_at hl 0 rfl) ?_
          refine lv_iload_n hx hb dX3_routesOf_67 rfl (lv_at hl 3 rfl) ?_
          refine n_icmp_ge (tgt := 75) hx hb dX3_routesOf_68 (by decide) (by omega) (by omega) (fun c_68 => ?_) (fun c_68 => ?_)
          · refine lv_iload_n hx hb dX3_routesOf_75 rfl (lv_at hl 2 rfl) ?_
            refine lv_istore_n (lv' := [(3, .int (nI (m_))), (5, .int (nI (rcd w d_ i))), (4, .int (nI (i))), (2, .int (nI (b1))), (0, .ref (h)), (1, .int (nI (d_)))]) hx hb dX3_routesOf_76 rfl hl (by decide) rfl (fun ls hl => ?_)
            refine lv_iload hx hb dX3_routesOf_77 (lv_at hl 1 rfl) ?_
            refine lv_iload_n hx hb dX3_routesOf_79 rfl (lv_at hl 3 rfl) ?_
            refine n_icmp_ge (tgt := 88) hx hb dX3_routesOf_80 (by decide) (by omega) (by omega) (fun c_80 => ?_) (fun c_80 => ?_)
            · refine lv_iload_n hx hb dX3_routesOf_88 rfl (lv_at hl 3 rfl) ?_
              refine lv_istore_n (lv' := [(2, .int (nI (b1))), (3, .int (nI (m_))), (5, .int (nI (rcd w d_ i))), (4, .int (nI (i))), (0, .ref (h)), (1, .int (nI (d_)))]) hx hb dX3_routesOf_89 rfl hl (by decide) rfl (fun ls hl => ?_)
              refine lv_iload_n hx hb dX3_routesOf_90 rfl (lv_at hl 1 rfl) ?_
              refine lv_iload hx hb dX3_routesOf_91 (lv_at hl 2 rfl) ?_
              refine lv_iload_n hx hb dX3_routesOf_93 rfl (lv_at hl 0 rfl) ?_
              refine n_icmp_ne (tgt := 104) hx hb dX3_routesOf_94 (by decide) (by omega) (by omega) (fun c_94 => ?_) (fun c_94 => ?_)
              · refine lv_iconst (v := (nI (0))) hx hb dX3_routesOf_104 (by decide) ?_
                refine lv_ior hx hb dX3_routesOf_105 ?_
                refine w_cv (y := (nI (m_))) (or0 _) ?_
                refine lv_istore_n (lv' := [(3, .int (nI (m_))), (2, .int (nI (b1))), (5, .int (nI (rcd w d_ i))), (4, .int (nI (i))), (0, .ref (h)), (1, .int (nI (d_)))]) hx hb dX3_routesOf_106 rfl hl (by decide) rfl (fun ls hl => ?_)
                refine n_iinc (a := i) (b := 1) (lv' := [(4, .int (nI (i + 1))), (3, .int (nI (m_))), (2, .int (nI (b1))), (5, .int (nI (rcd w d_ i))), (0, .ref (h)), (1, .int (nI (d_)))]) hx hb dX3_routesOf_107 hl (k := 3) rfl rfl (by decide) rfl (fun ls hl => ?_)
                refine lv_goto (tgt := 8) hx hb dX3_routesOf_110 (by decide) ?_
                exact ih_8 (i + 1) (b1) (m_) ls (by omega) (by omega) (by rw [bmL_step he, if_neg (by omega), if_neg (by omega)]) (lv_sub hl [0, 1, 2, 4, 5] rfl)
              · refine lv_iconst (v := (nI (1))) hx hb dX3_routesOf_97 (by decide) ?_
                refine lv_iload hx hb dX3_routesOf_98 (lv_at hl 3 rfl) ?_
                refine lv_ishl hx hb dX3_routesOf_100 ?_
                refine lv_goto (tgt := 105) hx hb dX3_routesOf_101 (by decide) ?_
                refine lv_ior hx hb dX3_routesOf_105 ?_
                refine w_cv (y := (nI (m_ + 2 ^ i))) (or1 _ (by omega) i (by omega) (by omega)) ?_
                refine lv_istore_n (lv' := [(3, .int (nI (m_ + 2 ^ i))), (2, .int (nI (b1))), (5, .int (nI (rcd w d_ i))), (4, .int (nI (i))), (0, .ref (h)), (1, .int (nI (d_)))]) hx hb dX3_routesOf_106 rfl hl (by decide) rfl (fun ls hl => ?_)
                refine n_iinc (a := i) (b := 1) (lv' := [(4, .int (nI (i + 1))), (3, .int (nI (m_ + 2 ^ i))), (2, .int (nI (b1))), (5, .int (nI (rcd w d_ i))), (0, .ref (h)), (1, .int (nI (d_)))]) hx hb dX3_routesOf_107 hl (k := 3) rfl rfl (by decide) rfl (fun ls hl => ?_)
                refine lv_goto (tgt := 8) hx hb dX3_routesOf_110 (by decide) ?_
                exact ih_8 (i + 1) (b1) (m_ + 2 ^ i) ls (by omega) (by omega) (by rw [bmL_step he, if_neg (by omega), if_pos ⟨by omega, by omega⟩]) (lv_sub hl [0, 1, 2, 4, 5] rfl)
            · exact absurd c_68 (by omega)
          · refine lv_iconst (v := (nI (0))) hx hb dX3_routesOf_71 (by decide) ?_
            refine lv_goto (tgt := 76) hx hb dX3_routesOf_72 (by decide) ?_
            refine lv_istore_n (lv' := [(3, .int (nI (0))), (5, .int (nI (rcd w d_ i))), (4, .int (nI (i))), (2, .int (nI (b1))), (0, .ref (h)), (1, .int (nI (d_)))]) hx hb dX3_routesOf_76 rfl hl (by decide) rfl (fun ls hl => ?_)
            refine lv_iload hx hb dX3_routesOf_77 (lv_at hl 1 rfl) ?_
            refine lv_iload_n hx hb dX3_routesOf_79 rfl (lv_at hl 3 rfl) ?_
            refine n_icmp_ge (tgt := 88) hx hb dX3_routesOf_80 (by decide) (by omega) (by omega) (fun c_80 => ?_) (fun c_80 => ?_)
            · exact absurd c_68 (by omega)
            · refine lv_iload hx hb dX3_routesOf_83 (lv_at hl 1 rfl) ?_
              refine lv_goto (tgt := 89) hx hb dX3_routesOf_85 (by decide) ?_
              refine lv_istore_n (lv' := [(2, .int (nI (rcd w d_ i))), (3, .int (nI (0))), (5, .int (nI (rcd w d_ i))), (4, .int (nI (i))), (0, .ref (h)), (1, .int (nI (d_)))]) hx hb dX3_routesOf_89 rfl hl (by decide) rfl (fun ls hl => ?_)
              refine lv_iload_n hx hb dX3_routesOf_90 rfl (lv_at hl 1 rfl) ?_
              refine lv_iload hx hb dX3_routesOf_91 (lv_at hl 2 rfl) ?_
              refine lv_iload_n hx hb dX3_routesOf_93 rfl (lv_at hl 0 rfl) ?_
              refine n_icmp_ne (tgt := 104) hx hb dX3_routesOf_94 (by decide) (by omega) (by omega) (fun c_94 => ?_) (fun c_94 => ?_)
              · exact absurd rfl c_94
              · refine lv_iconst (v := (nI (1))) hx hb dX3_routesOf_97 (by decide) ?_
                refine lv_iload hx hb dX3_routesOf_98 (lv_at hl 3 rfl) ?_
                refine lv_ishl hx hb dX3_routesOf_100 ?_
                refine lv_goto (tgt := 105) hx hb dX3_routesOf_101 (by decide) ?_
                refine lv_ior hx hb dX3_routesOf_105 ?_
                refine w_cv (y := (nI (0 + 2 ^ i))) (or1 _ (by omega) i (by omega) (by omega)) ?_
                refine lv_istore_n (lv' := [(3, .int (nI (0 + 2 ^ i))), (2, .int (nI (rcd w d_ i))), (5, .int (nI (rcd w d_ i))), (4, .int (nI (i))), (0, .ref (h)), (1, .int (nI (d_)))]) hx hb dX3_routesOf_106 rfl hl (by decide) rfl (fun ls hl => ?_)
                refine n_iinc (a := i) (b := 1) (lv' := [(4, .int (nI (i + 1))), (3, .int (nI (0 + 2 ^ i))), (2, .int (nI (rcd w d_ i))), (5, .int (nI (rcd w d_ i))), (0, .ref (h)), (1, .int (nI (d_)))]) hx hb dX3_routesOf_107 hl (k := 3) rfl rfl (by decide) rfl (fun ls hl => ?_)
                refine lv_goto (tgt := 8) hx hb dX3_routesOf_110 (by decide) ?_
                exact ih_8 (i + 1) (rcd w d_ i) (0 + 2 ^ i) ls (by omega) (by omega) (by rw [bmL_step he, if_pos (by omega), Nat.zero_add]) (lv_sub hl [0, 1, 2, 4, 5] rfl)
        · refine n_if_eq (tgt := 107) hx hb dX3_routesOf_26 (by decide) (by omega) (fun _ => ?_) (fun h => absurd h (by decide))
          refine n_iinc (a := i) (b := 1) (lv' := [(4, .int (nI (i + 1))), (3, .int (nI (m_))), (2, .int (nI (b1))), (0, .ref (h)), (1, .int (nI (d_)))]) hx hb dX3_routesOf_107 hl (k := 0) rfl rfl (by decide) rfl (fun ls hl => ?_)
          refine lv_goto (tgt := 8) hx hb dX3_routesOf_110 (by decide) ?_
          exact ih_8 (i + 1) (b1) (m_) ls (by omega) (by omega) (by rw [bmL_step he, rcd_no h_23, if_neg (by omega), if_neg (by omega)]) (lv_sub hl [0, 1, 2, 3, 4] rfl)
  exact lp_8 _ (0) (99) (0) ls (Nat.lt_succ_self _) (Nat.zero_le _) (rfl) (lv_sub hl [0, 1, 2, 3, 4] rfl)

set_option maxHeartbeats 4000000 in
set_option maxRecDepth 100000 in
theorem c_X3_bits (l : Launch) (D : va_G) (cI cO : ClassId) (m_ : Nat) (hm : m_ < 16) : Met l yX3_bits (Cond.code yX3_bits cX3_bits 3 (some .int) :: WL) ({ frames := 0, cells := 0, slots := 0, locals := 0 } : Room) (va_Pc [.int (nI (m_))] (PR D cI cO ([]))) (vp_Si (fun r => r = nI (pc4 m_))) 0 0 (fun _ => False) := by
  refine rd_int (by decide) (Nat.le_of_ble_eq_true rfl) ?_
  intro p e s m args below meth c Q ls F hP hC hret hl
  have hx := F.1
  have hb := F.2.1
  have hml := F.2.2.1
  have hown := F.2.2.2.1
  have hts := F.2.2.2.2
  replace hl : lv_has ls 3 [(0, .int (nI (m_)))] := hl
  refine lv_iconst (v := (nI (0))) hx hb dX3_bits_0 (by decide) ?_
  refine lv_istore_n (lv' := [(1, .int (nI (0))), (0, .int (nI (m_)))]) hx hb dX3_bits_1 rfl hl (by decide) rfl (fun ls hl => ?_)
  refine lv_iconst (v := (nI (0))) hx hb dX3_bits_2 (by decide) ?_
  refine lv_istore_n (lv' := [(2, .int (nI (0))), (1, .int (nI (0))), (0, .int (nI (m_)))]) hx hb dX3_bits_3 rfl hl (by decide) rfl (fun ls hl => ?_)
  have lp_4 : ∀ (fu_4 : Nat) (k : Nat) (n_ : Nat) (ls : Array Slot), 4 - k < fu_4 → (k ≤ 4) → (n_ = cb m_ k) → lv_has ls 3 [(2, .int (nI (k))), (1, .int (nI (n_))), (0, .int (nI (m_)))] → W p l e ({ frames := 0, cells := 0, slots := 0, locals := 0 } : Room) s m args below meth c s.heap [] 0 0 Q (F0 m 4 ls []) := by
    intro fu_4
    induction fu_4 with
    | zero => intro k n_ ls hmu_4; exact absurd hmu_4 (Nat.not_lt_zero _)
    | succ fu_4 ih_4 =>
      intro k n_ ls hmu_4 hk hn_ hl
      refine lv_iload_n hx hb dX3_bits_4 rfl (lv_at hl 0 rfl) ?_
      refine lv_iconst (v := (nI (4))) hx hb dX3_bits_5 (by decide) ?_
      refine n_icmp_ge (tgt := 23) hx hb dX3_bits_6 (by decide) (by omega) (by omega) (fun c_6 => ?_) (fun c_6 => ?_)
      · refine lv_iload_n hx hb dX3_bits_23 rfl (lv_at hl 1 rfl) ?_
        exact hret _ _ ls (by rw [hn_, show k = 4 by omega]; rfl) dX3_bits_24
      · refine lv_iload_n hx hb dX3_bits_9 rfl (lv_at hl 1 rfl) ?_
        refine lv_iload_n hx hb dX3_bits_10 rfl (lv_at hl 2 rfl) ?_
        refine lv_iload_n hx hb dX3_bits_11 rfl (lv_at hl 0 rfl) ?_
        refine lv_ishr hx hb dX3_bits_12 ?_
        refine lv_iconst (v := (nI (1))) hx hb dX3_bits_13 (by decide) ?_
        refine lv_iand hx hb dX3_bits_14 ?_
        refine w_cv (y := (nI (tb m_ k))) (shr1 _ hm k (by omega)) ?_
        refine n_iadd hx hb dX3_bits_15  ?_
        refine lv_istore_n (lv' := [(1, .int (nI (n_ + (tb m_ k)))), (2, .int (nI (k))), (0, .int (nI (m_)))]) hx hb dX3_bits_16 rfl hl (by decide) rfl (fun ls hl => ?_)
        refine n_iinc (a := k) (b := 1) (lv' := [(2, .int (nI (k + 1))), (1, .int (nI (n_ + (tb m_ k)))), (0, .int (nI (m_)))]) hx hb dX3_bits_17 hl (k := 1) rfl rfl (by decide) rfl (fun ls hl => ?_)
        refine lv_goto (tgt := 4) hx hb dX3_bits_20 (by decide) ?_
        exact ih_4 (k + 1) (n_ + (tb m_ k)) ls (by omega) (by omega) (by rw [hn_]; rfl) (lv_sub hl [0, 1, 2] rfl)
  exact lp_4 _ (0) (0) ls (Nat.lt_succ_self _) (Nat.zero_le _) (rfl) (lv_sub hl [0, 1, 2] rfl)

set_option maxHeartbeats 4000000 in
set_option maxRecDepth 100000 in
theorem c_X3_linkOf (l : Launch) (D : va_G) (cI cO : ClassId) (h : Nat) (b : Nat → Nat) (w past er bf tk : Nat → Int32) (sv : Int32) (hs : Int64) (c0 : Nat) (hW : WF c0 w) (k : Nat) (hk : k < 96) : Met l yX3_linkOf (Cond.code yX3_linkOf cX3_linkOf 7 (some .int) :: WL) ({ frames := 3, cells := 0, slots := 0, locals := 71 } : Room) (va_Pc [.ref (h), .int (nI (k))] (PR D cI cO (mdW cI h b w past er bf tk sv hs))) (vp_Si (fun r => r = lk w k)) 0 0 (fun _ => False) := by
  refine rd_int (by decide) (Nat.le_of_ble_eq_true rfl) ?_
  intro p e s m args below meth c Q ls F hP hC hret hl
  have hx := F.1
  have hb := F.2.1
  have hml := F.2.2.1
  have hown := F.2.2.2.1
  have hts := F.2.2.2.2
  replace hl : lv_has ls 7 [(0, .ref (h)), (1, .int (nI (k)))] := hl
  have hn4 := hW.n.2
  obtain ⟨m_, hm_⟩ : ∃ z, z = rts w (k / 16) := ⟨_, rfl⟩
  have hm16 : m_ < 16 := by rw [hm_]; exact rts_lt hW _
  have hp4 := pc4_le m_ hm16
  refine lv_aload_n hx hb dX3_linkOf_0 rfl (lv_at hl 0 rfl) ?_
  refine lv_iload_n hx hb dX3_linkOf_1 rfl (lv_at hl 1 rfl) ?_
  refine lv_bipush (v := (nI (16))) hx hb dX3_linkOf_2 (by decide) ?_
  refine n_idiv hx hb dX3_linkOf_4 (by omega) (by omega) (by omega) ?_
  refine goR (kV (As := [.int (nI (k / 16))]) (rest := []) F (c_X3_routesOf l D cI cO h b w past er bf tk sv hs c0 hW (k / 16) (by omega)) ywX3_routesOf qw517 qw519 qs39 ⟨rfl, rfl⟩ ⟨Nat.le_of_ble_eq_true rfl, Nat.le_of_ble_eq_true rfl⟩ (preV (preR hP hC) hC hP (ci := 3) (q0 := 0) rfl rfl rfl) rfl hl.1 rfl (Nat.le_of_ble_eq_true rfl) dX3_linkOf_5 ⟨Nat.zero_le _, Nat.zero_le _⟩) (fun r_5 h_5 => ?_)
  subst h_5
  refine w_cv (y := (nI (m_))) (congrArg nI hm_.symm) ?_
  refine lv_istore_n (lv' := [(2, .int (nI (m_))), (0, .ref (h)), (1, .int (nI (k)))]) hx hb dX3_linkOf_8 rfl hl (by decide) rfl (fun ls hl => ?_)
  refine lv_iload_n hx hb dX3_linkOf_9 rfl (lv_at hl 0 rfl) ?_
  refine goR (kS (As := [.int (nI (m_))]) (rest := []) F (c_X3_bits l D cI cO (m_) (by omega)) ywX3_bits qw529 qw530  ⟨rfl, rfl⟩ ⟨Nat.le_of_ble_eq_true rfl, Nat.le_of_ble_eq_true rfl⟩ (preR (fun k q h => by simp at h) hC) rfl hl.1 rfl (Nat.le_of_ble_eq_true rfl) dX3_linkOf_10 ⟨Nat.zero_le _, Nat.zero_le _⟩) (fun r_10 h_10 => ?_)
  subst h_10
  refine lv_istore_n (lv' := [(3, .int (nI (pc4 m_))), (2, .int (nI (m_))), (0, .ref (h)), (1, .int (nI (k)))]) hx hb dX3_linkOf_13 rfl hl (by decide) rfl (fun ls hl => ?_)
  refine lv_iload_n hx hb dX3_linkOf_14 rfl (lv_at hl 0 rfl) ?_
  refine n_if_ne (tgt := 20) hx hb dX3_linkOf_15 (by decide) (by omega) (fun c_15 => ?_) (fun c_15 => ?_)
  · have hx1 : (k % 16 % pc4 m_) < pc4 m_ := Nat.mod_lt _ (by omega)
    refine lv_iload_n hx hb dX3_linkOf_20 rfl (lv_at hl 3 rfl) ?_
    refine lv_bipush (v := (nI (16))) hx hb dX3_linkOf_21 (by decide) ?_
    refine n_irem hx hb dX3_linkOf_23 (by omega) (by omega) (by omega) ?_
    refine lv_iload_n hx hb dX3_linkOf_24 rfl (lv_at hl 0 rfl) ?_
    refine n_irem hx hb dX3_linkOf_25 (by omega) (by omega) (by omega) ?_
    refine lv_istore (lv' := [(4, .int (nI ((k % 16) % (pc4 m_)))), (3, .int (nI (pc4 m_))), (2, .int (nI (m_))), (0, .ref (h)), (1, .int (nI (k)))]) hx hb dX3_linkOf_26 hl (by decide) rfl (fun ls hl => ?_)
    refine lv_iconst (v := (nI (0))) hx hb dX3_linkOf_28 (by decide) ?_
    refine lv_istore (lv' := [(5, .int (nI (0))), (4, .int (nI ((k % 16) % (pc4 m_)))), (3, .int (nI (pc4 m_))), (2, .int (nI (m_))), (0, .ref (h)), (1, .int (nI (k)))]) hx hb dX3_linkOf_29 hl (by decide) rfl (fun ls hl => ?_)
    have lp_31 : ∀ (fu_31 : Nat) (q_ : Nat) (lf : Nat) (ls : Array Slot), 4 - q_ < fu_31 → (q_ ≤ 3) → (cb m_ q_ ≤ (k % 16 % pc4 m_)) → (lf = (k % 16 % pc4 m_) - cb m_ q_) → lv_has ls 7 [(5, .int (nI (q_))), (4, .int (nI (lf))), (3, .int (nI (pc4 m_))), (2, .int (nI (m_))), (0, .ref (h)), (1, .int (nI (k)))] → W p l e ({ frames := 3, cells := 0, slots := 0, locals := 71 } : Room) s m args below meth c s.heap [] 0 0 Q (F0 m 31 ls []) := by
      intro fu_31
      induction fu_31 with
      | zero => intro q_ lf ls hmu_31; exact absurd hmu_31 (Nat.not_lt_zero _)
      | succ fu_31 ih_31 =>
        intro q_ lf ls hmu_31 hq hc1 hlf hl
        have ht01 := tb_01 m_ q_
        refine lv_iload_n hx hb dX3_linkOf_31 rfl (lv_at hl 3 rfl) ?_
        refine lv_iload hx hb dX3_linkOf_32 (lv_at hl 0 rfl) ?_
        refine lv_ishr hx hb dX3_linkOf_34 ?_
        refine lv_iconst (v := (nI (1))) hx hb dX3_linkOf_35 (by decide) ?_
        refine lv_iand hx hb dX3_linkOf_36 ?_
        refine w_cv (y := (nI (tb m_ q_))) (shr1 _ hm16 q_ (by omega)) ?_
        refine n_if_eq (tgt := 45) hx hb dX3_linkOf_37 (by decide) (by omega) (fun c_37 => ?_) (fun c_37 => ?_)
        · refine lv_iload hx hb dX3_linkOf_45 (lv_at hl 1 rfl) ?_
          refine lv_iload_n hx hb dX3_linkOf_47 rfl (lv_at hl 3 rfl) ?_
          refine lv_iload hx hb dX3_linkOf_48 (lv_at hl 0 rfl) ?_
          refine lv_ishr hx hb dX3_linkOf_50 ?_
          refine lv_iconst (v := (nI (1))) hx hb dX3_linkOf_51 (by decide) ?_
          refine lv_iand hx hb dX3_linkOf_52 ?_
          refine w_cv (y := (nI (tb m_ q_))) (shr1 _ hm16 q_ (by omega)) ?_
          refine n_isub hx hb dX3_linkOf_53 (by omega) ?_
          refine lv_istore (lv' := [(4, .int (nI (lf - (tb m_ q_)))), (5, .int (nI (q_))), (3, .int (nI (pc4 m_))), (2, .int (nI (m_))), (0, .ref (h)), (1, .int (nI (k)))]) hx hb dX3_linkOf_54 hl (by decide) rfl (fun ls hl => ?_)
          refine n_iinc (a := q_) (b := 1) (lv' := [(5, .int (nI (q_ + 1))), (4, .int (nI (lf - (tb m_ q_)))), (3, .int (nI (pc4 m_))), (2, .int (nI (m_))), (0, .ref (h)), (1, .int (nI (k)))]) hx hb dX3_linkOf_56 hl (k := 1) rfl rfl (by decide) rfl (fun ls hl => ?_)
          refine lv_goto (tgt := 31) hx hb dX3_linkOf_59 (by decide) ?_
          have hcb : cb m_ (q_ + 1) ≤ (k % 16 % pc4 m_) := by simp only [cb]; omega
          have hcm := cb_mono m_ hm16 (k % 16 % pc4 m_) (by omega) (q_ + 1) (by omega) hx1 hcb
          have hsl := sb4_lt m_ (k % 16 % pc4 m_)
          exact ih_31 (q_ + 1) (lf - (tb m_ q_)) ls (by omega) (by omega) (hcb) (by simp only [cb]; omega) (lv_sub hl [0, 1, 2, 3, 4, 5] rfl)
        · refine lv_iload hx hb dX3_linkOf_40 (lv_at hl 1 rfl) ?_
          refine n_if_le (tgt := 62) hx hb dX3_linkOf_42 (by decide) (by omega) (fun c_42 => ?_) (fun c_42 => ?_)
          · have hsb : sb4 m_ (k % 16 % pc4 m_) = q_ := sb4_at m_ hm16 _ (by omega) q_ (by omega) (by omega) (by omega)
            have hrt := rts_tb hW (d := k / 16) (i := q_) (by omega) (by rw [← hm_]; omega)
            have ham := am_lt hW (i := q_) (by omega)
            have hpa := pc4_le _ ham
            have hrt2 := hrt.2
            have hy1 : (k % 16 / pc4 m_ % pc4 (am w q_)) < pc4 (am w q_) := Nat.mod_lt _ (by omega)
            have hdv : k % 16 / pc4 m_ ≤ 16 := Nat.le_trans (Nat.div_le_self _ _) (by omega)
            refine lv_iload_n hx hb dX3_linkOf_62 rfl (lv_at hl 5 rfl) ?_
            refine lv_bipush (v := (nI (16))) hx hb dX3_linkOf_63 (by decide) ?_
            refine n_irem hx hb dX3_linkOf_65 (by omega) (by omega) (by omega) ?_
            refine lv_iload_n hx hb dX3_linkOf_66 rfl (lv_at hl 2 rfl) ?_
            refine n_idiv hx hb dX3_linkOf_67 (by omega) (by omega) (by omega) ?_
            refine lv_aload_n hx hb dX3_linkOf_68 rfl (lv_at hl 4 rfl) ?_
            refine lv_iload hx hb dX3_linkOf_69 (lv_at hl 0 rfl) ?_
            refine goR (kV (As := [.int (nI (q_))]) (rest := [.int (nI ((k % 16) / (pc4 m_)))]) F (c_X3_activeOf l D cI cO h b w past er bf tk sv hs c0 hW (q_) (by omega)) ywX3_activeOf qw525 qw527 qs41 ⟨rfl, rfl⟩ ⟨Nat.le_of_ble_eq_true rfl, Nat.le_of_ble_eq_true rfl⟩ (preV (preR hP hC) hC hP (ci := 3) (q0 := 0) rfl rfl rfl) rfl hl.1 rfl (Nat.le_of_ble_eq_true rfl) dX3_linkOf_71 ⟨Nat.zero_le _, Nat.zero_le _⟩) (fun r_71 h_71 => ?_)
            subst h_71
            refine n_irem hx hb dX3_linkOf_74 (by omega) (by omega) (by omega) ?_
            refine lv_istore (lv' := [(4, .int (nI (((k % 16) / (pc4 m_)) % (pc4 (am w q_))))), (5, .int (nI (q_))), (3, .int (nI (pc4 m_))), (2, .int (nI (m_))), (0, .ref (h)), (1, .int (nI (k)))]) hx hb dX3_linkOf_75 hl (by decide) rfl (fun ls hl => ?_)
            refine lv_iconst (v := (nI (4))) hx hb dX3_linkOf_77 (by decide) ?_
            refine lv_iload hx hb dX3_linkOf_78 (lv_at hl 1 rfl) ?_
            refine n_imul hx hb dX3_linkOf_80  ?_
            refine lv_istore (lv' := [(6, .int (nI (4 * q_))), (4, .int (nI (((k % 16) / (pc4 m_)) % (pc4 (am w q_))))), (5, .int (nI (q_))), (3, .int (nI (pc4 m_))), (2, .int (nI (m_))), (0, .ref (h)), (1, .int (nI (k)))]) hx hb dX3_linkOf_81 hl (by decide) rfl (fun ls hl => ?_)
            have lp_83 : ∀ (fu_83 : Nat) (t_ : Nat) (lg : Nat) (ls : Array Slot), 4 - t_ < fu_83 → (t_ ≤ 3) → (cb (am w q_) t_ ≤ (k % 16 / pc4 m_ % pc4 (am w q_))) → (lg = (k % 16 / pc4 m_ % pc4 (am w q_)) - cb (am w q_) t_) → lv_has ls 7 [(6, .int (nI (4 * q_ + t_))), (4, .int (nI (lg))), (5, .int (nI (q_))), (3, .int (nI (pc4 m_))), (2, .int (nI (m_))), (0, .ref (h)), (1, .int (nI (k)))] → W p l e ({ frames := 3, cells := 0, slots := 0, locals := 71 } : Room) s m args below meth c s.heap [] 0 0 Q (F0 m 83 ls []) := by
              intro fu_83
              induction fu_83 with
              | zero => intro t_ lg ls hmu_83; exact absurd hmu_83 (Nat.not_lt_zero _)
              | succ fu_83 ih_83 =>
                intro t_ lg ls hmu_83 ht hc2 hlg hl
                have hu01 := tb_01 (am w q_) t_
                refine lv_aload_n hx hb dX3_linkOf_83 rfl (lv_at hl 5 rfl) ?_
                refine gt3 hx hb hts hown hC.1 hP 0 rfl 0 (by decide) qw456 rfl dX3_linkOf_84 ?_
                refine lv_iconst (v := (nI (5))) hx hb dX3_linkOf_87 (by decide) ?_
                refine lv_iload hx hb dX3_linkOf_88 (lv_at hl 0 rfl) ?_
                refine n_iadd hx hb dX3_linkOf_90  ?_
                refine n_iald hx hb hC.1 hP 1 0 rfl rfl (by omega) (by decide) dX3_linkOf_91 ?_
                refine w_cv (y := (nI (tb (am w q_) t_))) ((hW.a (4 * q_ + t_) (by omega)).1.trans (congrArg nI (am_tb hW (by omega) (by omega)).symm)) ?_
                refine n_if_eq (tgt := 100) hx hb dX3_linkOf_92 (by decide) (by omega) (fun c_92 => ?_) (fun c_92 => ?_)
                · refine lv_iload hx hb dX3_linkOf_100 (lv_at hl 1 rfl) ?_
                  refine lv_aload_n hx hb dX3_linkOf_102 rfl (lv_at hl 5 rfl) ?_
                  refine gt3 hx hb hts hown hC.1 hP 0 rfl 0 (by decide) qw456 rfl dX3_linkOf_103 ?_
                  refine lv_iconst (v := (nI (5))) hx hb dX3_linkOf_106 (by decide) ?_
                  refine lv_iload hx hb dX3_linkOf_107 (lv_at hl 0 rfl) ?_
                  refine n_iadd hx hb dX3_linkOf_109  ?_
                  refine n_iald hx hb hC.1 hP 1 0 rfl rfl (by omega) (by decide) dX3_linkOf_110 ?_
                  refine w_cv (y := (nI (tb (am w q_) t_))) ((hW.a (4 * q_ + t_) (by omega)).1.trans (congrArg nI (am_tb hW (by omega) (by omega)).symm)) ?_
                  refine n_isub hx hb dX3_linkOf_111 (by omega) ?_
                  refine lv_istore (lv' := [(4, .int (nI (lg - (tb (am w q_) t_)))), (6, .int (nI (4 * q_ + t_))), (5, .int (nI (q_))), (3, .int (nI (pc4 m_))), (2, .int (nI (m_))), (0, .ref (h)), (1, .int (nI (k)))]) hx hb dX3_linkOf_112 hl (by decide) rfl (fun ls hl => ?_)
                  refine n_iinc (a := 4 * q_ + t_) (b := 1) (lv' := [(6, .int (nI (4 * q_ + t_ + 1))), (4, .int (nI (lg - (tb (am w q_) t_)))), (5, .int (nI (q_))), (3, .int (nI (pc4 m_))), (2, .int (nI (m_))), (0, .ref (h)), (1, .int (nI (k)))]) hx hb dX3_linkOf_114 hl (k := 1) rfl rfl (by decide) rfl (fun ls hl => ?_)
                  refine lv_goto (tgt := 83) hx hb dX3_linkOf_117 (by decide) ?_
                  have hcb2 : cb (am w q_) (t_ + 1) ≤ (k % 16 / pc4 m_ % pc4 (am w q_)) := by simp only [cb]; omega
                  have hcm2 := cb_mono _ ham (k % 16 / pc4 m_ % pc4 (am w q_)) (by omega) (t_ + 1) (by omega) hy1 hcb2
                  have hsl2 := sb4_lt (am w q_) (k % 16 / pc4 m_ % pc4 (am w q_))
                  exact ih_83 (t_ + 1) (lg - (tb (am w q_) t_)) ls (by omega) (by omega) (hcb2) (by simp only [cb]; omega) (lv_sub hl [0, 1, 2, 3, 4, 5, 6] rfl)
                · refine lv_iload hx hb dX3_linkOf_95 (lv_at hl 1 rfl) ?_
                  refine n_if_le (tgt := 120) hx hb dX3_linkOf_97 (by decide) (by omega) (fun c_97 => ?_) (fun c_97 => ?_)
                  · refine lv_iload hx hb dX3_linkOf_120 (lv_at hl 0 rfl) ?_
                    exact hret _ _ ls (by unfold lk lkm; rw [← hm_, if_neg (by omega)]; unfold lko lks; rw [hsb, sb4_at _ ham _ (by omega) t_ (by omega) (by omega) (by omega), Nat.mul_comm]) dX3_linkOf_122
                  · refine lv_iload hx hb dX3_linkOf_100 (lv_at hl 1 rfl) ?_
                    refine lv_aload_n hx hb dX3_linkOf_102 rfl (lv_at hl 5 rfl) ?_
                    refine gt3 hx hb hts hown hC.1 hP 0 rfl 0 (by decide) qw456 rfl dX3_linkOf_103 ?_
                    refine lv_iconst (v := (nI (5))) hx hb dX3_linkOf_106 (by decide) ?_
                    refine lv_iload hx hb dX3_linkOf_107 (lv_at hl 0 rfl) ?_
                    refine n_iadd hx hb dX3_linkOf_109  ?_
                    refine n_iald hx hb hC.1 hP 1 0 rfl rfl (by omega) (by decide) dX3_linkOf_110 ?_
                    refine w_cv (y := (nI (tb (am w q_) t_))) ((hW.a (4 * q_ + t_) (by omega)).1.trans (congrArg nI (am_tb hW (by omega) (by omega)).symm)) ?_
                    refine n_isub hx hb dX3_linkOf_111 (by omega) ?_
                    refine lv_istore (lv' := [(4, .int (nI (lg - (tb (am w q_) t_)))), (6, .int (nI (4 * q_ + t_))), (5, .int (nI (q_))), (3, .int (nI (pc4 m_))), (2, .int (nI (m_))), (0, .ref (h)), (1, .int (nI (k)))]) hx hb dX3_linkOf_112 hl (by decide) rfl (fun ls hl => ?_)
                    refine n_iinc (a := 4 * q_ + t_) (b := 1) (lv' := [(6, .int (nI (4 * q_ + t_ + 1))), (4, .int (nI (lg - (tb (am w q_) t_)))), (5, .int (nI (q_))), (3, .int (nI (pc4 m_))), (2, .int (nI (m_))), (0, .ref (h)), (1, .int (nI (k)))]) hx hb dX3_linkOf_114 hl (k := 1) rfl rfl (by decide) rfl (fun ls hl => ?_)
                    refine lv_goto (tgt := 83) hx hb dX3_linkOf_117 (by decide) ?_
                    have hcb2 : cb (am w q_) (t_ + 1) ≤ (k % 16 / pc4 m_ % pc4 (am w q_)) := by simp only [cb]; omega
                    have hcm2 := cb_mono _ ham (k % 16 / pc4 m_ % pc4 (am w q_)) (by omega) (t_ + 1) (by omega) hy1 hcb2
                    have hsl2 := sb4_lt (am w q_) (k % 16 / pc4 m_ % pc4 (am w q_))
                    exact ih_83 (t_ + 1) (lg - (tb (am w q_) t_)) ls (by omega) (by omega) (hcb2) (by simp only [cb]; omega) (lv_sub hl [0, 1, 2, 3, 4, 5, 6] rfl)
            exact lp_83 _ (0) (((k % 16) / (pc4 m_)) % (pc4 (am w q_))) ls (Nat.lt_succ_self _) (by omega) (by simp [cb]) (by simp [cb]) (lv_sub hl [0, 1, 2, 3, 4, 5, 6] rfl)
          · refine lv_iload hx hb dX3_linkOf_45 (lv_at hl 1 rfl) ?_
            refine lv_iload_n hx hb dX3_linkOf_47 rfl (lv_at hl 3 rfl) ?_
            refine lv_iload hx hb dX3_linkOf_48 (lv_at hl 0 rfl) ?_
            refine lv_ishr hx hb dX3_linkOf_50 ?_
            refine lv_iconst (v := (nI (1))) hx hb dX3_linkOf_51 (by decide) ?_
            refine lv_iand hx hb dX3_linkOf_52 ?_
            refine w_cv (y := (nI (tb m_ q_))) (shr1 _ hm16 q_ (by omega)) ?_
            refine n_isub hx hb dX3_linkOf_53 (by omega) ?_
            refine lv_istore (lv' := [(4, .int (nI (lf - (tb m_ q_)))), (5, .int (nI (q_))), (3, .int (nI (pc4 m_))), (2, .int (nI (m_))), (0, .ref (h)), (1, .int (nI (k)))]) hx hb dX3_linkOf_54 hl (by decide) rfl (fun ls hl => ?_)
            refine n_iinc (a := q_) (b := 1) (lv' := [(5, .int (nI (q_ + 1))), (4, .int (nI (lf - (tb m_ q_)))), (3, .int (nI (pc4 m_))), (2, .int (nI (m_))), (0, .ref (h)), (1, .int (nI (k)))]) hx hb dX3_linkOf_56 hl (k := 1) rfl rfl (by decide) rfl (fun ls hl => ?_)
            refine lv_goto (tgt := 31) hx hb dX3_linkOf_59 (by decide) ?_
            have hcb : cb m_ (q_ + 1) ≤ (k % 16 % pc4 m_) := by simp only [cb]; omega
            have hcm := cb_mono m_ hm16 (k % 16 % pc4 m_) (by omega) (q_ + 1) (by omega) hx1 hcb
            have hsl := sb4_lt m_ (k % 16 % pc4 m_)
            exact ih_31 (q_ + 1) (lf - (tb m_ q_)) ls (by omega) (by omega) (hcb) (by simp only [cb]; omega) (lv_sub hl [0, 1, 2, 3, 4, 5] rfl)
    exact lp_31 _ (0) ((k % 16) % (pc4 m_)) ls (Nat.lt_succ_self _) (by omega) (by simp [cb]) (by simp [cb]) (lv_sub hl [0, 1, 2, 3, 4, 5] rfl)
  · refine lv_iconst (v := (-1)) hx hb dX3_linkOf_18 (by decide) ?_
    exact hret _ _ ls (by unfold lk lkm; rw [← hm_, if_pos (by omega)]) dX3_linkOf_19

set_option maxHeartbeats 4000000 in
set_option maxRecDepth 100000 in
theorem c_X3_levelOf (l : Launch) (D : va_G) (cI cO : ClassId) (h : Nat) (b : Nat → Nat) (w past er bf tk : Nat → Int32) (sv : Int32) (hs : Int64) (c0 : Nat) (hW : WF c0 w) (k : Nat) (hk : k < 16) : Met l yX3_levelOf (Cond.code yX3_levelOf cX3_levelOf 3 (some .int) :: WL) ({ frames := 0, cells := 0, slots := 0, locals := 0 } : Room) (va_Pc [.ref (h), .int (nI (k))] (PR D cI cO (mdW cI h b w past er bf tk sv hs))) (vp_Si (fun r => r = nI (lvl (le w k)))) 0 0 (fun _ => False) := by
  refine rd_int (by decide) (Nat.le_of_ble_eq_true rfl) ?_
  intro p e s m args below meth c Q ls F hP hC hret hl
  have hx := F.1
  have hb := F.2.1
  have hml := F.2.2.1
  have hown := F.2.2.2.1
  have hts := F.2.2.2.2
  replace hl : lv_has ls 3 [(0, .ref (h)), (1, .int (nI (k)))] := hl
  have hn4 := hW.n.2
  have hl10 := (hW.l k hk).2
  refine lv_aload_n hx hb dX3_levelOf_0 rfl (lv_at hl 0 rfl) ?_
  refine gt3 hx hb hts hown hC.1 hP 0 rfl 0 (by decide) qw456 rfl dX3_levelOf_1 ?_
  refine lv_bipush (v := (nI (21))) hx hb dX3_levelOf_4 (by decide) ?_
  refine lv_iload_n hx hb dX3_levelOf_6 rfl (lv_at hl 1 rfl) ?_
  refine n_iadd hx hb dX3_levelOf_7  ?_
  refine n_iald hx hb hC.1 hP 1 0 rfl rfl (by omega) (by decide) dX3_levelOf_8 ?_
  refine w_cv (y := (nI (le w k))) (hW.l k hk).1 ?_
  refine lv_istore_n (lv' := [(2, .int (nI (le w k))), (0, .ref (h)), (1, .int (nI (k)))]) hx hb dX3_levelOf_9 rfl hl (by decide) rfl (fun ls hl => ?_)
  refine lv_iload_n hx hb dX3_levelOf_10 rfl (lv_at hl 0 rfl) ?_
  refine lv_iconst (v := (nI (4))) hx hb dX3_levelOf_11 (by decide) ?_
  refine n_icmp_ge (tgt := 19) hx hb dX3_levelOf_12 (by decide) (by omega) (by omega) (fun c_12 => ?_) (fun c_12 => ?_)
  · refine lv_iload_n hx hb dX3_levelOf_19 rfl (lv_at hl 0 rfl) ?_
    refine lv_bipush (v := (nI (6))) hx hb dX3_levelOf_20 (by decide) ?_
    refine n_icmp_ge (tgt := 29) hx hb dX3_levelOf_22 (by decide) (by omega) (by omega) (fun c_22 => ?_) (fun c_22 => ?_)
    · refine lv_iload_n hx hb dX3_levelOf_29 rfl (lv_at hl 0 rfl) ?_
      refine lv_bipush (v := (nI (8))) hx hb dX3_levelOf_30 (by decide) ?_
      refine n_icmp_ge (tgt := 39) hx hb dX3_levelOf_32 (by decide) (by omega) (by omega) (fun c_32 => ?_) (fun c_32 => ?_)
      · refine lv_iconst (v := (nI (3))) hx hb dX3_levelOf_39 (by decide) ?_
        exact hret _ _ ls (by unfold lvl; first | (rw [if_pos (by omega)]; done) | (rw [if_neg (by omega), if_pos (by omega)]; done) | (rw [if_neg (by omega), if_neg (by omega), if_pos (by omega)]; done) | (rw [if_neg (by omega), if_neg (by omega), if_neg (by omega)]; done)) dX3_levelOf_40
      · refine lv_iconst (v := (nI (2))) hx hb dX3_levelOf_35 (by decide) ?_
        refine lv_goto (tgt := 40) hx hb dX3_levelOf_36 (by decide) ?_
        exact hret _ _ ls (by unfold lvl; first | (rw [if_pos (by omega)]; done) | (rw [if_neg (by omega), if_pos (by omega)]; done) | (rw [if_neg (by omega), if_neg (by omega), if_pos (by omega)]; done) | (rw [if_neg (by omega), if_neg (by omega), if_neg (by omega)]; done)) dX3_levelOf_40
    · refine lv_iconst (v := (nI (1))) hx hb dX3_levelOf_25 (by decide) ?_
      refine lv_goto (tgt := 40) hx hb dX3_levelOf_26 (by decide) ?_
      exact hret _ _ ls (by unfold lvl; first | (rw [if_pos (by omega)]; done) | (rw [if_neg (by omega), if_pos (by omega)]; done) | (rw [if_neg (by omega), if_neg (by omega), if_pos (by omega)]; done) | (rw [if_neg (by omega), if_neg (by omega), if_neg (by omega)]; done)) dX3_levelOf_40
  · refine lv_iconst (v := (nI (0))) hx hb dX3_levelOf_15 (by decide) ?_
    refine lv_goto (tgt := 40) hx hb dX3_levelOf_16 (by decide) ?_
    exact hret _ _ ls (by unfold lvl; first | (rw [if_pos (by omega)]; done) | (rw [if_neg (by omega), if_pos (by omega)]; done) | (rw [if_neg (by omega), if_neg (by omega), if_pos (by omega)]; done) | (rw [if_neg (by omega), if_neg (by omega), if_neg (by omega)]; done)) dX3_levelOf_40

set_option maxHeartbeats 4000000 in
set_option maxRecDepth 100000 in
theorem c_X3_isCongested (l : Launch) (D : va_G) (cI cO : ClassId) (h : Nat) (b : Nat → Nat) (w past er bf tk : Nat → Int32) (sv : Int32) (hs : Int64) (c0 : Nat) (hW : WF c0 w) (k q_ : Nat) (hk : k < 96) (hq4 : q_ < 4) : Met l yX3_isCongested (Cond.code yX3_isCongested cX3_isCongested 4 (some .boolean) :: WL) ({ frames := 4, cells := 0, slots := 0, locals := 97 } : Room) (va_Pc [.ref (h), .int (nI (k)), .int (nI (q_))] (PR D cI cO (mdW cI h b w past er bf tk sv hs))) (vp_Si (fun r => (r = nI 1 ∧ (¬ lk w k = -1 ∧ q_ < lvl (le w (nv (lk w k))))) ∨ (r = nI 0 ∧ ¬ (¬ lk w k = -1 ∧ q_ < lvl (le w (nv (lk w k))))))) 0 0 (fun _ => False) := by
  refine rd_bool (by decide) (Nat.le_of_ble_eq_true rfl) ?_
  intro p e s m args below meth c Q ls F hP hC hret hl
  have hx := F.1
  have hb := F.2.1
  have hml := F.2.2.1
  have hown := F.2.2.2.1
  have hts := F.2.2.2.2
  replace hl : lv_has ls 4 [(0, .ref (h)), (1, .int (nI (k))), (2, .int (nI (q_)))] := hl
  have hn4 := hW.n.2
  refine lv_aload_n hx hb dX3_isCongested_0 rfl (lv_at hl 0 rfl) ?_
  refine lv_iload_n hx hb dX3_isCongested_1 rfl (lv_at hl 1 rfl) ?_
  refine goR (kV (As := [.int (nI (k))]) (rest := []) F (c_X3_linkOf l D cI cO h b w past er bf tk sv hs c0 hW (k) (by omega)) ywX3_linkOf qw513 qw515 qs38 ⟨rfl, rfl⟩ ⟨Nat.le_of_ble_eq_true rfl, Nat.le_of_ble_eq_true rfl⟩ (preV (preR hP hC) hC hP (ci := 3) (q0 := 0) rfl rfl rfl) rfl hl.1 rfl (Nat.le_of_ble_eq_true rfl) dX3_isCongested_2 ⟨Nat.zero_le _, Nat.zero_le _⟩) (fun r_2 h_2 => ?_)
  subst h_2
  refine lv_istore_n (lv' := [(3, .int (lk w k)), (0, .ref (h)), (1, .int (nI (k))), (2, .int (nI (q_)))]) hx hb dX3_isCongested_5 rfl hl (by decide) rfl (fun ls hl => ?_)
  refine lv_iload_n hx hb dX3_isCongested_6 rfl (lv_at hl 0 rfl) ?_
  refine lv_iconst (v := (-1)) hx hb dX3_isCongested_7 (by decide) ?_
  refine lv_icmp_eq (tgt := 24) hx hb dX3_isCongested_8 (by decide)  (fun c_8 => ?_) (fun c_8 => ?_)
  · refine lv_iconst (v := (nI (0))) hx hb dX3_isCongested_24 (by decide) ?_
    exact hret _ _ ls (Or.inr ⟨rfl, fun q => q.1 c_8⟩) (Or.inl (by decide)) dX3_isCongested_25
  · obtain ⟨v_, hp16, hpn, hpa, hlk⟩ := lk_some hW hk c_8
    rw [hlk] at hl
    have hl3 : lvl (le w v_) ≤ 3 := by unfold lvl; (repeat' split) <;> omega
    have hlq : nv (lk w k) = v_ := by rw [hlk, nv_nI (by omega)]
    refine lv_aload_n hx hb dX3_isCongested_11 rfl (lv_at hl 1 rfl) ?_
    refine lv_iload_n hx hb dX3_isCongested_12 rfl (lv_at hl 0 rfl) ?_
    refine goR (kV (As := [.int (nI (v_))]) (rest := []) F (c_X3_levelOf l D cI cO h b w past er bf tk sv hs c0 hW (v_) (by omega)) ywX3_levelOf qw564 qw566 qs45 ⟨rfl, rfl⟩ ⟨Nat.le_of_ble_eq_true rfl, Nat.le_of_ble_eq_true rfl⟩ (preV (preR hP hC) hC hP (ci := 3) (q0 := 0) rfl rfl rfl) rfl hl.1 rfl (Nat.le_of_ble_eq_true rfl) dX3_isCongested_13 ⟨Nat.zero_le _, Nat.zero_le _⟩) (fun r_13 h_13 => ?_)
    subst h_13
    refine lv_iload_n hx hb dX3_isCongested_16 rfl (lv_at hl 3 rfl) ?_
    refine n_icmp_le (tgt := 24) hx hb dX3_isCongested_17 (by decide) (by omega) (by omega) (fun c_17 => ?_) (fun c_17 => ?_)
    · refine lv_iconst (v := (nI (0))) hx hb dX3_isCongested_24 (by decide) ?_
      exact hret _ _ ls (Or.inr ⟨rfl, fun q => by have q2 := q.2; rw [hlq] at q2; omega⟩) (Or.inl (by decide)) dX3_isCongested_25
    · refine lv_iconst (v := (nI (1))) hx hb dX3_isCongested_20 (by decide) ?_
      refine lv_goto (tgt := 25) hx hb dX3_isCongested_21 (by decide) ?_
      exact hret _ _ ls (Or.inl ⟨rfl, c_8, by rw [hlq]; omega⟩) (Or.inr (by decide)) dX3_isCongested_25
