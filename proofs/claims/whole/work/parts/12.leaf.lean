def okI (x : Int32) (n : Nat) : Prop := ∃ j : Nat, j < n ∧ x = nI j
theorem okI_of {x : Int32} {n : Nat} (hn : n < 2 ^ 31) (h0 : ¬ x < 0) (h : ¬ nI n ≤ x) : okI x n := by
  rcases pk_ix x hn with h1 | h1 | h1
  · exact absurd h1 h0
  · exact absurd h1 h
  · exact h1
theorem okI_ge {x : Int32} {n : Nat} (h : okI x n) (h0 : x < 0) (hn : n < 2 ^ 31 := by decide) : False := by
  obtain ⟨j, hj, rfl⟩ := h
  exact nI_pos (Nat.lt_trans hj hn) h0
theorem okI_lt {x : Int32} {n : Nat} (hn : n < 2 ^ 31) (h : okI x n) (h1 : nI n ≤ x) : False := by
  obtain ⟨j, hj, rfl⟩ := h
  exact nI_ge hj hn h1
set_option maxHeartbeats 4000000 in
set_option maxRecDepth 100000 in
theorem c_X3_within (l : Launch) (D : va_G) (cI cO : ClassId) (v a b : Int32)  : Met l yX3_within (Cond.code yX3_within cX3_within 3 (some .boolean) :: WL) ({ frames := 0, cells := 0, slots := 0, locals := 0 } : Room) (va_Pc [.int (v), .int (a), .int (b)] (PR D cI cO ([]))) (vp_Si (fun r => (r = nI 1 ∧ (a ≤ v ∧ v ≤ b)) ∨ (r = nI 0 ∧ ¬ (a ≤ v ∧ v ≤ b)))) 0 0 (fun _ => False) := by
  refine rd_bool (by decide) (Nat.le_of_ble_eq_true rfl) ?_
  intro p e s m args below meth c Q ls F hP hC hret hl
  have hx := F.1
  have hb := F.2.1
  have hml := F.2.2.1
  have hown := F.2.2.2.1
  have hts := F.2.2.2.2
  replace hl : lv_has ls 3 [(0, .int (v)), (1, .int (a)), (2, .int (b))] := hl
  refine lv_iload_n hx hb dX3_within_0 rfl (lv_at hl 0 rfl) ?_
  refine lv_iload_n hx hb dX3_within_1 rfl (lv_at hl 1 rfl) ?_
  refine lv_icmp_lt (tgt := 14) hx hb dX3_within_2 (by decide)  (fun c_2 => ?_) (fun c_2 => ?_)
  · refine lv_iconst (v := (nI (0))) hx hb dX3_within_14 (by decide) ?_
    exact hret _ _ ls (by first | exact Or.inl ⟨rfl, Int32.not_lt.mp c_2, Int32.not_lt.mp c_7⟩ | exact Or.inr ⟨rfl, fun h => Int32.not_lt.mpr h.1 c_2⟩ | exact Or.inr ⟨rfl, fun h => Int32.not_lt.mpr h.2 c_7⟩) (Or.inl (by decide)) dX3_within_15
  · refine lv_iload_n hx hb dX3_within_5 rfl (lv_at hl 0 rfl) ?_
    refine lv_iload_n hx hb dX3_within_6 rfl (lv_at hl 2 rfl) ?_
    refine lv_icmp_gt (tgt := 14) hx hb dX3_within_7 (by decide)  (fun c_7 => ?_) (fun c_7 => ?_)
    · refine lv_iconst (v := (nI (0))) hx hb dX3_within_14 (by decide) ?_
      exact hret _ _ ls (by first | exact Or.inl ⟨rfl, Int32.not_lt.mp c_2, Int32.not_lt.mp c_7⟩ | exact Or.inr ⟨rfl, fun h => Int32.not_lt.mpr h.1 c_2⟩ | exact Or.inr ⟨rfl, fun h => Int32.not_lt.mpr h.2 c_7⟩) (Or.inl (by decide)) dX3_within_15
    · refine lv_iconst (v := (nI (1))) hx hb dX3_within_10 (by decide) ?_
      refine lv_goto (tgt := 15) hx hb dX3_within_11 (by decide) ?_
      exact hret _ _ ls (by first | exact Or.inl ⟨rfl, Int32.not_lt.mp c_2, Int32.not_lt.mp c_7⟩ | exact Or.inr ⟨rfl, fun h => Int32.not_lt.mpr h.1 c_2⟩ | exact Or.inr ⟨rfl, fun h => Int32.not_lt.mpr h.2 c_7⟩) (Or.inr (by decide)) dX3_within_15

set_option maxHeartbeats 4000000 in
set_option maxRecDepth 100000 in
theorem c_X2_isDestination (l : Launch) (D : va_G) (cI cO : ClassId) (v : Int32)  : Met l yX2_isDestination (Cond.code yX2_isDestination cX2_isDestination 1 (some .boolean) :: WL) ({ frames := 0, cells := 0, slots := 0, locals := 0 } : Room) (va_Pc [.int (v)] (PR D cI cO ([]))) (vp_Si (fun r => (r = nI 1 ∧ okI v 6) ∨ (r = nI 0 ∧ ¬ okI v 6))) 0 0 (fun _ => False) := by
  refine rd_bool (by decide) (Nat.le_of_ble_eq_true rfl) ?_
  intro p e s m args below meth c Q ls F hP hC hret hl
  have hx := F.1
  have hb := F.2.1
  have hml := F.2.2.1
  have hown := F.2.2.2.1
  have hts := F.2.2.2.2
  replace hl : lv_has ls 1 [(0, .int (v))] := hl
  refine lv_iload_n hx hb dX2_isDestination_0 rfl (lv_at hl 0 rfl) ?_
  refine lv_if_lt (tgt := 14) hx hb dX2_isDestination_1 (by decide)  (fun c_1 => ?_) (fun c_1 => ?_)
  · refine lv_iconst (v := (nI (0))) hx hb dX2_isDestination_14 (by decide) ?_
    exact hret _ _ ls (by first | exact Or.inl ⟨rfl, okI_of (by decide) c_1 c_7⟩ | exact Or.inr ⟨rfl, fun h => okI_ge h c_1⟩ | exact Or.inr ⟨rfl, fun h => okI_lt (by decide) h c_7⟩) (Or.inl (by decide)) dX2_isDestination_15
  · refine lv_iload_n hx hb dX2_isDestination_4 rfl (lv_at hl 0 rfl) ?_
    refine lv_bipush (v := (nI (6))) hx hb dX2_isDestination_5 (by decide) ?_
    refine lv_icmp_ge (tgt := 14) hx hb dX2_isDestination_7 (by decide)  (fun c_7 => ?_) (fun c_7 => ?_)
    · refine lv_iconst (v := (nI (0))) hx hb dX2_isDestination_14 (by decide) ?_
      exact hret _ _ ls (by first | exact Or.inl ⟨rfl, okI_of (by decide) c_1 c_7⟩ | exact Or.inr ⟨rfl, fun h => okI_ge h c_1⟩ | exact Or.inr ⟨rfl, fun h => okI_lt (by decide) h c_7⟩) (Or.inl (by decide)) dX2_isDestination_15
    · refine lv_iconst (v := (nI (1))) hx hb dX2_isDestination_10 (by decide) ?_
      refine lv_goto (tgt := 15) hx hb dX2_isDestination_11 (by decide) ?_
      exact hret _ _ ls (by first | exact Or.inl ⟨rfl, okI_of (by decide) c_1 c_7⟩ | exact Or.inr ⟨rfl, fun h => okI_ge h c_1⟩ | exact Or.inr ⟨rfl, fun h => okI_lt (by decide) h c_7⟩) (Or.inr (by decide)) dX2_isDestination_15

set_option maxHeartbeats 4000000 in
set_option maxRecDepth 100000 in
theorem c_X2_isStream (l : Launch) (D : va_G) (cI cO : ClassId) (x y : Int32)  : Met l yX2_isStream (Cond.code yX2_isStream cX2_isStream 2 (some .boolean) :: WL) ({ frames := 1, cells := 0, slots := 0, locals := 20 } : Room) (va_Pc [.int (x), .int (y)] (PR D cI cO ([]))) (vp_Si (fun r => (r = nI 1 ∧ okI x 6 ∧ okI y 16) ∨ (r = nI 0 ∧ ¬ (okI x 6 ∧ okI y 16)))) 0 0 (fun _ => False) := by
  refine rd_bool (by decide) (Nat.le_of_ble_eq_true rfl) ?_
  intro p e s m args below meth c Q ls F hP hC hret hl
  have hx := F.1
  have hb := F.2.1
  have hml := F.2.2.1
  have hown := F.2.2.2.1
  have hts := F.2.2.2.2
  replace hl : lv_has ls 2 [(0, .int (x)), (1, .int (y))] := hl
  refine lv_iload_n hx hb dX2_isStream_0 rfl (lv_at hl 0 rfl) ?_
  refine goR (kS (As := [.int (x)]) (rest := []) F (c_X2_isDestination l D cI cO (x)) ywX2_isDestination qw320 qw301  ⟨rfl, rfl⟩ ⟨Nat.le_of_ble_eq_true rfl, Nat.le_of_ble_eq_true rfl⟩ (preR (fun k q h => by simp at h) hC) rfl hl.1 rfl (Nat.le_of_ble_eq_true rfl) dX2_isStream_1 ⟨Nat.zero_le _, Nat.zero_le _⟩) (fun r_1 h_1 => ?_)
  rcases h_1 with ⟨rfl, h_1⟩ | ⟨rfl, h_1⟩
  · refine n_if_eq (tgt := 21) hx hb dX2_isStream_4 (by decide) (by omega) (fun h => absurd h (by decide)) (fun _ => ?_)
    refine lv_iload_n hx hb dX2_isStream_7 rfl (lv_at hl 1 rfl) ?_
    refine lv_if_lt (tgt := 21) hx hb dX2_isStream_8 (by decide)  (fun c_8 => ?_) (fun c_8 => ?_)
    · refine lv_iconst (v := (nI (0))) hx hb dX2_isStream_21 (by decide) ?_
      exact hret _ _ ls (by first | exact Or.inl ⟨rfl, h_1, okI_of (by decide) c_8 c_14⟩ | exact Or.inr ⟨rfl, fun h => h_1 h.1⟩ | exact Or.inr ⟨rfl, fun h => okI_ge h.2 c_8⟩ | exact Or.inr ⟨rfl, fun h => okI_lt (by decide) h.2 c_14⟩) (Or.inl (by decide)) dX2_isStream_22
    · refine lv_iload_n hx hb dX2_isStream_11 rfl (lv_at hl 1 rfl) ?_
      refine lv_bipush (v := (nI (16))) hx hb dX2_isStream_12 (by decide) ?_
      refine lv_icmp_ge (tgt := 21) hx hb dX2_isStream_14 (by decide)  (fun c_14 => ?_) (fun c_14 => ?_)
      · refine lv_iconst (v := (nI (0))) hx hb dX2_isStream_21 (by decide) ?_
        exact hret _ _ ls (by first | exact Or.inl ⟨rfl, h_1, okI_of (by decide) c_8 c_14⟩ | exact Or.inr ⟨rfl, fun h => h_1 h.1⟩ | exact Or.inr ⟨rfl, fun h => okI_ge h.2 c_8⟩ | exact Or.inr ⟨rfl, fun h => okI_lt (by decide) h.2 c_14⟩) (Or.inl (by decide)) dX2_isStream_22
      · refine lv_iconst (v := (nI (1))) hx hb dX2_isStream_17 (by decide) ?_
        refine lv_goto (tgt := 22) hx hb dX2_isStream_18 (by decide) ?_
        exact hret _ _ ls (by first | exact Or.inl ⟨rfl, h_1, okI_of (by decide) c_8 c_14⟩ | exact Or.inr ⟨rfl, fun h => h_1 h.1⟩ | exact Or.inr ⟨rfl, fun h => okI_ge h.2 c_8⟩ | exact Or.inr ⟨rfl, fun h => okI_lt (by decide) h.2 c_14⟩) (Or.inr (by decide)) dX2_isStream_22
  · refine n_if_eq (tgt := 21) hx hb dX2_isStream_4 (by decide) (by omega) (fun _ => ?_) (fun h => absurd h (by decide))
    refine lv_iconst (v := (nI (0))) hx hb dX2_isStream_21 (by decide) ?_
    exact hret _ _ ls (by first | exact Or.inl ⟨rfl, h_1, okI_of (by decide) c_8 c_14⟩ | exact Or.inr ⟨rfl, fun h => h_1 h.1⟩ | exact Or.inr ⟨rfl, fun h => okI_ge h.2 c_8⟩ | exact Or.inr ⟨rfl, fun h => okI_lt (by decide) h.2 c_14⟩) (Or.inl (by decide)) dX2_isStream_22

set_option maxHeartbeats 4000000 in
set_option maxRecDepth 100000 in
theorem c_X2_linkPlace (l : Launch) (D : va_G) (cI cO : ClassId) (x y : Nat)  : Met l yX2_linkPlace (Cond.code yX2_linkPlace cX2_linkPlace 2 (some .int) :: WL) ({ frames := 0, cells := 0, slots := 0, locals := 0 } : Room) (va_Pc [.int (nI (x)), .int (nI (y))] (PR D cI cO ([]))) (vp_Si (fun r => r = nI (x * 4 + y))) 0 0 (fun _ => False) := by
  refine rd_int (by decide) (Nat.le_of_ble_eq_true rfl) ?_
  intro p e s m args below meth c Q ls F hP hC hret hl
  have hx := F.1
  have hb := F.2.1
  have hml := F.2.2.1
  have hown := F.2.2.2.1
  have hts := F.2.2.2.2
  replace hl : lv_has ls 2 [(0, .int (nI (x))), (1, .int (nI (y)))] := hl
  refine lv_iload_n hx hb dX2_linkPlace_0 rfl (lv_at hl 0 rfl) ?_
  refine lv_iconst (v := (nI (4))) hx hb dX2_linkPlace_1 (by decide) ?_
  refine n_imul hx hb dX2_linkPlace_2  ?_
  refine lv_iload_n hx hb dX2_linkPlace_3 rfl (lv_at hl 1 rfl) ?_
  refine n_iadd hx hb dX2_linkPlace_4  ?_
  exact hret _ _ ls (rfl) dX2_linkPlace_5

set_option maxHeartbeats 4000000 in
set_option maxRecDepth 100000 in
theorem c_X2_routePlace (l : Launch) (D : va_G) (cI cO : ClassId) (x y : Nat)  : Met l yX2_routePlace (Cond.code yX2_routePlace cX2_routePlace 2 (some .int) :: WL) ({ frames := 0, cells := 0, slots := 0, locals := 0 } : Room) (va_Pc [.int (nI (x)), .int (nI (y))] (PR D cI cO ([]))) (vp_Si (fun r => r = nI (x * 4 + y))) 0 0 (fun _ => False) := by
  refine rd_int (by decide) (Nat.le_of_ble_eq_true rfl) ?_
  intro p e s m args below meth c Q ls F hP hC hret hl
  have hx := F.1
  have hb := F.2.1
  have hml := F.2.2.1
  have hown := F.2.2.2.1
  have hts := F.2.2.2.2
  replace hl : lv_has ls 2 [(0, .int (nI (x))), (1, .int (nI (y)))] := hl
  refine lv_iload_n hx hb dX2_routePlace_0 rfl (lv_at hl 0 rfl) ?_
  refine lv_iconst (v := (nI (4))) hx hb dX2_routePlace_1 (by decide) ?_
  refine n_imul hx hb dX2_routePlace_2  ?_
  refine lv_iload_n hx hb dX2_routePlace_3 rfl (lv_at hl 1 rfl) ?_
  refine n_iadd hx hb dX2_routePlace_4  ?_
  exact hret _ _ ls (rfl) dX2_routePlace_5

set_option maxHeartbeats 4000000 in
set_option maxRecDepth 100000 in
theorem c_X2_streamPlace (l : Launch) (D : va_G) (cI cO : ClassId) (x y : Nat)  : Met l yX2_streamPlace (Cond.code yX2_streamPlace cX2_streamPlace 2 (some .int) :: WL) ({ frames := 0, cells := 0, slots := 0, locals := 0 } : Room) (va_Pc [.int (nI (x)), .int (nI (y))] (PR D cI cO ([]))) (vp_Si (fun r => r = nI (x * 16 + y))) 0 0 (fun _ => False) := by
  refine rd_int (by decide) (Nat.le_of_ble_eq_true rfl) ?_
  intro p e s m args below meth c Q ls F hP hC hret hl
  have hx := F.1
  have hb := F.2.1
  have hml := F.2.2.1
  have hown := F.2.2.2.1
  have hts := F.2.2.2.2
  replace hl : lv_has ls 2 [(0, .int (nI (x))), (1, .int (nI (y)))] := hl
  refine lv_iload_n hx hb dX2_streamPlace_0 rfl (lv_at hl 0 rfl) ?_
  refine lv_bipush (v := (nI (16))) hx hb dX2_streamPlace_1 (by decide) ?_
  refine n_imul hx hb dX2_streamPlace_3  ?_
  refine lv_iload_n hx hb dX2_streamPlace_4 rfl (lv_at hl 1 rfl) ?_
  refine n_iadd hx hb dX2_streamPlace_5  ?_
  exact hret _ _ ls (rfl) dX2_streamPlace_6

set_option maxHeartbeats 4000000 in
set_option maxRecDepth 100000 in
theorem c_X2_messageOf (l : Launch) (D : va_G) (cI cO : ClassId) (x y : Nat)  : Met l yX2_messageOf (Cond.code yX2_messageOf cX2_messageOf 2 (some .int) :: WL) ({ frames := 0, cells := 0, slots := 0, locals := 0 } : Room) (va_Pc [.int (nI (x)), .int (nI (y))] (PR D cI cO ([]))) (vp_Si (fun r => r = nI (x * 96 + y))) 0 0 (fun _ => False) := by
  refine rd_int (by decide) (Nat.le_of_ble_eq_true rfl) ?_
  intro p e s m args below meth c Q ls F hP hC hret hl
  have hx := F.1
  have hb := F.2.1
  have hml := F.2.2.1
  have hown := F.2.2.2.1
  have hts := F.2.2.2.2
  replace hl : lv_has ls 2 [(0, .int (nI (x))), (1, .int (nI (y)))] := hl
  refine lv_iload_n hx hb dX2_messageOf_0 rfl (lv_at hl 0 rfl) ?_
  refine lv_bipush (v := (nI (96))) hx hb dX2_messageOf_1 (by decide) ?_
  refine n_imul hx hb dX2_messageOf_3  ?_
  refine lv_iload_n hx hb dX2_messageOf_4 rfl (lv_at hl 1 rfl) ?_
  refine n_iadd hx hb dX2_messageOf_5  ?_
  exact hret _ _ ls (rfl) dX2_messageOf_6
