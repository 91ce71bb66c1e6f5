def lnS (q : Nat) : Nat := match q with
  | 10 => 4
  | 11 => 4
  | 12 => 16
  | 13 => 160
  | 14 => 24
  | 15 => 24
  | 16 => 96
  | 17 => 96
  | 18 => 24
  | _ => 1
/-- the State T holds what S holds -/
def CPY (T S : Nat → Nat → Int32) : Prop := ∀ q, q < 19 → ∀ j, j < lnS q → T q j = S q j
theorem RC_cpy {c : Nat} {T S : Nat → Nat → Int32} {w : Nat → Int32} (h : CPY T S) (hR : RC c S w) : RC c T w := by
  have i0 : ∀ q, q < 10 → T q 0 = S q 0 := fun q hq => h q (by omega) 0 (by unfold lnS; split <;> omega)
  refine ⟨hR.wf, ?_, fun i hi => (h 10 (by decide) i hi).trans (hR.m0 i hi), fun i hi => (h 11 (by decide) i hi).trans (hR.a i hi), fun p hp => (h 12 (by decide) p hp).trans (hR.l0 p hp), fun p hp j hj => (h 13 (by decide) _ (by have := (hR.wf.l p hp).2; show p * 10 + j < 160; omega)).trans (hR.q p hp j hj), fun d hd i hi => (h 14 (by decide) _ (by show d * 4 + i < 24; omega)).trans (hR.s d hd i hi), fun d hd i hi => (h 15 (by decide) _ (by show d * 4 + i < 24; omega)).trans (hR.p d hd i hi), fun k hk => ?_, fun k hk => (h 17 (by decide) k hk).trans (hR.g k hk), fun j hj => (h 18 (by decide) j (by have := hR.wf.h.2; show j < 24; omega)).trans (hR.b j hj)⟩
  · rw [i0 0 (by decide), i0 1 (by decide), i0 2 (by decide), i0 3 (by decide), i0 4 (by decide), i0 5 (by decide), i0 6 (by decide), i0 7 (by decide), i0 8 (by decide), i0 9 (by decide)]
    exact hR.i
  · rw [h 16 (by decide) k hk]
    exact hR.u k hk
set_option maxHeartbeats 4000000 in
set_option maxRecDepth 100000 in
theorem c_copyRow_0 (l : Launch) (D : va_G) (cI cO : ClassId) (sz : Nat) (h : Nat) (a : Nat → Nat) (T : Nat → Nat → Int32) (g : Nat) (b : Nat → Nat) (S : Nat → Nat → Int32)  : Met l yX0_copyRow (Cond.code yX0_copyRow cX0_copyRow 2 none :: WL) ({ frames := 1, cells := 0, slots := 0, locals := 40 } : Room) (va_Pc [.ref (b 0), .ref (a 0)] (PW D cI cO (stW cI h a T ++ (stW cI g b S)) sz)) (va_Qv (fun (u : Nat → Nat → Int32) => (∀ q, q ≠ 10 → u q = T q) ∧ ∀ j, j < 4 → u 10 j = S 10 j) (QB D (stW cI h a T ++ (stW cI g b S)) sz (fun (u : Nat → Nat → Int32) => stW cI h a u ++ (stW cI g b S))) (va_A (stW cI h a T ++ (stW cI g b S)) sz)) 0 0 (va_A (stW cI h a T ++ (stW cI g b S)) sz) := by
  refine wr_void (by decide) (Nat.le_of_ble_eq_true rfl) ?_
  intro p e s m args below meth c Q ls A F hP hC hD hA hret hl
  have hx := F.1
  have hb := F.2.1
  have hml := F.2.2.1
  have hown := F.2.2.2.1
  have hts := F.2.2.2.2
  replace hl : lv_has ls 2 [(0, .ref (b 0)), (1, .ref (a 0))] := hl
  have hS : va_S A s.heap s.heap [] := va_S.rf
  refine lv_aload_n hx hb dX0_copyRow_0 rfl (lv_at hl 0 rfl) ?_
  refine lv_iconst (v := (nI (0))) hx hb dX0_copyRow_1 (by decide) ?_
  refine lv_aload_n hx hb dX0_copyRow_2 rfl (lv_at hl 1 rfl) ?_
  refine lv_iconst (v := (nI (0))) hx hb dX0_copyRow_3 (by decide) ?_
  refine lv_aload_n hx hb dX0_copyRow_4 rfl (lv_at hl 0 rfl) ?_
  refine va_alen (v := nI 4) hx hb hC.1 hP 11 0 rfl rfl rfl dX0_copyRow_5 ?_
  refine lv_aload_n hx hb dX0_copyRow_6 rfl (lv_at hl 1 rfl) ?_
  refine va_alen (v := nI 4) hx hb hC.1 hP 1 0 rfl rfl rfl dX0_copyRow_7 ?_
  refine va_mmin (own := "SignallingPoint$State") (index := 80) hx hb (hml.trans hl.1.symm) hown (hts _ qw160) (hts _ qw161) (hts _ qw6) (hts _ qw162) (Nat.le_of_ble_eq_true rfl) (Nat.le_of_ble_eq_true rfl) (Nat.zero_le _) (Nat.zero_le _) dX0_copyRow_8 ?_
  refine w_cv (y := (nI (4))) (by decide) ?_
  refine va_copyi (own := "SignallingPoint$State") (index := 86) (ty := .int) hx hb (hml.trans hl.1.symm) hown (hts _ qw163) (hts _ qw165) (hts _ qw164) (hts _ qw7) hC.1 hP hD hS 11 1 0 0 rfl rfl rfl rfl rfl (by decide) (by decide) (by decide) (by decide) (by decide) (fun i _ => rfl) (Nat.le_of_ble_eq_true rfl) (by decide +kernel) dX0_copyRow_11 (fun H locs hP hD hS => ?_)
  obtain ⟨S_1, hS_1⟩ : ∃ z : Nat → Nat → Int32, z = va_up T 10 (va_cpy (S 10) (T 10) (nI (0)).toNatClampNeg (nI (0)).toNatClampNeg (nI (4)).toNatClampNeg) := ⟨_, rfl⟩
  replace hP : va_P D vwCl (stW cI h a S_1 ++ (stW cI g b S)) H := by rw [hS_1]; exact hP
  replace hD : va_D A (stW cI h a S_1 ++ (stW cI g b S)) := by rw [hS_1]; exact hD
  exact hret (S_1) _ ls _ _ (⟨fun q hq => by rw [hS_1, sup_ne hq], fun j hj => by rw [hS_1, sup_eq, show (nI (0)).toNatClampNeg = 0 from by decide, show (nI (4)).toNatClampNeg = 4 from by decide, pk_cpy_in (by omega) (by omega)]; simp⟩) hP hD hS dX0_copyRow_14

set_option maxHeartbeats 4000000 in
set_option maxRecDepth 100000 in
theorem c_copyRow_1 (l : Launch) (D : va_G) (cI cO : ClassId) (sz : Nat) (h : Nat) (a : Nat → Nat) (T : Nat → Nat → Int32) (g : Nat) (b : Nat → Nat) (S : Nat → Nat → Int32)  : Met l yX0_copyRow (Cond.code yX0_copyRow cX0_copyRow 2 none :: WL) ({ frames := 1, cells := 0, slots := 0, locals := 40 } : Room) (va_Pc [.ref (b 1), .ref (a 1)] (PW D cI cO (stW cI h a T ++ (stW cI g b S)) sz)) (va_Qv (fun (u : Nat → Nat → Int32) => (∀ q, q ≠ 11 → u q = T q) ∧ ∀ j, j < 4 → u 11 j = S 11 j) (QB D (stW cI h a T ++ (stW cI g b S)) sz (fun (u : Nat → Nat → Int32) => stW cI h a u ++ (stW cI g b S))) (va_A (stW cI h a T ++ (stW cI g b S)) sz)) 0 0 (va_A (stW cI h a T ++ (stW cI g b S)) sz) := by
  refine wr_void (by decide) (Nat.le_of_ble_eq_true rfl) ?_
  intro p e s m args below meth c Q ls A F hP hC hD hA hret hl
  have hx := F.1
  have hb := F.2.1
  have hml := F.2.2.1
  have hown := F.2.2.2.1
  have hts := F.2.2.2.2
  replace hl : lv_has ls 2 [(0, .ref (b 1)), (1, .ref (a 1))] := hl
  have hS : va_S A s.heap s.heap [] := va_S.rf
  refine lv_aload_n hx hb dX0_copyRow_0 rfl (lv_at hl 0 rfl) ?_
  refine lv_iconst (v := (nI (0))) hx hb dX0_copyRow_1 (by decide) ?_
  refine lv_aload_n hx hb dX0_copyRow_2 rfl (lv_at hl 1 rfl) ?_
  refine lv_iconst (v := (nI (0))) hx hb dX0_copyRow_3 (by decide) ?_
  refine lv_aload_n hx hb dX0_copyRow_4 rfl (lv_at hl 0 rfl) ?_
  refine va_alen (v := nI 4) hx hb hC.1 hP 12 0 rfl rfl rfl dX0_copyRow_5 ?_
  refine lv_aload_n hx hb dX0_copyRow_6 rfl (lv_at hl 1 rfl) ?_
  refine va_alen (v := nI 4) hx hb hC.1 hP 2 0 rfl rfl rfl dX0_copyRow_7 ?_
  refine va_mmin (own := "SignallingPoint$State") (index := 80) hx hb (hml.trans hl.1.symm) hown (hts _ qw160) (hts _ qw161) (hts _ qw6) (hts _ qw162) (Nat.le_of_ble_eq_true rfl) (Nat.le_of_ble_eq_true rfl) (Nat.zero_le _) (Nat.zero_le _) dX0_copyRow_8 ?_
  refine w_cv (y := (nI (4))) (by decide) ?_
  refine va_copyi (own := "SignallingPoint$State") (index := 86) (ty := .int) hx hb (hml.trans hl.1.symm) hown (hts _ qw163) (hts _ qw165) (hts _ qw164) (hts _ qw7) hC.1 hP hD hS 12 2 0 0 rfl rfl rfl rfl rfl (by decide) (by decide) (by decide) (by decide) (by decide) (fun i _ => rfl) (Nat.le_of_ble_eq_true rfl) (by decide +kernel) dX0_copyRow_11 (fun H locs hP hD hS => ?_)
  obtain ⟨S_1, hS_1⟩ : ∃ z : Nat → Nat → Int32, z = va_up T 11 (va_cpy (S 11) (T 11) (nI (0)).toNatClampNeg (nI (0)).toNatClampNeg (nI (4)).toNatClampNeg) := ⟨_, rfl⟩
  replace hP : va_P D vwCl (stW cI h a S_1 ++ (stW cI g b S)) H := by rw [hS_1]; exact hP
  replace hD : va_D A (stW cI h a S_1 ++ (stW cI g b S)) := by rw [hS_1]; exact hD
  exact hret (S_1) _ ls _ _ (⟨fun q hq => by rw [hS_1, sup_ne hq], fun j hj => by rw [hS_1, sup_eq, show (nI (0)).toNatClampNeg = 0 from by decide, show (nI (4)).toNatClampNeg = 4 from by decide, pk_cpy_in (by omega) (by omega)]; simp⟩) hP hD hS dX0_copyRow_14

set_option maxHeartbeats 4000000 in
set_option maxRecDepth 100000 in
theorem c_copyRow_2 (l : Launch) (D : va_G) (cI cO : ClassId) (sz : Nat) (h : Nat) (a : Nat → Nat) (T : Nat → Nat → Int32) (g : Nat) (b : Nat → Nat) (S : Nat → Nat → Int32)  : Met l yX0_copyRow (Cond.code yX0_copyRow cX0_copyRow 2 none :: WL) ({ frames := 1, cells := 0, slots := 0, locals := 40 } : Room) (va_Pc [.ref (b 2), .ref (a 2)] (PW D cI cO (stW cI h a T ++ (stW cI g b S)) sz)) (va_Qv (fun (u : Nat → Nat → Int32) => (∀ q, q ≠ 12 → u q = T q) ∧ ∀ j, j < 16 → u 12 j = S 12 j) (QB D (stW cI h a T ++ (stW cI g b S)) sz (fun (u : Nat → Nat → Int32) => stW cI h a u ++ (stW cI g b S))) (va_A (stW cI h a T ++ (stW cI g b S)) sz)) 0 0 (va_A (stW cI h a T ++ (stW cI g b S)) sz) := by
  refine wr_void (by decide) (Nat.le_of_ble_eq_true rfl) ?_
  intro p e s m args below meth c Q ls A F hP hC hD hA hret hl
  have hx := F.1
  have hb := F.2.1
  have hml := F.2.2.1
  have hown := F.2.2.2.1
  have hts := F.2.2.2.2
  replace hl : lv_has ls 2 [(0, .ref (b 2)), (1, .ref (a 2))] := hl
  have hS : va_S A s.heap s.heap [] := va_S.rf
  refine lv_aload_n hx hb dX0_copyRow_0 rfl (lv_at hl 0 rfl) ?_
  refine lv_iconst (v := (nI (0))) hx hb dX0_copyRow_1 (by decide) ?_
  refine lv_aload_n hx hb dX0_copyRow_2 rfl (lv_at hl 1 rfl) ?_
  refine lv_iconst (v := (nI (0))) hx hb dX0_copyRow_3 (by decide) ?_
  refine lv_aload_n hx hb dX0_copyRow_4 rfl (lv_at hl 0 rfl) ?_
  refine va_alen (v := nI 16) hx hb hC.1 hP 13 0 rfl rfl rfl dX0_copyRow_5 ?_
  refine lv_aload_n hx hb dX0_copyRow_6 rfl (lv_at hl 1 rfl) ?_
  refine va_alen (v := nI 16) hx hb hC.1 hP 3 0 rfl rfl rfl dX0_copyRow_7 ?_
  refine va_mmin (own := "SignallingPoint$State") (index := 80) hx hb (hml.trans hl.1.symm) hown (hts _ qw160) (hts _ qw161) (hts _ qw6) (hts _ qw162) (Nat.le_of_ble_eq_true rfl) (Nat.le_of_ble_eq_true rfl) (Nat.zero_le _) (Nat.zero_le _) dX0_copyRow_8 ?_
  refine w_cv (y := (nI (16))) (by decide) ?_
  refine va_copyi (own := "SignallingPoint$State") (index := 86) (ty := .int) hx hb (hml.trans hl.1.symm) hown (hts _ qw163) (hts _ qw165) (hts _ qw164) (hts _ qw7) hC.1 hP hD hS 13 3 0 0 rfl rfl rfl rfl rfl (by decide) (by decide) (by decide) (by decide) (by decide) (fun i _ => rfl) (Nat.le_of_ble_eq_true rfl) (by decide +kernel) dX0_copyRow_11 (fun H locs hP hD hS => ?_)
  obtain ⟨S_1, hS_1⟩ : ∃ z : Nat → Nat → Int32, z = va_up T 12 (va_cpy (S 12) (T 12) (nI (0)).toNatClampNeg (nI (0)).toNatClampNeg (nI (16)).toNatClampNeg) := ⟨_, rfl⟩
  replace hP : va_P D vwCl (stW cI h a S_1 ++ (stW cI g b S)) H := by rw [hS_1]; exact hP
  replace hD : va_D A (stW cI h a S_1 ++ (stW cI g b S)) := by rw [hS_1]; exact hD
  exact hret (S_1) _ ls _ _ (⟨fun q hq => by rw [hS_1, sup_ne hq], fun j hj => by rw [hS_1, sup_eq, show (nI (0)).toNatClampNeg = 0 from by decide, show (nI (16)).toNatClampNeg = 16 from by decide, pk_cpy_in (by omega) (by omega)]; simp⟩) hP hD hS dX0_copyRow_14

set_option maxHeartbeats 4000000 in
set_option maxRecDepth 100000 in
theorem c_copyRow_3 (l : Launch) (D : va_G) (cI cO : ClassId) (sz : Nat) (h : Nat) (a : Nat → Nat) (T : Nat → Nat → Int32) (g : Nat) (b : Nat → Nat) (S : Nat → Nat → Int32)  : Met l yX0_copyRow (Cond.code yX0_copyRow cX0_copyRow 2 none :: WL) ({ frames := 1, cells := 0, slots := 0, locals := 40 } : Room) (va_Pc [.ref (b 3), .ref (a 3)] (PW D cI cO (stW cI h a T ++ (stW cI g b S)) sz)) (va_Qv (fun (u : Nat → Nat → Int32) => (∀ q, q ≠ 13 → u q = T q) ∧ ∀ j, j < 160 → u 13 j = S 13 j) (QB D (stW cI h a T ++ (stW cI g b S)) sz (fun (u : Nat → Nat → Int32) => stW cI h a u ++ (stW cI g b S))) (va_A (stW cI h a T ++ (stW cI g b S)) sz)) 0 0 (va_A (stW cI h a T ++ (stW cI g b S)) sz) := by
  refine wr_void (by decide) (Nat.le_of_ble_eq_true rfl) ?_
  intro p e s m args below meth c Q ls A F hP hC hD hA hret hl
  have hx := F.1
  have hb := F.2.1
  have hml := F.2.2.1
  have hown := F.2.2.2.1
  have hts := F.2.2.2.2
  replace hl : lv_has ls 2 [(0, .ref (b 3)), (1, .ref (a 3))] := hl
  have hS : va_S A s.heap s.heap [] := va_S.rf
  refine lv_aload_n hx hb dX0_copyRow_0 rfl (lv_at hl 0 rfl) ?_
  refine lv_iconst (v := (nI (0))) hx hb dX0_copyRow_1 (by decide) ?_
  refine lv_aload_n hx hb dX0_copyRow_2 rfl (lv_at hl 1 rfl) ?_
  refine lv_iconst (v := (nI (0))) hx hb dX0_copyRow_3 (by decide) ?_
  refine lv_aload_n hx hb dX0_copyRow_4 rfl (lv_at hl 0 rfl) ?_
  refine va_alen (v := nI 160) hx hb hC.1 hP 14 0 rfl rfl rfl dX0_copyRow_5 ?_
  refine lv_aload_n hx hb dX0_copyRow_6 rfl (lv_at hl 1 rfl) ?_
  refine va_alen (v := nI 160) hx hb hC.1 hP 4 0 rfl rfl rfl dX0_copyRow_7 ?_
  refine va_mmin (own := "SignallingPoint$State") (index := 80) hx hb (hml.trans hl.1.symm) hown (hts _ qw160) (hts _ qw161) (hts _ qw6) (hts _ qw162) (Nat.le_of_ble_eq_true rfl) (Nat.le_of_ble_eq_true rfl) (Nat.zero_le _) (Nat.zero_le _) dX0_copyRow_8 ?_
  refine w_cv (y := (nI (160))) (by decide) ?_
  refine va_copyi (own := "SignallingPoint$State") (index := 86) (ty := .int) hx hb (hml.trans hl.1.symm) hown (hts _ qw163) (hts _ qw165) (hts _ qw164) (hts _ qw7) hC.1 hP hD hS 14 4 0 0 rfl rfl rfl rfl rfl (by decide) (by decide) (by decide) (by decide) (by decide) (fun i _ => rfl) (Nat.le_of_ble_eq_true rfl) (by decide +kernel) dX0_copyRow_11 (fun H locs hP hD hS => ?_)
  obtain ⟨S_1, hS_1⟩ : ∃ z : Nat → Nat → Int32, z = va_up T 13 (va_cpy (S 13) (T 13) (nI (0)).toNatClampNeg (nI (0)).toNatClampNeg (nI (160)).toNatClampNeg) := ⟨_, rfl⟩
  replace hP : va_P D vwCl (stW cI h a S_1 ++ (stW cI g b S)) H := by rw [hS_1]; exact hP
  replace hD : va_D A (stW cI h a S_1 ++ (stW cI g b S)) := by rw [hS_1]; exact hD
  exact hret (S_1) _ ls _ _ (⟨fun q hq => by rw [hS_1, sup_ne hq], fun j hj => by rw [hS_1, sup_eq, show (nI (0)).toNatClampNeg = 0 from by decide, show (nI (160)).toNatClampNeg = 160 from by decide, pk_cpy_in (by omega) (by omega)]; simp⟩) hP hD hS dX0_copyRow_14

set_option maxHeartbeats 4000000 in
set_option maxRecDepth 100000 in
theorem c_copyRow_4 (l : Launch) (D : va_G) (cI cO : ClassId) (sz : Nat) (h : Nat) (a : Nat → Nat) (T : Nat → Nat → Int32) (g : Nat) (b : Nat → Nat) (S : Nat → Nat → Int32)  : Met l yX0_copyRow (Cond.code yX0_copyRow cX0_copyRow 2 none :: WL) ({ frames := 1, cells := 0, slots := 0, locals := 40 } : Room) (va_Pc [.ref (b 4), .ref (a 4)] (PW D cI cO (stW cI h a T ++ (stW cI g b S)) sz)) (va_Qv (fun (u : Nat → Nat → Int32) => (∀ q, q ≠ 14 → u q = T q) ∧ ∀ j, j < 24 → u 14 j = S 14 j) (QB D (stW cI h a T ++ (stW cI g b S)) sz (fun (u : Nat → Nat → Int32) => stW cI h a u ++ (stW cI g b S))) (va_A (stW cI h a T ++ (stW cI g b S)) sz)) 0 0 (va_A (stW cI h a T ++ (stW cI g b S)) sz) := by
  refine wr_void (by decide) (Nat.le_of_ble_eq_true rfl) ?_
  intro p e s m args below meth c Q ls A F hP hC hD hA hret hl
  have hx := F.1
  have hb := F.2.1
  have hml := F.2.2.1
  have hown := F.2.2.2.1
  have hts := F.2.2.2.2
  replace hl : lv_has ls 2 [(0, .ref (b 4)), (1, .ref (a 4))] := hl
  have hS : va_S A s.heap s.heap [] := va_S.rf
  refine lv_aload_n hx hb dX0_copyRow_0 rfl (lv_at hl 0 rfl) ?_
  refine lv_iconst (v := (nI (0))) hx hb dX0_copyRow_1 (by decide) ?_
  refine lv_aload_n hx hb dX0_copyRow_2 rfl (lv_at hl 1 rfl) ?_
  refine lv_iconst (v := (nI (0))) hx hb dX0_copyRow_3 (by decide) ?_
  refine lv_aload_n hx hb dX0_copyRow_4 rfl (lv_at hl 0 rfl) ?_
  refine va_alen (v := nI 24) hx hb hC.1 hP 15 0 rfl rfl rfl dX0_copyRow_5 ?_
  refine lv_aload_n hx hb dX0_copyRow_6 rfl (lv_at hl 1 rfl) ?_
  refine va_alen (v := nI 24) hx hb hC.1 hP 5 0 rfl rfl rfl dX0_copyRow_7 ?_
  refine va_mmin (own := "SignallingPoint$State") (index := 80) hx hb (hml.trans hl.1.symm) hown (hts _ qw160) (hts _ qw161) (hts _ qw6) (hts _ qw162) (Nat.le_of_ble_eq_true rfl) (Nat.le_of_ble_eq_true rfl) (Nat.zero_le _) (Nat.zero_le _) dX0_copyRow_8 ?_
  refine w_cv (y := (nI (24))) (by decide) ?_
  refine va_copyi (own := "SignallingPoint$State") (index := 86) (ty := .int) hx hb (hml.trans hl.1.symm) hown (hts _ qw163) (hts _ qw165) (hts _ qw164) (hts _ qw7) hC.1 hP hD hS 15 5 0 0 rfl rfl rfl rfl rfl (by decide) (by decide) (by decide) (by decide) (by decide) (fun i _ => rfl) (Nat.le_of_ble_eq_true rfl) (by decide +kernel) dX0_copyRow_11 (fun H locs hP hD hS => ?_)
  obtain ⟨S_1, hS_1⟩ : ∃ z : Nat → Nat → Int32, z = va_up T 14 (va_cpy (S 14) (T 14) (nI (0)).toNatClampNeg (nI (0)).toNatClampNeg (nI (24)).toNatClampNeg) := ⟨_, rfl⟩
  replace hP : va_P D vwCl (stW cI h a S_1 ++ (stW cI g b S)) H := by rw [hS_1]; exact hP
  replace hD : va_D A (stW cI h a S_1 ++ (stW cI g b S)) := by rw [hS_1]; exact hD
  exact hret (S_1) _ ls _ _ (⟨fun q hq => by rw [hS_1, sup_ne hq], fun j hj => by rw [hS_1, sup_eq, show (nI (0)).toNatClampNeg = 0 from by decide, show (nI (24)).toNatClampNeg = 24 from by decide, pk_cpy_in (by omega) (by omega)]; simp⟩) hP hD hS dX0_copyRow_14

set_option maxHeartbeats 4000000 in
set_option maxRecDepth 100000 in
theorem c_copyRow_5 (l : Launch) (D : va_G) (cI cO : ClassId) (sz : Nat) (h : Nat) (a : Nat → Nat) (T : Nat → Nat → Int32) (g : Nat) (b : Nat → Nat) (S : Nat → Nat → Int32)  : Met l yX0_copyRow (Cond.code yX0_copyRow cX0_copyRow 2 none :: WL) ({ frames := 1, cells := 0, slots := 0, locals := 40 } : Room) (va_Pc [.ref (b 5), .ref (a 5)] (PW D cI cO (stW cI h a T ++ (stW cI g b S)) sz)) (va_Qv (fun (u : Nat → Nat → Int32) => (∀ q, q ≠ 15 → u q = T q) ∧ ∀ j, j < 24 → u 15 j = S 15 j) (QB D (stW cI h a T ++ (stW cI g b S)) sz (fun (u : Nat → Nat → Int32) => stW cI h a u ++ (stW cI g b S))) (va_A (stW cI h a T ++ (stW cI g b S)) sz)) 0 0 (va_A (stW cI h a T ++ (stW cI g b S)) sz) := by
  refine wr_void (by decide) (Nat.le_of_ble_eq_true rfl) ?_
  intro p e s m args below meth c Q ls A F hP hC hD hA hret hl
  have hx := F.1
  have hb := F.2.1
  have hml := F.2.2.1
  have hown := F.2.2.2.1
  have hts := F.2.2.2.2
  replace hl : lv_has ls 2 [(0, .ref (b 5)), (1, .ref (a 5))] := hl
  have hS : va_S A s.heap s.heap [] := va_S.rf
  refine lv_aload_n hx hb dX0_copyRow_0 rfl (lv_at hl 0 rfl) ?_
  refine lv_iconst (v := (nI (0))) hx hb dX0_copyRow_1 (by decide) ?_
  refine lv_aload_n hx hb dX0_copyRow_2 rfl (lv_at hl 1 rfl) ?_
  refine lv_iconst (v := (nI (0))) hx hb dX0_copyRow_3 (by decide) ?_
  refine lv_aload_n hx hb dX0_copyRow_4 rfl (lv_at hl 0 rfl) ?_
  refine va_alen (v := nI 24) hx hb hC.1 hP 16 0 rfl rfl rfl dX0_copyRow_5 ?_
  refine lv_aload_n hx hb dX0_copyRow_6 rfl (lv_at hl 1 rfl) ?_
  refine va_alen (v := nI 24) hx hb hC.1 hP 6 0 rfl rfl rfl dX0_copyRow_7 ?_
  refine va_mmin (own := "SignallingPoint$State") (index := 80) hx hb (hml.trans hl.1.symm) hown (hts _ qw160) (hts _ qw161) (hts _ qw6) (hts _ qw162) (Nat.le_of_ble_eq_true rfl) (Nat.le_of_ble_eq_true rfl) (Nat.zero_le _) (Nat.zero_le _) dX0_copyRow_8 ?_
  refine w_cv (y := (nI (24))) (by decide) ?_
  refine va_copyi (own := "SignallingPoint$State") (index := 86) (ty := .int) hx hb (hml.trans hl.1.symm) hown (hts _ qw163) (hts _ qw165) (hts _ qw164) (hts _ qw7) hC.1 hP hD hS 16 6 0 0 rfl rfl rfl rfl rfl (by decide) (by decide) (by decide) (by decide) (by decide) (fun i _ => rfl) (Nat.le_of_ble_eq_true rfl) (by decide +kernel) dX0_copyRow_11 (fun H locs hP hD hS => ?_)
  obtain ⟨S_1, hS_1⟩ : ∃ z : Nat → Nat → Int32, z = va_up T 15 (va_cpy (S 15) (T 15) (nI (0)).toNatClampNeg (nI (0)).toNatClampNeg (nI (24)).toNatClampNeg) := ⟨_, rfl⟩
  replace hP : va_P D vwCl (stW cI h a S_1 ++ (stW cI g b S)) H := by rw [hS_1]; exact hP
  replace hD : va_D A (stW cI h a S_1 ++ (stW cI g b S)) := by rw [hS_1]; exact hD
  exact hret (S_1) _ ls _ _ (⟨fun q hq => by rw [hS_1, sup_ne hq], fun j hj => by rw [hS_1, sup_eq, show (nI (0)).toNatClampNeg = 0 from by decide, show (nI (24)).toNatClampNeg = 24 from by decide, pk_cpy_in (by omega) (by omega)]; simp⟩) hP hD hS dX0_copyRow_14

set_option maxHeartbeats 4000000 in
set_option maxRecDepth 100000 in
theorem c_copyRow_6 (l : Launch) (D : va_G) (cI cO : ClassId) (sz : Nat) (h : Nat) (a : Nat → Nat) (T : Nat → Nat → Int32) (g : Nat) (b : Nat → Nat) (S : Nat → Nat → Int32)  : Met l yX0_copyRow (Cond.code yX0_copyRow cX0_copyRow 2 none :: WL) ({ frames := 1, cells := 0, slots := 0, locals := 40 } : Room) (va_Pc [.ref (b 6), .ref (a 6)] (PW D cI cO (stW cI h a T ++ (stW cI g b S)) sz)) (va_Qv (fun (u : Nat → Nat → Int32) => (∀ q, q ≠ 16 → u q = T q) ∧ ∀ j, j < 96 → u 16 j = S 16 j) (QB D (stW cI h a T ++ (stW cI g b S)) sz (fun (u : Nat → Nat → Int32) => stW cI h a u ++ (stW cI g b S))) (va_A (stW cI h a T ++ (stW cI g b S)) sz)) 0 0 (va_A (stW cI h a T ++ (stW cI g b S)) sz) := by
  refine wr_void (by decide) (Nat.le_of_ble_eq_true rfl) ?_
  intro p e s m args below meth c Q ls A F hP hC hD hA hret hl
  have hx := F.1
  have hb := F.2.1
  have hml := F.2.2.1
  have hown := F.2.2.2.1
  have hts := F.2.2.2.2
  replace hl : lv_has ls 2 [(0, .ref (b 6)), (1, .ref (a 6))] := hl
  have hS : va_S A s.heap s.heap [] := va_S.rf
  refine lv_aload_n hx hb dX0_copyRow_0 rfl (lv_at hl 0 rfl) ?_
  refine lv_iconst (v := (nI (0))) hx hb dX0_copyRow_1 (by decide) ?_
  refine lv_aload_n hx hb dX0_copyRow_2 rfl (lv_at hl 1 rfl) ?_
  refine lv_iconst (v := (nI (0))) hx hb dX0_copyRow_3 (by decide) ?_
  refine lv_aload_n hx hb dX0_copyRow_4 rfl (lv_at hl 0 rfl) ?_
  refine va_alen (v := nI 96) hx hb hC.1 hP 17 0 rfl rfl rfl dX0_copyRow_5 ?_
  refine lv_aload_n hx hb dX0_copyRow_6 rfl (lv_at hl 1 rfl) ?_
  refine va_alen (v := nI 96) hx hb hC.1 hP 7 0 rfl rfl rfl dX0_copyRow_7 ?_
  refine va_mmin (own := "SignallingPoint$State") (index := 80) hx hb (hml.trans hl.1.symm) hown (hts _ qw160) (hts _ qw161) (hts _ qw6) (hts _ qw162) (Nat.le_of_ble_eq_true rfl) (Nat.le_of_ble_eq_true rfl) (Nat.zero_le _) (Nat.zero_le _) dX0_copyRow_8 ?_
  refine w_cv (y := (nI (96))) (by decide) ?_
  refine va_copyi (own := "SignallingPoint$State") (index := 86) (ty := .int) hx hb (hml.trans hl.1.symm) hown (hts _ qw163) (hts _ qw165) (hts _ qw164) (hts _ qw7) hC.1 hP hD hS 17 7 0 0 rfl rfl rfl rfl rfl (by decide) (by decide) (by decide) (by decide) (by decide) (fun i _ => rfl) (Nat.le_of_ble_eq_true rfl) (by decide +kernel) dX0_copyRow_11 (fun H locs hP hD hS => ?_)
  obtain ⟨S_1, hS_1⟩ : ∃ z : Nat → Nat → Int32, z = va_up T 16 (va_cpy (S 16) (T 16) (nI (0)).toNatClampNeg (nI (0)).toNatClampNeg (nI (96)).toNatClampNeg) := ⟨_, rfl⟩
  replace hP : va_P D vwCl (stW cI h a S_1 ++ (stW cI g b S)) H := by rw [hS_1]; exact hP
  replace hD : va_D A (stW cI h a S_1 ++ (stW cI g b S)) := by rw [hS_1]; exact hD
  exact hret (S_1) _ ls _ _ (⟨fun q hq => by rw [hS_1, sup_ne hq], fun j hj => by rw [hS_1, sup_eq, show (nI (0)).toNatClampNeg = 0 from by decide, show (nI (96)).toNatClampNeg = 96 from by decide, pk_cpy_in (by omega) (by omega)]; simp⟩) hP hD hS dX0_copyRow_14

set_option maxHeartbeats 4000000 in
set_option maxRecDepth 100000 in
theorem c_copyRow_7 (l : Launch) (D : va_G) (cI cO : ClassId) (sz : Nat) (h : Nat) (a : Nat → Nat) (T : Nat → Nat → Int32) (g : Nat) (b : Nat → Nat) (S : Nat → Nat → Int32)  : Met l yX0_copyRow (Cond.code yX0_copyRow cX0_copyRow 2 none :: WL) ({ frames := 1, cells := 0, slots := 0, locals := 40 } : Room) (va_Pc [.ref (b 7), .ref (a 7)] (PW D cI cO (stW cI h a T ++ (stW cI g b S)) sz)) (va_Qv (fun (u : Nat → Nat → Int32) => (∀ q, q ≠ 17 → u q = T q) ∧ ∀ j, j < 96 → u 17 j = S 17 j) (QB D (stW cI h a T ++ (stW cI g b S)) sz (fun (u : Nat → Nat → Int32) => stW cI h a u ++ (stW cI g b S))) (va_A (stW cI h a T ++ (stW cI g b S)) sz)) 0 0 (va_A (stW cI h a T ++ (stW cI g b S)) sz) := by
  refine wr_void (by decide) (Nat.le_of_ble_eq_true rfl) ?_
  intro p e s m args below meth c Q ls A F hP hC hD hA hret hl
  have hx := F.1
  have hb := F.2.1
  have hml := F.2.2.1
  have hown := F.2.2.2.1
  have hts := F.2.2.2.2
  replace hl : lv_has ls 2 [(0, .ref (b 7)), (1, .ref (a 7))] := hl
  have hS : va_S A s.heap s.heap [] := va_S.rf
  refine lv_aload_n hx hb dX0_copyRow_0 rfl (lv_at hl 0 rfl) ?_
  refine lv_iconst (v := (nI (0))) hx hb dX0_copyRow_1 (by decide) ?_
  refine lv_aload_n hx hb dX0_copyRow_2 rfl (lv_at hl 1 rfl) ?_
  refine lv_iconst (v := (nI (0))) hx hb dX0_copyRow_3 (by decide) ?_
  refine lv_aload_n hx hb dX0_copyRow_4 rfl (lv_at hl 0 rfl) ?_
  refine va_alen (v := nI 96) hx hb hC.1 hP 18 0 rfl rfl rfl dX0_copyRow_5 ?_
  refine lv_aload_n hx hb dX0_copyRow_6 rfl (lv_at hl 1 rfl) ?_
  refine va_alen (v := nI 96) hx hb hC.1 hP 8 0 rfl rfl rfl dX0_copyRow_7 ?_
  refine va_mmin (own := "SignallingPoint$State") (index := 80) hx hb (hml.trans hl.1.symm) hown (hts _ qw160) (hts _ qw161) (hts _ qw6) (hts _ qw162) (Nat.le_of_ble_eq_true rfl) (Nat.le_of_ble_eq_true rfl) (Nat.zero_le _) (Nat.zero_le _) dX0_copyRow_8 ?_
  refine w_cv (y := (nI (96))) (by decide) ?_
  refine va_copyi (own := "SignallingPoint$State") (index := 86) (ty := .int) hx hb (hml.trans hl.1.symm) hown (hts _ qw163) (hts _ qw165) (hts _ qw164) (hts _ qw7) hC.1 hP hD hS 18 8 0 0 rfl rfl rfl rfl rfl (by decide) (by decide) (by decide) (by decide) (by decide) (fun i _ => rfl) (Nat.le_of_ble_eq_true rfl) (by decide +kernel) dX0_copyRow_11 (fun H locs hP hD hS => ?_)
  obtain ⟨S_1, hS_1⟩ : ∃ z : Nat → Nat → Int32, z = va_up T 17 (va_cpy (S 17) (T 17) (nI (0)).toNatClampNeg (nI (0)).toNatClampNeg (nI (96)).toNatClampNeg) := ⟨_, rfl⟩
  replace hP : va_P D vwCl (stW cI h a S_1 ++ (stW cI g b S)) H := by rw [hS_1]; exact hP
  replace hD : va_D A (stW cI h a S_1 ++ (stW cI g b S)) := by rw [hS_1]; exact hD
  exact hret (S_1) _ ls _ _ (⟨fun q hq => by rw [hS_1, sup_ne hq], fun j hj => by rw [hS_1, sup_eq, show (nI (0)).toNatClampNeg = 0 from by decide, show (nI (96)).toNatClampNeg = 96 from by decide, pk_cpy_in (by omega) (by omega)]; simp⟩) hP hD hS dX0_copyRow_14

set_option maxHeartbeats 4000000 in
set_option maxRecDepth 100000 in
theorem c_copyRow_8 (l : Launch) (D : va_G) (cI cO : ClassId) (sz : Nat) (h : Nat) (a : Nat → Nat) (T : Nat → Nat → Int32) (g : Nat) (b : Nat → Nat) (S : Nat → Nat → Int32)  : Met l yX0_copyRow (Cond.code yX0_copyRow cX0_copyRow 2 none :: WL) ({ frames := 1, cells := 0, slots := 0, locals := 40 } : Room) (va_Pc [.ref (b 8), .ref (a 8)] (PW D cI cO (stW cI h a T ++ (stW cI g b S)) sz)) (va_Qv (fun (u : Nat → Nat → Int32) => (∀ q, q ≠ 18 → u q = T q) ∧ ∀ j, j < 24 → u 18 j = S 18 j) (QB D (stW cI h a T ++ (stW cI g b S)) sz (fun (u : Nat → Nat → Int32) => stW cI h a u ++ (stW cI g b S))) (va_A (stW cI h a T ++ (stW cI g b S)) sz)) 0 0 (va_A (stW cI h a T ++ (stW cI g b S)) sz) := by
  refine wr_void (by decide) (Nat.le_of_ble_eq_true rfl) ?_
  intro p e s m args below meth c Q ls A F hP hC hD hA hret hl
  have hx := F.1
  have hb := F.2.1
  have hml := F.2.2.1
  have hown := F.2.2.2.1
  have hts := F.2.2.2.2
  replace hl : lv_has ls 2 [(0, .ref (b 8)), (1, .ref (a 8))] := hl
  have hS : va_S A s.heap s.heap [] := va_S.rf
  refine lv_aload_n hx hb dX0_copyRow_0 rfl (lv_at hl 0 rfl) ?_
  refine lv_iconst (v := (nI (0))) hx hb dX0_copyRow_1 (by decide) ?_
  refine lv_aload_n hx hb dX0_copyRow_2 rfl (lv_at hl 1 rfl) ?_
  refine lv_iconst (v := (nI (0))) hx hb dX0_copyRow_3 (by decide) ?_
  refine lv_aload_n hx hb dX0_copyRow_4 rfl (lv_at hl 0 rfl) ?_
  refine va_alen (v := nI 24) hx hb hC.1 hP 19 0 rfl rfl rfl dX0_copyRow_5 ?_
  refine lv_aload_n hx hb dX0_copyRow_6 rfl (lv_at hl 1 rfl) ?_
  refine va_alen (v := nI 24) hx hb hC.1 hP 9 0 rfl rfl rfl dX0_copyRow_7 ?_
  refine va_mmin (own := "SignallingPoint$State") (index := 80) hx hb (hml.trans hl.1.symm) hown (hts _ qw160) (hts _ qw161) (hts _ qw6) (hts _ qw162) (Nat.le_of_ble_eq_true rfl) (Nat.le_of_ble_eq_true rfl) (Nat.zero_le _) (Nat.zero_le _) dX0_copyRow_8 ?_
  refine w_cv (y := (nI (24))) (by decide) ?_
  refine va_copyi (own := "SignallingPoint$State") (index := 86) (ty := .int) hx hb (hml.trans hl.1.symm) hown (hts _ qw163) (hts _ qw165) (hts _ qw164) (hts _ qw7) hC.1 hP hD hS 19 9 0 0 rfl rfl rfl rfl rfl (by decide) (by decide) (by decide) (by decide) (by decide) (fun i _ => rfl) (Nat.le_of_ble_eq_true rfl) (by decide +kernel) dX0_copyRow_11 (fun H locs hP hD hS => ?_)
  obtain ⟨S_1, hS_1⟩ : ∃ z : Nat → Nat → Int32, z = va_up T 18 (va_cpy (S 18) (T 18) (nI (0)).toNatClampNeg (nI (0)).toNatClampNeg (nI (24)).toNatClampNeg) := ⟨_, rfl⟩
  replace hP : va_P D vwCl (stW cI h a S_1 ++ (stW cI g b S)) H := by rw [hS_1]; exact hP
  replace hD : va_D A (stW cI h a S_1 ++ (stW cI g b S)) := by rw [hS_1]; exact hD
  exact hret (S_1) _ ls _ _ (⟨fun q hq => by rw [hS_1, sup_ne hq], fun j hj => by rw [hS_1, sup_eq, show (nI (0)).toNatClampNeg = 0 from by decide, show (nI (24)).toNatClampNeg = 24 from by decide, pk_cpy_in (by omega) (by omega)]; simp⟩) hP hD hS dX0_copyRow_14

set_option maxHeartbeats 4000000 in
set_option maxRecDepth 100000 in
theorem c_X0_copyFrom (l : Launch) (D : va_G) (cI cO : ClassId) (sz : Nat) (h : Nat) (a : Nat → Nat) (T : Nat → Nat → Int32) (g : Nat) (b : Nat → Nat) (S : Nat → Nat → Int32)  : Met l yX0_copyFrom (Cond.code yX0_copyFrom cX0_copyFrom 2 none :: WL) ({ frames := 2, cells := 0, slots := 0, locals := 61 } : Room) (va_Pc [.ref (h), .ref (g)] (PW D cI cO (stW cI h a T ++ (stW cI g b S)) sz)) (va_Qv (fun (u : Nat → Nat → Int32) => CPY u S) (QB D (stW cI h a T ++ (stW cI g b S)) sz (fun (u : Nat → Nat → Int32) => stW cI h a u ++ (stW cI g b S))) (va_A (stW cI h a T ++ (stW cI g b S)) sz)) 0 0 (va_A (stW cI h a T ++ (stW cI g b S)) sz) := by
  refine wr_void (by decide) (Nat.le_of_ble_eq_true rfl) ?_
  intro p e s m args below meth c Q ls A F hP hC hD hA hret hl
  have hx := F.1
  have hb := F.2.1
  have hml := F.2.2.1
  have hown := F.2.2.2.1
  have hts := F.2.2.2.2
  replace hl : lv_has ls 2 [(0, .ref (h)), (1, .ref (g))] := hl
  have hS : va_S A s.heap s.heap [] := va_S.rf
  refine lv_aload_n hx hb dX0_copyFrom_0 rfl (lv_at hl 0 rfl) ?_
  refine lv_aload_n hx hb dX0_copyFrom_1 rfl (lv_at hl 1 rfl) ?_
  refine gt0 hx hb hts hown hC.1 hP 10 rfl 0 (by decide) qw26 rfl dX0_copyFrom_2 ?_
  refine pt0 (ty := .int) hx hb hts hown hC.1 hP hD hS 0 rfl 0 (by decide) qw26 rfl (by decide +kernel) rfl rfl (Nat.le_of_ble_eq_true rfl) dX0_copyFrom_5 (fun H locs hP hD hS => ?_)
  obtain ⟨S_1, hS_1⟩ : ∃ z : Nat → Nat → Int32, z = va_up T 0 (fun _ => (S 0 0)) := ⟨_, rfl⟩
  replace hP : va_P D vwCl (stW cI h a S_1 ++ (stW cI g b S)) H := by rw [hS_1]; exact hP
  replace hD : va_D A (stW cI h a S_1 ++ (stW cI g b S)) := by rw [hS_1]; exact hD
  refine lv_aload_n hx hb dX0_copyFrom_8 rfl (lv_at hl 0 rfl) ?_
  refine lv_aload_n hx hb dX0_copyFrom_9 rfl (lv_at hl 1 rfl) ?_
  refine gt0 hx hb hts hown hC.1 hP 10 rfl 1 (by decide) qw28 rfl dX0_copyFrom_10 ?_
  refine pt0 (ty := .int) hx hb hts hown hC.1 hP hD hS 0 rfl 1 (by decide) qw28 rfl (by decide +kernel) rfl rfl (Nat.le_of_ble_eq_true rfl) dX0_copyFrom_13 (fun H locs hP hD hS => ?_)
  obtain ⟨S_2, hS_2⟩ : ∃ z : Nat → Nat → Int32, z = va_up S_1 1 (fun _ => (S 1 0)) := ⟨_, rfl⟩
  replace hP : va_P D vwCl (stW cI h a S_2 ++ (stW cI g b S)) H := by rw [hS_2]; exact hP
  replace hD : va_D A (stW cI h a S_2 ++ (stW cI g b S)) := by rw [hS_2]; exact hD
  refine lv_aload_n hx hb dX0_copyFrom_16 rfl (lv_at hl 0 rfl) ?_
  refine lv_aload_n hx hb dX0_copyFrom_17 rfl (lv_at hl 1 rfl) ?_
  refine gt0 hx hb hts hown hC.1 hP 10 rfl 2 (by decide) qw30 rfl dX0_copyFrom_18 ?_
  refine pt0 (ty := .int) hx hb hts hown hC.1 hP hD hS 0 rfl 2 (by decide) qw30 rfl (by decide +kernel) rfl rfl (Nat.le_of_ble_eq_true rfl) dX0_copyFrom_21 (fun H locs hP hD hS => ?_)
  obtain ⟨S_3, hS_3⟩ : ∃ z : Nat → Nat → Int32, z = va_up S_2 2 (fun _ => (S 2 0)) := ⟨_, rfl⟩
  replace hP : va_P D vwCl (stW cI h a S_3 ++ (stW cI g b S)) H := by rw [hS_3]; exact hP
  replace hD : va_D A (stW cI h a S_3 ++ (stW cI g b S)) := by rw [hS_3]; exact hD
  refine lv_aload_n hx hb dX0_copyFrom_24 rfl (lv_at hl 0 rfl) ?_
  refine lv_aload_n hx hb dX0_copyFrom_25 rfl (lv_at hl 1 rfl) ?_
  refine gt0 hx hb hts hown hC.1 hP 10 rfl 3 (by decide) qw31 rfl dX0_copyFrom_26 ?_
  refine pt0 (ty := .int) hx hb hts hown hC.1 hP hD hS 0 rfl 3 (by decide) qw31 rfl (by decide +kernel) rfl rfl (Nat.le_of_ble_eq_true rfl) dX0_copyFrom_29 (fun H locs hP hD hS => ?_)
  obtain ⟨S_4, hS_4⟩ : ∃ z : Nat → Nat → Int32, z = va_up S_3 3 (fun _ => (S 3 0)) := ⟨_, rfl⟩
  replace hP : va_P D vwCl (stW cI h a S_4 ++ (stW cI g b S)) H := by rw [hS_4]; exact hP
  replace hD : va_D A (stW cI h a S_4 ++ (stW cI g b S)) := by rw [hS_4]; exact hD
  refine lv_aload_n hx hb dX0_copyFrom_32 rfl (lv_at hl 0 rfl) ?_
  refine lv_aload_n hx hb dX0_copyFrom_33 rfl (lv_at hl 1 rfl) ?_
  refine gt0 hx hb hts hown hC.1 hP 10 rfl 4 (by decide) qw33 rfl dX0_copyFrom_34 ?_
  refine pt0 (ty := .int) hx hb hts hown hC.1 hP hD hS 0 rfl 4 (by decide) qw33 rfl (by decide +kernel) rfl rfl (Nat.le_of_ble_eq_true rfl) dX0_copyFrom_37 (fun H locs hP hD hS => ?_)
  obtain ⟨S_5, hS_5⟩ : ∃ z : Nat → Nat → Int32, z = va_up S_4 4 (fun _ => (S 4 0)) := ⟨_, rfl⟩
  replace hP : va_P D vwCl (stW cI h a S_5 ++ (stW cI g b S)) H := by rw [hS_5]; exact hP
  replace hD : va_D A (stW cI h a S_5 ++ (stW cI g b S)) := by rw [hS_5]; exact hD
  refine lv_aload_n hx hb dX0_copyFrom_40 rfl (lv_at hl 0 rfl) ?_
  refine lv_aload_n hx hb dX0_copyFrom_41 rfl (lv_at hl 1 rfl) ?_
  refine gt0 hx hb hts hown hC.1 hP 10 rfl 5 (by decide) qw35 rfl dX0_copyFrom_42 ?_
  refine pt0 (ty := .int) hx hb hts hown hC.1 hP hD hS 0 rfl 5 (by decide) qw35 rfl (by decide +kernel) rfl rfl (Nat.le_of_ble_eq_true rfl) dX0_copyFrom_45 (fun H locs hP hD hS => ?_)
  obtain ⟨S_6, hS_6⟩ : ∃ z : Nat → Nat → Int32, z = va_up S_5 5 (fun _ => (S 5 0)) := ⟨_, rfl⟩
  replace hP : va_P D vwCl (stW cI h a S_6 ++ (stW cI g b S)) H := by rw [hS_6]; exact hP
  replace hD : va_D A (stW cI h a S_6 ++ (stW cI g b S)) := by rw [hS_6]; exact hD
  refine lv_aload_n hx hb dX0_copyFrom_48 rfl (lv_at hl 0 rfl) ?_
  refine lv_aload_n hx hb dX0_copyFrom_49 rfl (lv_at hl 1 rfl) ?_
  refine gt0 hx hb hts hown hC.1 hP 10 rfl 6 (by decide) qw37 rfl dX0_copyFrom_50 ?_
  refine pt0 (ty := .int) hx hb hts hown hC.1 hP hD hS 0 rfl 6 (by decide) qw37 rfl (by decide +kernel) rfl rfl (Nat.le_of_ble_eq_true rfl) dX0_copyFrom_53 (fun H locs hP hD hS => ?_)
  obtain ⟨S_7, hS_7⟩ : ∃ z : Nat → Nat → Int32, z = va_up S_6 6 (fun _ => (S 6 0)) := ⟨_, rfl⟩
  replace hP : va_P D vwCl (stW cI h a S_7 ++ (stW cI g b S)) H := by rw [hS_7]; exact hP
  replace hD : va_D A (stW cI h a S_7 ++ (stW cI g b S)) := by rw [hS_7]; exact hD
  refine lv_aload_n hx hb dX0_copyFrom_56 rfl (lv_at hl 0 rfl) ?_
  refine lv_aload_n hx hb dX0_copyFrom_57 rfl (lv_at hl 1 rfl) ?_
  refine gt0 hx hb hts hown hC.1 hP 10 rfl 7 (by decide) qw39 rfl dX0_copyFrom_58 ?_
  refine pt0 (ty := .int) hx hb hts hown hC.1 hP hD hS 0 rfl 7 (by decide) qw39 rfl (by decide +kernel) rfl rfl (Nat.le_of_ble_eq_true rfl) dX0_copyFrom_61 (fun H locs hP hD hS => ?_)
  obtain ⟨S_8, hS_8⟩ : ∃ z : Nat → Nat → Int32, z = va_up S_7 7 (fun _ => (S 7 0)) := ⟨_, rfl⟩
  replace hP : va_P D vwCl (stW cI h a S_8 ++ (stW cI g b S)) H := by rw [hS_8]; exact hP
  replace hD : va_D A (stW cI h a S_8 ++ (stW cI g b S)) := by rw [hS_8]; exact hD
  refine lv_aload_n hx hb dX0_copyFrom_64 rfl (lv_at hl 0 rfl) ?_
  refine lv_aload_n hx hb dX0_copyFrom_65 rfl (lv_at hl 1 rfl) ?_
  refine gt0 hx hb hts hown hC.1 hP 10 rfl 8 (by decide) qw42 rfl dX0_copyFrom_66 ?_
  refine pt0 (ty := .int) hx hb hts hown hC.1 hP hD hS 0 rfl 8 (by decide) qw42 rfl (by decide +kernel) rfl rfl (Nat.le_of_ble_eq_true rfl) dX0_copyFrom_69 (fun H locs hP hD hS => ?_)
  obtain ⟨S_9, hS_9⟩ : ∃ z : Nat → Nat → Int32, z = va_up S_8 8 (fun _ => (S 8 0)) := ⟨_, rfl⟩
  replace hP : va_P D vwCl (stW cI h a S_9 ++ (stW cI g b S)) H := by rw [hS_9]; exact hP
  replace hD : va_D A (stW cI h a S_9 ++ (stW cI g b S)) := by rw [hS_9]; exact hD
  refine lv_aload_n hx hb dX0_copyFrom_72 rfl (lv_at hl 0 rfl) ?_
  refine lv_aload_n hx hb dX0_copyFrom_73 rfl (lv_at hl 1 rfl) ?_
  refine gt0 hx hb hts hown hC.1 hP 10 rfl 9 (by decide) qw43 rfl dX0_copyFrom_74 ?_
  refine pt0 (ty := .int) hx hb hts hown hC.1 hP hD hS 0 rfl 9 (by decide) qw43 rfl (by decide +kernel) rfl rfl (Nat.le_of_ble_eq_true rfl) dX0_copyFrom_77 (fun H locs hP hD hS => ?_)
  obtain ⟨S_10, hS_10⟩ : ∃ z : Nat → Nat → Int32, z = va_up S_9 9 (fun _ => (S 9 0)) := ⟨_, rfl⟩
  replace hP : va_P D vwCl (stW cI h a S_10 ++ (stW cI g b S)) H := by rw [hS_10]; exact hP
  replace hD : va_D A (stW cI h a S_10 ++ (stW cI g b S)) := by rw [hS_10]; exact hD
  refine lv_aload_n hx hb dX0_copyFrom_80 rfl (lv_at hl 1 rfl) ?_
  refine gt0 hx hb hts hown hC.1 hP 10 rfl 10 (by decide) qw45 rfl dX0_copyFrom_81 ?_
  refine lv_aload_n hx hb dX0_copyFrom_84 rfl (lv_at hl 0 rfl) ?_
  refine gt0 hx hb hts hown hC.1 hP 0 rfl 10 (by decide) qw45 rfl dX0_copyFrom_85 ?_
  refine goWv (pre := []) (wc := stW cI h a S_10 ++ (stW cI g b S)) (suf := []) (kS (As := [.ref (b 0), .ref (a 0)]) (rest := []) F (c_copyRow_0 l D cI cO _ h a S_10 g b S) ywX0_copyRow qw157 qw158  ⟨rfl, rfl⟩ ⟨Nat.le_of_ble_eq_true rfl, Nat.le_of_ble_eq_true rfl⟩ (preW hP hC hD) rfl hl.1 rfl (Nat.le_of_ble_eq_true rfl) dX0_copyFrom_88 ⟨Nat.zero_le _, Nat.zero_le _⟩) (by simpa only [List.append_assoc, List.nil_append, List.append_nil] using hP) (by simpa only [List.append_assoc, List.nil_append, List.append_nil] using hD) hS hA (fun T_1 H locs h_88 hP hD hS => ?_)
  replace hP : va_P D vwCl (stW cI h a T_1 ++ (stW cI g b S)) H := by simpa only [List.append_assoc, List.nil_append, List.append_nil] using hP
  replace hD : va_D A (stW cI h a T_1 ++ (stW cI g b S)) := by simpa only [List.append_assoc, List.nil_append, List.append_nil] using hD
  obtain ⟨hA_88, hB_88⟩ := h_88
  refine lv_aload_n hx hb dX0_copyFrom_91 rfl (lv_at hl 1 rfl) ?_
  refine gt0 hx hb hts hown hC.1 hP 10 rfl 11 (by decide) qw46 rfl dX0_copyFrom_92 ?_
  refine lv_aload_n hx hb dX0_copyFrom_95 rfl (lv_at hl 0 rfl) ?_
  refine gt0 hx hb hts hown hC.1 hP 0 rfl 11 (by decide) qw46 rfl dX0_copyFrom_96 ?_
  refine goWv (pre := []) (wc := stW cI h a T_1 ++ (stW cI g b S)) (suf := []) (kS (As := [.ref (b 1), .ref (a 1)]) (rest := []) F (c_copyRow_1 l D cI cO _ h a T_1 g b S) ywX0_copyRow qw157 qw158  ⟨rfl, rfl⟩ ⟨Nat.le_of_ble_eq_true rfl, Nat.le_of_ble_eq_true rfl⟩ (preW hP hC hD) rfl hl.1 rfl (Nat.le_of_ble_eq_true rfl) dX0_copyFrom_99 ⟨Nat.zero_le _, Nat.zero_le _⟩) (by simpa only [List.append_assoc, List.nil_append, List.append_nil] using hP) (by simpa only [List.append_assoc, List.nil_append, List.append_nil] using hD) hS hA (fun T_2 H locs h_99 hP hD hS => ?_)
  replace hP : va_P D vwCl (stW cI h a T_2 ++ (stW cI g b S)) H := by simpa only [List.append_assoc, List.nil_append, List.append_nil] using hP
  replace hD : va_D A (stW cI h a T_2 ++ (stW cI g b S)) := by simpa only [List.append_assoc, List.nil_append, List.append_nil] using hD
  obtain ⟨hA_99, hB_99⟩ := h_99
  refine lv_aload_n hx hb dX0_copyFrom_102 rfl (lv_at hl 1 rfl) ?_
  refine gt0 hx hb hts hown hC.1 hP 10 rfl 12 (by decide) qw47 rfl dX0_copyFrom_103 ?_
  refine lv_aload_n hx hb dX0_copyFrom_106 rfl (lv_at hl 0 rfl) ?_
  refine gt0 hx hb hts hown hC.1 hP 0 rfl 12 (by decide) qw47 rfl dX0_copyFrom_107 ?_
  refine goWv (pre := []) (wc := stW cI h a T_2 ++ (stW cI g b S)) (suf := []) (kS (As := [.ref (b 2), .ref (a 2)]) (rest := []) F (c_copyRow_2 l D cI cO _ h a T_2 g b S) ywX0_copyRow qw157 qw158  ⟨rfl, rfl⟩ ⟨Nat.le_of_ble_eq_true rfl, Nat.le_of_ble_eq_true rfl⟩ (preW hP hC hD) rfl hl.1 rfl (Nat.le_of_ble_eq_true rfl) dX0_copyFrom_110 ⟨Nat.zero_le _, Nat.zero_le _⟩) (by simpa only [List.append_assoc, List.nil_append, List.append_nil] using hP) (by simpa only [List.append_assoc, List.nil_append, List.append_nil] using hD) hS hA (fun T_3 H locs h_110 hP hD hS => ?_)
  replace hP : va_P D vwCl (stW cI h a T_3 ++ (stW cI g b S)) H := by simpa only [List.append_assoc, List.nil_append, List.append_nil] using hP
  replace hD : va_D A (stW cI h a T_3 ++ (stW cI g b S)) := by simpa only [List.append_assoc, List.nil_append, List.append_nil] using hD
  obtain ⟨hA_110, hB_110⟩ := h_110
  refine lv_aload_n hx hb dX0_copyFrom_113 rfl (lv_at hl 1 rfl) ?_
  refine gt0 hx hb hts hown hC.1 hP 10 rfl 13 (by decide) qw49 rfl dX0_copyFrom_114 ?_
  refine lv_aload_n hx hb dX0_copyFrom_117 rfl (lv_at hl 0 rfl) ?_
  refine gt0 hx hb hts hown hC.1 hP 0 rfl 13 (by decide) qw49 rfl dX0_copyFrom_118 ?_
  refine goWv (pre := []) (wc := stW cI h a T_3 ++ (stW cI g b S)) (suf := []) (kS (As := [.ref (b 3), .ref (a 3)]) (rest := []) F (c_copyRow_3 l D cI cO _ h a T_3 g b S) ywX0_copyRow qw157 qw158  ⟨rfl, rfl⟩ ⟨Nat.le_of_ble_eq_true rfl, Nat.le_of_ble_eq_true rfl⟩ (preW hP hC hD) rfl hl.1 rfl (Nat.le_of_ble_eq_true rfl) dX0_copyFrom_121 ⟨Nat.zero_le _, Nat.zero_le _⟩) (by simpa only [List.append_assoc, List.nil_append, List.append_nil] using hP) (by simpa only [List.append_assoc, List.nil_append, List.append_nil] using hD) hS hA (fun T_4 H locs h_121 hP hD hS => ?_)
  replace hP : va_P D vwCl (stW cI h a T_4 ++ (stW cI g b S)) H := by simpa only [List.append_assoc, List.nil_append, List.append_nil] using hP
  replace hD : va_D A (stW cI h a T_4 ++ (stW cI g b S)) := by simpa only [List.append_assoc, List.nil_append, List.append_nil] using hD
  obtain ⟨hA_121, hB_121⟩ := h_121
  refine lv_aload_n hx hb dX0_copyFrom_124 rfl (lv_at hl 1 rfl) ?_
  refine gt0 hx hb hts hown hC.1 hP 10 rfl 14 (by decide) qw51 rfl dX0_copyFrom_125 ?_
  refine lv_aload_n hx hb dX0_copyFrom_128 rfl (lv_at hl 0 rfl) ?_
  refine gt0 hx hb hts hown hC.1 hP 0 rfl 14 (by decide) qw51 rfl dX0_copyFrom_129 ?_
  refine goWv (pre := []) (wc := stW cI h a T_4 ++ (stW cI g b S)) (suf := []) (kS (As := [.ref (b 4), .ref (a 4)]) (rest := []) F (c_copyRow_4 l D cI cO _ h a T_4 g b S) ywX0_copyRow qw157 qw158  ⟨rfl, rfl⟩ ⟨Nat.le_of_ble_eq_true rfl, Nat.le_of_ble_eq_true rfl⟩ (preW hP hC hD) rfl hl.1 rfl (Nat.le_of_ble_eq_true rfl) dX0_copyFrom_132 ⟨Nat.zero_le _, Nat.zero_le _⟩) (by simpa only [List.append_assoc, List.nil_append, List.append_nil] using hP) (by simpa only [List.append_assoc, List.nil_append, List.append_nil] using hD) hS hA (fun T_5 H locs h_132 hP hD hS => ?_)
  replace hP : va_P D vwCl (stW cI h a T_5 ++ (stW cI g b S)) H := by simpa only [List.append_assoc, List.nil_append, List.append_nil] using hP
  replace hD : va_D A (stW cI h a T_5 ++ (stW cI g b S)) := by simpa only [List.append_assoc, List.nil_append, List.append_nil] using hD
  obtain ⟨hA_132, hB_132⟩ := h_132
  refine lv_aload_n hx hb dX0_copyFrom_135 rfl (lv_at hl 1 rfl) ?_
  refine gt0 hx hb hts hown hC.1 hP 10 rfl 15 (by decide) qw53 rfl dX0_copyFrom_136 ?_
  refine lv_aload_n hx hb dX0_copyFrom_139 rfl (lv_at hl 0 rfl) ?_
  refine gt0 hx hb hts hown hC.1 hP 0 rfl 15 (by decide) qw53 rfl dX0_copyFrom_140 ?_
  refine goWv (pre := []) (wc := stW cI h a T_5 ++ (stW cI g b S)) (suf := []) (kS (As := [.ref (b 5), .ref (a 5)]) (rest := []) F (c_copyRow_5 l D cI cO _ h a T_5 g b S) ywX0_copyRow qw157 qw158  ⟨rfl, rfl⟩ ⟨Nat.le_of_ble_eq_true rfl, Nat.le_of_ble_eq_true rfl⟩ (preW hP hC hD) rfl hl.1 rfl (Nat.le_of_ble_eq_true rfl) dX0_copyFrom_143 ⟨Nat.zero_le _, Nat.zero_le _⟩) (by simpa only [List.append_assoc, List.nil_append, List.append_nil] using hP) (by simpa only [List.append_assoc, List.nil_append, List.append_nil] using hD) hS hA (fun T_6 H locs h_143 hP hD hS => ?_)
  replace hP : va_P D vwCl (stW cI h a T_6 ++ (stW cI g b S)) H := by simpa only [List.append_assoc, List.nil_append, List.append_nil] using hP
  replace hD : va_D A (stW cI h a T_6 ++ (stW cI g b S)) := by simpa only [List.append_assoc, List.nil_append, List.append_nil] using hD
  obtain ⟨hA_143, hB_143⟩ := h_143
  refine lv_aload_n hx hb dX0_copyFrom_146 rfl (lv_at hl 1 rfl) ?_
  refine gt0 hx hb hts hown hC.1 hP 10 rfl 16 (by decide) qw55 rfl dX0_copyFrom_147 ?_
  refine lv_aload_n hx hb dX0_copyFrom_150 rfl (lv_at hl 0 rfl) ?_
  refine gt0 hx hb hts hown hC.1 hP 0 rfl 16 (by decide) qw55 rfl dX0_copyFrom_151 ?_
  refine goWv (pre := []) (wc := stW cI h a T_6 ++ (stW cI g b S)) (suf := []) (kS (As := [.ref (b 6), .ref (a 6)]) (rest := []) F (c_copyRow_6 l D cI cO _ h a T_6 g b S) ywX0_copyRow qw157 qw158  ⟨rfl, rfl⟩ ⟨Nat.le_of_ble_eq_true rfl, Nat.le_of_ble_eq_true rfl⟩ (preW hP hC hD) rfl hl.1 rfl (Nat.le_of_ble_eq_true rfl) dX0_copyFrom_154 ⟨Nat.zero_le _, Nat.zero_le _⟩) (by simpa only [List.append_assoc, List.nil_append, List.append_nil] using hP) (by simpa only [List.append_assoc, List.nil_append, List.append_nil] using hD) hS hA (fun T_7 H locs h_154 hP hD hS => ?_)
  replace hP : va_P D vwCl (stW cI h a T_7 ++ (stW cI g b S)) H := by simpa only [List.append_assoc, List.nil_append, List.append_nil] using hP
  replace hD : va_D A (stW cI h a T_7 ++ (stW cI g b S)) := by simpa only [List.append_assoc, List.nil_append, List.append_nil] using hD
  obtain ⟨hA_154, hB_154⟩ := h_154
  refine lv_aload_n hx hb dX0_copyFrom_157 rfl (lv_at hl 1 rfl) ?_
  refine gt0 hx hb hts hown hC.1 hP 10 rfl 17 (by decide) qw56 rfl dX0_copyFrom_158 ?_
  refine lv_aload_n hx hb dX0_copyFrom_161 rfl (lv_at hl 0 rfl) ?_
  refine gt0 hx hb hts hown hC.1 hP 0 rfl 17 (by decide) qw56 rfl dX0_copyFrom_162 ?_
  refine goWv (pre := []) (wc := stW cI h a T_7 ++ (stW cI g b S)) (suf := []) (kS (As := [.ref (b 7), .ref (a 7)]) (rest := []) F (c_copyRow_7 l D cI cO _ h a T_7 g b S) ywX0_copyRow qw157 qw158  ⟨rfl, rfl⟩ ⟨Nat.le_of_ble_eq_true rfl, Nat.le_of_ble_eq_true rfl⟩ (preW hP hC hD) rfl hl.1 rfl (Nat.le_of_ble_eq_true rfl) dX0_copyFrom_165 ⟨Nat.zero_le _, Nat.zero_le _⟩) (by simpa only [List.append_assoc, List.nil_append, List.append_nil] using hP) (by simpa only [List.append_assoc, List.nil_append, List.append_nil] using hD) hS hA (fun T_8 H locs h_165 hP hD hS => ?_)
  replace hP : va_P D vwCl (stW cI h a T_8 ++ (stW cI g b S)) H := by simpa only [List.append_assoc, List.nil_append, List.append_nil] using hP
  replace hD : va_D A (stW cI h a T_8 ++ (stW cI g b S)) := by simpa only [List.append_assoc, List.nil_append, List.append_nil] using hD
  obtain ⟨hA_165, hB_165⟩ := h_165
  refine lv_aload_n hx hb dX0_copyFrom_168 rfl (lv_at hl 1 rfl) ?_
  refine gt0 hx hb hts hown hC.1 hP 10 rfl 18 (by decide) qw57 rfl dX0_copyFrom_169 ?_
  refine lv_aload_n hx hb dX0_copyFrom_172 rfl (lv_at hl 0 rfl) ?_
  refine gt0 hx hb hts hown hC.1 hP 0 rfl 18 (by decide) qw57 rfl dX0_copyFrom_173 ?_
  refine goWv (pre := []) (wc := stW cI h a T_8 ++ (stW cI g b S)) (suf := []) (kS (As := [.ref (b 8), .ref (a 8)]) (rest := []) F (c_copyRow_8 l D cI cO _ h a T_8 g b S) ywX0_copyRow qw157 qw158  ⟨rfl, rfl⟩ ⟨Nat.le_of_ble_eq_true rfl, Nat.le_of_ble_eq_true rfl⟩ (preW hP hC hD) rfl hl.1 rfl (Nat.le_of_ble_eq_true rfl) dX0_copyFrom_176 ⟨Nat.zero_le _, Nat.zero_le _⟩) (by simpa only [List.append_assoc, List.nil_append, List.append_nil] using hP) (by simpa only [List.append_assoc, List.nil_append, List.append_nil] using hD) hS hA (fun T_9 H locs h_176 hP hD hS => ?_)
  replace hP : va_P D vwCl (stW cI h a T_9 ++ (stW cI g b S)) H := by simpa only [List.append_assoc, List.nil_append, List.append_nil] using hP
  replace hD : va_D A (stW cI h a T_9 ++ (stW cI g b S)) := by simpa only [List.append_assoc, List.nil_append, List.append_nil] using hD
  obtain ⟨hA_176, hB_176⟩ := h_176
  exact hret (T_9) _ ls _ _ (by
      intro q hq j hj
      rcases (show q = 0 ∨ q = 1 ∨ q = 2 ∨ q = 3 ∨ q = 4 ∨ q = 5 ∨ q = 6 ∨ q = 7 ∨ q = 8 ∨ q = 9 ∨ q = 10 ∨ q = 11 ∨ q = 12 ∨ q = 13 ∨ q = 14 ∨ q = 15 ∨ q = 16 ∨ q = 17 ∨ q = 18 by omega) with rfl | rfl | rfl | rfl | rfl | rfl | rfl | rfl | rfl | rfl | rfl | rfl | rfl | rfl | rfl | rfl | rfl | rfl | rfl
      · rw [hA_176 0 (by decide), hA_165 0 (by decide), hA_154 0 (by decide), hA_143 0 (by decide), hA_132 0 (by decide), hA_121 0 (by decide), hA_110 0 (by decide), hA_99 0 (by decide), hA_88 0 (by decide), hS_10, sup_ne (by decide), hS_9, sup_ne (by decide), hS_8, sup_ne (by decide), hS_7, sup_ne (by decide), hS_6, sup_ne (by decide), hS_5, sup_ne (by decide), hS_4, sup_ne (by decide), hS_3, sup_ne (by decide), hS_2, sup_ne (by decide), hS_1, sup_eq]; have e9 : j = 0 := Nat.lt_one_iff.mp hj; rw [e9]
      · rw [hA_176 1 (by decide), hA_165 1 (by decide), hA_154 1 (by decide), hA_143 1 (by decide), hA_132 1 (by decide), hA_121 1 (by decide), hA_110 1 (by decide), hA_99 1 (by decide), hA_88 1 (by decide), hS_10, sup_ne (by decide), hS_9, sup_ne (by decide), hS_8, sup_ne (by decide), hS_7, sup_ne (by decide), hS_6, sup_ne (by decide), hS_5, sup_ne (by decide), hS_4, sup_ne (by decide), hS_3, sup_ne (by decide), hS_2, sup_eq]; have e9 : j = 0 := Nat.lt_one_iff.mp hj; rw [e9]
      · rw [hA_176 2 (by decide), hA_165 2 (by decide), hA_154 2 (by decide), hA_143 2 (by decide), hA_132 2 (by decide), hA_121 2 (by decide), hA_110 2 (by decide), hA_99 2 (by decide), hA_88 2 (by decide), hS_10, sup_ne (by decide), hS_9, sup_ne (by decide), hS_8, sup_ne (by decide), hS_7, sup_ne (by decide), hS_6, sup_ne (by decide), hS_5, sup_ne (by decide), hS_4, sup_ne (by decide), hS_3, sup_eq]; have e9 : j = 0 := Nat.lt_one_iff.mp hj; rw [e9]
      · rw [hA_176 3 (by decide), hA_165 3 (by decide), hA_154 3 (by decide), hA_143 3 (by decide), hA_132 3 (by decide), hA_121 3 (by decide), hA_110 3 (by decide), hA_99 3 (by decide), hA_88 3 (by decide), hS_10, sup_ne (by decide), hS_9, sup_ne (by decide), hS_8, sup_ne (by decide), hS_7, sup_ne (by decide), hS_6, sup_ne (by decide), hS_5, sup_ne (by decide), hS_4, sup_eq]; have e9 : j = 0 := Nat.lt_one_iff.mp hj; rw [e9]
      · rw [hA_176 4 (by decide), hA_165 4 (by decide), hA_154 4 (by decide), hA_143 4 (by decide), hA_132 4 (by decide), hA_121 4 (by decide), hA_110 4 (by decide), hA_99 4 (by decide), hA_88 4 (by decide), hS_10, sup_ne (by decide), hS_9, sup_ne (by decide), hS_8, sup_ne (by decide), hS_7, sup_ne (by decide), hS_6, sup_ne (by decide), hS_5, sup_eq]; have e9 : j = 0 := Nat.lt_one_iff.mp hj; rw [e9]
      · rw [hA_176 5 (by decide), hA_165 5 (by decide), hA_154 5 (by decide), hA_143 5 (by decide), hA_132 5 (by decide), hA_121 5 (by decide), hA_110 5 (by decide), hA_99 5 (by decide), hA_88 5 (by decide), hS_10, sup_ne (by decide), hS_9, sup_ne (by decide), hS_8, sup_ne (by decide), hS_7, sup_ne (by decide), hS_6, sup_eq]; have e9 : j = 0 := Nat.lt_one_iff.mp hj; rw [e9]
      · rw [hA_176 6 (by decide), hA_165 6 (by decide), hA_154 6 (by decide), hA_143 6 (by decide), hA_132 6 (by decide), hA_121 6 (by decide), hA_110 6 (by decide), hA_99 6 (by decide), hA_88 6 (by decide), hS_10, sup_ne (by decide), hS_9, sup_ne (by decide), hS_8, sup_ne (by decide), hS_7, sup_eq]; have e9 : j = 0 := Nat.lt_one_iff.mp hj; rw [e9]
      · rw [hA_176 7 (by decide), hA_165 7 (by decide), hA_154 7 (by decide), hA_143 7 (by decide), hA_132 7 (by decide), hA_121 7 (by decide), hA_110 7 (by decide), hA_99 7 (by decide), hA_88 7 (by decide), hS_10, sup_ne (by decide), hS_9, sup_ne (by decide), hS_8, sup_eq]; have e9 : j = 0 := Nat.lt_one_iff.mp hj; rw [e9]
      · rw [hA_176 8 (by decide), hA_165 8 (by decide), hA_154 8 (by decide), hA_143 8 (by decide), hA_132 8 (by decide), hA_121 8 (by decide), hA_110 8 (by decide), hA_99 8 (by decide), hA_88 8 (by decide), hS_10, sup_ne (by decide), hS_9, sup_eq]; have e9 : j = 0 := Nat.lt_one_iff.mp hj; rw [e9]
      · rw [hA_176 9 (by decide), hA_165 9 (by decide), hA_154 9 (by decide), hA_143 9 (by decide), hA_132 9 (by decide), hA_121 9 (by decide), hA_110 9 (by decide), hA_99 9 (by decide), hA_88 9 (by decide), hS_10, sup_eq]; have e9 : j = 0 := Nat.lt_one_iff.mp hj; rw [e9]
      · rw [hA_176 10 (by decide), hA_165 10 (by decide), hA_154 10 (by decide), hA_143 10 (by decide), hA_132 10 (by decide), hA_121 10 (by decide), hA_110 10 (by decide), hA_99 10 (by decide)]; exact hB_88 j hj
      · rw [hA_176 11 (by decide), hA_165 11 (by decide), hA_154 11 (by decide), hA_143 11 (by decide), hA_132 11 (by decide), hA_121 11 (by decide), hA_110 11 (by decide)]; exact hB_99 j hj
      · rw [hA_176 12 (by decide), hA_165 12 (by decide), hA_154 12 (by decide), hA_143 12 (by decide), hA_132 12 (by decide), hA_121 12 (by decide)]; exact hB_110 j hj
      · rw [hA_176 13 (by decide), hA_165 13 (by decide), hA_154 13 (by decide), hA_143 13 (by decide), hA_132 13 (by decide)]; exact hB_121 j hj
      · rw [hA_176 14 (by decide), hA_165 14 (by decide), hA_154 14 (by decide), hA_143 14 (by decide)]; exact hB_132 j hj
      · rw [hA_176 15 (by decide), hA_165 15 (by decide), hA_154 15 (by decide)]; exact hB_143 j hj
      · rw [hA_176 16 (by decide), hA_165 16 (by decide)]; exact hB_154 j hj
      · rw [hA_176 17 (by decide)]; exact hB_165 j hj
      · exact hB_176 j hj
    ) hP hD hS dX0_copyFrom_179
