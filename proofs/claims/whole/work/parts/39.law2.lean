section LC
variable {p : Program} {l : Launch} {e : Env} {s : State} {m : MethodId} {args : Array Value} {below : List Frame} {meth : Method} {c : Code} {Q : State → Prop} {D : va_G} {cI cO : ClassId} {A : Nat → Prop} {b L : Nat} {xs : Nat → Int32} {o us rg : Nat} {g : Nat → Nat} {ga : Nat → Nat → Nat} {h : Nat} {a : Nat → Nat} {lb hm : Nat} {bm : Nat → Nat} {c0 j : Nat} {u : CV} {v : MV} {H : Heap} {locs : List Loc} {ls : Array Slot}
set_option maxHeartbeats 4000000 in
set_option maxRecDepth 100000 in
theorem lc_10 (F : CallFix p m c cL_law 4 s args WL RL) (hC : CT D cI cO s) (hA : ∀ q, s.heap.size ≤ q → A q) (hX : va_X b L xs s s.heap) (hbl : b < s.heap.size) (hbA : ¬ A b) (hc9 : c0 < 900) (hj : j + 4 ≤ L) (hL : L ≤ 2048) (hF : RF c0 u v) (hP : va_P D vwCl (cvU cI cO o us rg g ga h a lb u ++ mdU cI hm bm v) H) (hD : va_D A (cvU cI cO o us rg g ga h a lb u ++ mdU cI hm bm v)) (hS : va_S A s.heap H locs) (hl : lv_has ls 4 [(0, .ref b), (1, .ref o), (2, .ref hm), (3, .int (nI j))]) (K : ∀ (u : CV) (v : MV) (H : Heap) (locs : List Loc) (ls : Array Slot), RF (c0 + 1) u v → va_P D vwCl (cvU cI cO o us rg g ga h a lb u ++ mdU cI hm bm v) H → va_D A (cvU cI cO o us rg g ga h a lb u ++ mdU cI hm bm v) → va_S A s.heap H locs → lv_has ls 4 [(0, .ref b), (1, .ref o), (2, .ref hm), (3, .int (nI j))] → W p l e room_1 s m args below meth c H locs 600000 7302250 Q (F0 m 922 ls [])) : W p l e room_1 s m args below meth c H locs 600000 7302250 Q (F0 m 514 ls []) := by
  have hx := F.1
  have hb := F.2.1
  have hown := F.2.2.2.1
  obtain ⟨⟨e0, e1, e2⟩, S, B, nx, sz, G⟩ := u
  obtain ⟨w, past, er, bf, tk, sv, hs⟩ := v
  have hF0 := hF
  obtain ⟨x, n, hx4, hn4, hnx, hsz, hsv, he, hR, hG⟩ := hF
  replace hnx : nx = nI x := hnx
  replace hsz : sz = nI n := hsz
  replace hsv : sv = nI n := hsv
  subst hnx
  subst hsz
  subst hsv
  replace he : er 0 = e0 ∧ er 1 = e1 ∧ er 2 = e2 := he
  replace hR : RC c0 S w := hR
  replace hG : ∀ i, i < n → RC c0 (G ((x + 4 - n + i) % 4)) (fun k => past (470 * i + k)) := hG
  replace hP : va_P D vwCl (([(o, .inr (2, [.ref (h), .ref (us), .ref (lb), .int e0, .int e1, .int e2]))] ++ (usS cI cO us rg g ga ((nI (x))) ((nI (n))) G ++ (stW cI h a S ++ ([(lb, .inl (cI, 96, .inl B))])))) ++ mdU cI hm bm (w, past, er, bf, tk, nI n, hs)) H := hP
  replace hD : va_D A (([(o, .inr (2, [.ref (h), .ref (us), .ref (lb), .int e0, .int e1, .int e2]))] ++ (usS cI cO us rg g ga ((nI (x))) ((nI (n))) G ++ (stW cI h a S ++ ([(lb, .inl (cI, 96, .inl B))])))) ++ mdU cI hm bm (w, past, er, bf, tk, nI n, hs)) := hD
  refine lv_aload_n hx hb dL_law_514 rfl (lv_at hl 1 rfl) ?_
  refine lv_aload_n hx hb dL_law_515 rfl (lv_at hl 0 rfl) ?_
  refine lv_iload_n hx hb dL_law_516 rfl (lv_at hl 3 rfl) ?_
  refine lv_iconst (v := (nI (1))) hx hb dL_law_517 (by decide) ?_
  refine n_iadd hx hb dL_law_518 ?_
  refine va_sld hx hb hX hbl hbA hS (vp_in_nI (by omega) (by omega)) dL_law_519 ?_
  refine w_cv (y := xs (j + 1)) (congrArg xs (nI_clamp (by omega))) ?_
  refine lv_aload_n hx hb dL_law_520 rfl (lv_at hl 0 rfl) ?_
  refine lv_iload_n hx hb dL_law_521 rfl (lv_at hl 3 rfl) ?_
  refine lv_iconst (v := (nI (2))) hx hb dL_law_522 (by decide) ?_
  refine n_iadd hx hb dL_law_523 ?_
  refine va_sld hx hb hX hbl hbA hS (vp_in_nI (by omega) (by omega)) dL_law_524 ?_
  refine w_cv (y := xs (j + 2)) (congrArg xs (nI_clamp (by omega))) ?_
  refine lv_aload_n hx hb dL_law_525 rfl (lv_at hl 0 rfl) ?_
  refine lv_iload_n hx hb dL_law_526 rfl (lv_at hl 3 rfl) ?_
  refine lv_iconst (v := (nI (3))) hx hb dL_law_527 (by decide) ?_
  refine n_iadd hx hb dL_law_528 ?_
  refine va_sld hx hb hX hbl hbA hS (vp_in_nI (by omega) (by omega)) dL_law_529 ?_
  refine w_cv (y := xs (j + 3)) (congrArg xs (nI_clamp (by omega))) ?_
  have hPc := va_pl0 hP
  have hDc := va_dl hD
  refine goWi (pre := []) (wc := [(o, .inr (2, [.ref (h), .ref (us), .ref (lb), .int e0, .int e1, .int e2]))] ++ (usS cI cO us rg g ga ((nI (x))) ((nI (n))) G ++ (stW cI h a S ++ ([(lb, .inl (cI, 96, .inl B))])))) (suf := mdU cI hm bm (w, past, er, bf, tk, nI n, hs)) (kV (As := [.int (xs (j + 1)), .int (xs (j + 2)), .int (xs (j + 3))]) (rest := []) F (c_X2_setRouteState l D cI cO _ o us rg g ga h a lb e0 e1 e2 G S B w c0 hR x n hx4 hn4 hc9 (xs (j + 1)) (xs (j + 2)) (xs (j + 3))) ywX2_setRouteState qw308 qw309 qw310 ⟨rfl, rfl⟩ ⟨Nat.le_of_ble_eq_true rfl, Nat.le_of_ble_eq_true rfl⟩ (preV (preW hPc hC hDc) hC hPc (ci := 2) (q0 := 0) rfl rfl rfl) rfl hl.1 rfl (Nat.le_of_ble_eq_true rfl) dL_law_530 ⟨Nat.le_refl _, Nat.le_refl _⟩) (by rw [List.nil_append]; exact hP) (by rw [List.nil_append]; exact hD) hS hA (fun r1 u1 H locs h1 hP hD hS => ?_)
  replace hP : va_P D vwCl (cvU cI cO o us rg g ga h a lb u1 ++ mdW cI hm bm w past er bf tk (nI n) hs) H := hP
  replace hD : va_D A (cvU cI cO o us rg g ga h a lb u1 ++ mdW cI hm bm w past er bf tk (nI n) hs) := hD
  refine lv_aload_n hx hb dL_law_533 rfl (lv_at hl 2 rfl) ?_
  refine lv_aload_n hx hb dL_law_534 rfl (lv_at hl 0 rfl) ?_
  refine lv_iload_n hx hb dL_law_535 rfl (lv_at hl 3 rfl) ?_
  refine lv_iconst (v := (nI (1))) hx hb dL_law_536 (by decide) ?_
  refine n_iadd hx hb dL_law_537 ?_
  refine va_sld hx hb hX hbl hbA hS (vp_in_nI (by omega) (by omega)) dL_law_538 ?_
  refine w_cv (y := xs (j + 1)) (congrArg xs (nI_clamp (by omega))) ?_
  refine lv_aload_n hx hb dL_law_539 rfl (lv_at hl 0 rfl) ?_
  refine lv_iload_n hx hb dL_law_540 rfl (lv_at hl 3 rfl) ?_
  refine lv_iconst (v := (nI (2))) hx hb dL_law_541 (by decide) ?_
  refine n_iadd hx hb dL_law_542 ?_
  refine va_sld hx hb hX hbl hbA hS (vp_in_nI (by omega) (by omega)) dL_law_543 ?_
  refine w_cv (y := xs (j + 2)) (congrArg xs (nI_clamp (by omega))) ?_
  refine lv_aload_n hx hb dL_law_544 rfl (lv_at hl 0 rfl) ?_
  refine lv_iload_n hx hb dL_law_545 rfl (lv_at hl 3 rfl) ?_
  refine lv_iconst (v := (nI (3))) hx hb dL_law_546 (by decide) ?_
  refine n_iadd hx hb dL_law_547 ?_
  refine va_sld hx hb hX hbl hbA hS (vp_in_nI (by omega) (by omega)) dL_law_548 ?_
  refine w_cv (y := xs (j + 3)) (congrArg xs (nI_clamp (by omega))) ?_
  have hPm := va_pr0 hP
  have hDm := va_dr hD
  refine goWi (pre := cvU cI cO o us rg g ga h a lb u1) (wc := mdW cI hm bm w past er bf tk (nI n) hs) (suf := []) (kV (As := [.int (xs (j + 1)), .int (xs (j + 2)), .int (xs (j + 3))]) (rest := [.int r1]) F (c_X3_setRouteState l D cI cO _ hm bm w past er bf tk (nI n) hs c0 hR.wf n hc9 hn4 rfl (xs (j + 1)) (xs (j + 2)) (xs (j + 3))) ywX3_setRouteState qw583 qw584 qw585 ⟨rfl, rfl⟩ ⟨Nat.le_of_ble_eq_true rfl, Nat.le_of_ble_eq_true rfl⟩ (preV (preW hPm hC hDm) hC hPm (ci := 3) (q0 := 0) rfl rfl rfl) rfl hl.1 rfl (Nat.le_of_ble_eq_true rfl) dL_law_549 ⟨Nat.le_refl _, Nat.le_refl _⟩) (by rw [List.append_nil]; exact hP) (by rw [List.append_nil]; exact hD) hS hA (fun r2 v1 H locs h2 hP hD hS => ?_)
  rw [List.append_nil] at hP hD
  replace hP : va_P D vwCl (cvU cI cO o us rg g ga h a lb u1 ++ mdU cI hm bm v1) H := hP
  replace hD : va_D A (cvU cI cO o us rg g ga h a lb u1 ++ mdU cI hm bm v1) := hD
  refine lv_icmp_eq (tgt := 922) hx hb dL_law_552 (by decide) (fun c9 => ?_) (fun c9 => absurd (by rw [h1.1, h2.1]) c9)
  exact K u1 v1 _ _ ls (RF_step hx4 hn4 he hG kd_oSr h1.2 h2.2) hP hD hS hl

set_option maxHeartbeats 4000000 in
set_option maxRecDepth 100000 in
theorem lc_11 (F : CallFix p m c cL_law 4 s args WL RL) (hC : CT D cI cO s) (hA : ∀ q, s.heap.size ≤ q → A q) (hX : va_X b L xs s s.heap) (hbl : b < s.heap.size) (hbA : ¬ A b) (hc9 : c0 < 900) (hj : j + 4 ≤ L) (hL : L ≤ 2048) (hF : RF c0 u v) (hP : va_P D vwCl (cvU cI cO o us rg g ga h a lb u ++ mdU cI hm bm v) H) (hD : va_D A (cvU cI cO o us rg g ga h a lb u ++ mdU cI hm bm v)) (hS : va_S A s.heap H locs) (hl : lv_has ls 4 [(0, .ref b), (1, .ref o), (2, .ref hm), (3, .int (nI j))]) (K : ∀ (u : CV) (v : MV) (H : Heap) (locs : List Loc) (ls : Array Slot), RF (c0 + 1) u v → va_P D vwCl (cvU cI cO o us rg g ga h a lb u ++ mdU cI hm bm v) H → va_D A (cvU cI cO o us rg g ga h a lb u ++ mdU cI hm bm v) → va_S A s.heap H locs → lv_has ls 4 [(0, .ref b), (1, .ref o), (2, .ref hm), (3, .int (nI j))] → W p l e room_1 s m args below meth c H locs 600000 7302250 Q (F0 m 922 ls [])) : W p l e room_1 s m args below meth c H locs 600000 7302250 Q (F0 m 557 ls []) := by
  have hx := F.1
  have hb := F.2.1
  have hown := F.2.2.2.1
  obtain ⟨⟨e0, e1, e2⟩, S, B, nx, sz, G⟩ := u
  obtain ⟨w, past, er, bf, tk, sv, hs⟩ := v
  have hF0 := hF
  obtain ⟨x, n, hx4, hn4, hnx, hsz, hsv, he, hR, hG⟩ := hF
  replace hnx : nx = nI x := hnx
  replace hsz : sz = nI n := hsz
  replace hsv : sv = nI n := hsv
  subst hnx
  subst hsz
  subst hsv
  replace he : er 0 = e0 ∧ er 1 = e1 ∧ er 2 = e2 := he
  replace hR : RC c0 S w := hR
  replace hG : ∀ i, i < n → RC c0 (G ((x + 4 - n + i) % 4)) (fun k => past (470 * i + k)) := hG
  replace hP : va_P D vwCl (([(o, .inr (2, [.ref (h), .ref (us), .ref (lb), .int e0, .int e1, .int e2]))] ++ (usS cI cO us rg g ga ((nI (x))) ((nI (n))) G ++ (stW cI h a S ++ ([(lb, .inl (cI, 96, .inl B))])))) ++ mdU cI hm bm (w, past, er, bf, tk, nI n, hs)) H := hP
  replace hD : va_D A (([(o, .inr (2, [.ref (h), .ref (us), .ref (lb), .int e0, .int e1, .int e2]))] ++ (usS cI cO us rg g ga ((nI (x))) ((nI (n))) G ++ (stW cI h a S ++ ([(lb, .inl (cI, 96, .inl B))])))) ++ mdU cI hm bm (w, past, er, bf, tk, nI n, hs)) := hD
  refine lv_aload_n hx hb dL_law_557 rfl (lv_at hl 1 rfl) ?_
  refine lv_aload_n hx hb dL_law_558 rfl (lv_at hl 0 rfl) ?_
  refine lv_iload_n hx hb dL_law_559 rfl (lv_at hl 3 rfl) ?_
  refine lv_iconst (v := (nI (1))) hx hb dL_law_560 (by decide) ?_
  refine n_iadd hx hb dL_law_561 ?_
  refine va_sld hx hb hX hbl hbA hS (vp_in_nI (by omega) (by omega)) dL_law_562 ?_
  refine w_cv (y := xs (j + 1)) (congrArg xs (nI_clamp (by omega))) ?_
  refine lv_aload_n hx hb dL_law_563 rfl (lv_at hl 0 rfl) ?_
  refine lv_iload_n hx hb dL_law_564 rfl (lv_at hl 3 rfl) ?_
  refine lv_iconst (v := (nI (2))) hx hb dL_law_565 (by decide) ?_
  refine n_iadd hx hb dL_law_566 ?_
  refine va_sld hx hb hX hbl hbA hS (vp_in_nI (by omega) (by omega)) dL_law_567 ?_
  refine w_cv (y := xs (j + 2)) (congrArg xs (nI_clamp (by omega))) ?_
  have hPc := va_pl0 hP
  have hDc := va_dl hD
  refine goWi (pre := []) (wc := [(o, .inr (2, [.ref (h), .ref (us), .ref (lb), .int e0, .int e1, .int e2]))] ++ (usS cI cO us rg g ga ((nI (x))) ((nI (n))) G ++ (stW cI h a S ++ ([(lb, .inl (cI, 96, .inl B))])))) (suf := mdU cI hm bm (w, past, er, bf, tk, nI n, hs)) (kV (As := [.int (xs (j + 1)), .int (xs (j + 2))]) (rest := []) F (c_X2_routeState l D cI cO _ o us rg g ga h a lb e0 e1 e2 G S B w c0 hR x n hx4 hn4 hc9 (xs (j + 1)) (xs (j + 2))) ywX2_routeState qw312 qw313 qw314 ⟨rfl, rfl⟩ ⟨Nat.le_of_ble_eq_true rfl, Nat.le_of_ble_eq_true rfl⟩ (preV (preW hPc hC hDc) hC hPc (ci := 2) (q0 := 0) rfl rfl rfl) rfl hl.1 rfl (Nat.le_of_ble_eq_true rfl) dL_law_568 ⟨Nat.le_refl _, Nat.le_refl _⟩) (by rw [List.nil_append]; exact hP) (by rw [List.nil_append]; exact hD) hS hA (fun r1 u1 H locs h1 hP hD hS => ?_)
  replace hP : va_P D vwCl (cvU cI cO o us rg g ga h a lb u1 ++ mdW cI hm bm w past er bf tk (nI n) hs) H := hP
  replace hD : va_D A (cvU cI cO o us rg g ga h a lb u1 ++ mdW cI hm bm w past er bf tk (nI n) hs) := hD
  refine lv_aload_n hx hb dL_law_571 rfl (lv_at hl 2 rfl) ?_
  refine lv_aload_n hx hb dL_law_572 rfl (lv_at hl 0 rfl) ?_
  refine lv_iload_n hx hb dL_law_573 rfl (lv_at hl 3 rfl) ?_
  refine lv_iconst (v := (nI (1))) hx hb dL_law_574 (by decide) ?_
  refine n_iadd hx hb dL_law_575 ?_
  refine va_sld hx hb hX hbl hbA hS (vp_in_nI (by omega) (by omega)) dL_law_576 ?_
  refine w_cv (y := xs (j + 1)) (congrArg xs (nI_clamp (by omega))) ?_
  refine lv_aload_n hx hb dL_law_577 rfl (lv_at hl 0 rfl) ?_
  refine lv_iload_n hx hb dL_law_578 rfl (lv_at hl 3 rfl) ?_
  refine lv_iconst (v := (nI (2))) hx hb dL_law_579 (by decide) ?_
  refine n_iadd hx hb dL_law_580 ?_
  refine va_sld hx hb hX hbl hbA hS (vp_in_nI (by omega) (by omega)) dL_law_581 ?_
  refine w_cv (y := xs (j + 2)) (congrArg xs (nI_clamp (by omega))) ?_
  have hPm := va_pr0 hP
  have hDm := va_dr hD
  refine goWi (pre := cvU cI cO o us rg g ga h a lb u1) (wc := mdW cI hm bm w past er bf tk (nI n) hs) (suf := []) (kV (As := [.int (xs (j + 1)), .int (xs (j + 2))]) (rest := [.int r1]) F (c_X3_routeState l D cI cO _ hm bm w past er bf tk (nI n) hs c0 hR.wf n hc9 hn4 rfl (xs (j + 1)) (xs (j + 2))) ywX3_routeState qw587 qw588 qw589 ⟨rfl, rfl⟩ ⟨Nat.le_of_ble_eq_true rfl, Nat.le_of_ble_eq_true rfl⟩ (preV (preW hPm hC hDm) hC hPm (ci := 3) (q0 := 0) rfl rfl rfl) rfl hl.1 rfl (Nat.le_of_ble_eq_true rfl) dL_law_582 ⟨Nat.le_refl _, Nat.le_refl _⟩) (by rw [List.append_nil]; exact hP) (by rw [List.append_nil]; exact hD) hS hA (fun r2 v1 H locs h2 hP hD hS => ?_)
  rw [List.append_nil] at hP hD
  replace hP : va_P D vwCl (cvU cI cO o us rg g ga h a lb u1 ++ mdU cI hm bm v1) H := hP
  replace hD : va_D A (cvU cI cO o us rg g ga h a lb u1 ++ mdU cI hm bm v1) := hD
  refine lv_icmp_eq (tgt := 922) hx hb dL_law_585 (by decide) (fun c9 => ?_) (fun c9 => absurd (by rw [h1.1, h2.1]) c9)
  exact K u1 v1 _ _ ls (RF_step hx4 hn4 he hG kd_oRs h1.2 h2.2) hP hD hS hl

set_option maxHeartbeats 4000000 in
set_option maxRecDepth 100000 in
theorem lc_12 (F : CallFix p m c cL_law 4 s args WL RL) (hC : CT D cI cO s) (hA : ∀ q, s.heap.size ≤ q → A q) (hX : va_X b L xs s s.heap) (hbl : b < s.heap.size) (hbA : ¬ A b) (hc9 : c0 < 900) (hj : j + 4 ≤ L) (hL : L ≤ 2048) (hF : RF c0 u v) (hP : va_P D vwCl (cvU cI cO o us rg g ga h a lb u ++ mdU cI hm bm v) H) (hD : va_D A (cvU cI cO o us rg g ga h a lb u ++ mdU cI hm bm v)) (hS : va_S A s.heap H locs) (hl : lv_has ls 4 [(0, .ref b), (1, .ref o), (2, .ref hm), (3, .int (nI j))]) (K : ∀ (u : CV) (v : MV) (H : Heap) (locs : List Loc) (ls : Array Slot), RF (c0 + 1) u v → va_P D vwCl (cvU cI cO o us rg g ga h a lb u ++ mdU cI hm bm v) H → va_D A (cvU cI cO o us rg g ga h a lb u ++ mdU cI hm bm v) → va_S A s.heap H locs → lv_has ls 4 [(0, .ref b), (1, .ref o), (2, .ref hm), (3, .int (nI j))] → W p l e room_1 s m args below meth c H locs 600000 7302250 Q (F0 m 922 ls [])) : W p l e room_1 s m args below meth c H locs 600000 7302250 Q (F0 m 590 ls []) := by
  have hx := F.1
  have hb := F.2.1
  have hown := F.2.2.2.1
  obtain ⟨⟨e0, e1, e2⟩, S, B, nx, sz, G⟩ := u
  obtain ⟨w, past, er, bf, tk, sv, hs⟩ := v
  have hF0 := hF
  obtain ⟨x, n, hx4, hn4, hnx, hsz, hsv, he, hR, hG⟩ := hF
  replace hnx : nx = nI x := hnx
  replace hsz : sz = nI n := hsz
  replace hsv : sv = nI n := hsv
  subst hnx
  subst hsz
  subst hsv
  replace he : er 0 = e0 ∧ er 1 = e1 ∧ er 2 = e2 := he
  replace hR : RC c0 S w := hR
  replace hG : ∀ i, i < n → RC c0 (G ((x + 4 - n + i) % 4)) (fun k => past (470 * i + k)) := hG
  replace hP : va_P D vwCl (([(o, .inr (2, [.ref (h), .ref (us), .ref (lb), .int e0, .int e1, .int e2]))] ++ (usS cI cO us rg g ga ((nI (x))) ((nI (n))) G ++ (stW cI h a S ++ ([(lb, .inl (cI, 96, .inl B))])))) ++ mdU cI hm bm (w, past, er, bf, tk, nI n, hs)) H := hP
  replace hD : va_D A (([(o, .inr (2, [.ref (h), .ref (us), .ref (lb), .int e0, .int e1, .int e2]))] ++ (usS cI cO us rg g ga ((nI (x))) ((nI (n))) G ++ (stW cI h a S ++ ([(lb, .inl (cI, 96, .inl B))])))) ++ mdU cI hm bm (w, past, er, bf, tk, nI n, hs)) := hD
  refine lv_aload_n hx hb dL_law_590 rfl (lv_at hl 1 rfl) ?_
  refine lv_aload_n hx hb dL_law_591 rfl (lv_at hl 0 rfl) ?_
  refine lv_iload_n hx hb dL_law_592 rfl (lv_at hl 3 rfl) ?_
  refine lv_iconst (v := (nI (1))) hx hb dL_law_593 (by decide) ?_
  refine n_iadd hx hb dL_law_594 ?_
  refine va_sld hx hb hX hbl hbA hS (vp_in_nI (by omega) (by omega)) dL_law_595 ?_
  refine w_cv (y := xs (j + 1)) (congrArg xs (nI_clamp (by omega))) ?_
  have hPc := va_pl0 hP
  have hDc := va_dl hD
  refine goWi (pre := []) (wc := [(o, .inr (2, [.ref (h), .ref (us), .ref (lb), .int e0, .int e1, .int e2]))] ++ (usS cI cO us rg g ga ((nI (x))) ((nI (n))) G ++ (stW cI h a S ++ ([(lb, .inl (cI, 96, .inl B))])))) (suf := mdU cI hm bm (w, past, er, bf, tk, nI n, hs)) (kV (As := [.int (xs (j + 1))]) (rest := []) F (c_X2_currentRoutes l D cI cO _ o us rg g ga h a lb e0 e1 e2 G S B w c0 hR x n hx4 hn4 hc9 (xs (j + 1))) ywX2_currentRoutes qw316 qw317 qw318 ⟨rfl, rfl⟩ ⟨Nat.le_of_ble_eq_true rfl, Nat.le_of_ble_eq_true rfl⟩ (preV (preW hPc hC hDc) hC hPc (ci := 2) (q0 := 0) rfl rfl rfl) rfl hl.1 rfl (Nat.le_of_ble_eq_true rfl) dL_law_596 ⟨Nat.le_refl _, Nat.le_refl _⟩) (by rw [List.nil_append]; exact hP) (by rw [List.nil_append]; exact hD) hS hA (fun r1 u1 H locs h1 hP hD hS => ?_)
  replace hP : va_P D vwCl (cvU cI cO o us rg g ga h a lb u1 ++ mdW cI hm bm w past er bf tk (nI n) hs) H := hP
  replace hD : va_D A (cvU cI cO o us rg g ga h a lb u1 ++ mdW cI hm bm w past er bf tk (nI n) hs) := hD
  refine lv_aload_n hx hb dL_law_599 rfl (lv_at hl 2 rfl) ?_
  refine lv_aload_n hx hb dL_law_600 rfl (lv_at hl 0 rfl) ?_
  refine lv_iload_n hx hb dL_law_601 rfl (lv_at hl 3 rfl) ?_
  refine lv_iconst (v := (nI (1))) hx hb dL_law_602 (by decide) ?_
  refine n_iadd hx hb dL_law_603 ?_
  refine va_sld hx hb hX hbl hbA hS (vp_in_nI (by omega) (by omega)) dL_law_604 ?_
  refine w_cv (y := xs (j + 1)) (congrArg xs (nI_clamp (by omega))) ?_
  have hPm := va_pr0 hP
  have hDm := va_dr hD
  refine goWi (pre := cvU cI cO o us rg g ga h a lb u1) (wc := mdW cI hm bm w past er bf tk (nI n) hs) (suf := []) (kV (As := [.int (xs (j + 1))]) (rest := [.int r1]) F (c_X3_currentRoutes l D cI cO _ hm bm w past er bf tk (nI n) hs c0 hR.wf n hc9 hn4 rfl (xs (j + 1))) ywX3_currentRoutes qw591 qw592 qw593 ⟨rfl, rfl⟩ ⟨Nat.le_of_ble_eq_true rfl, Nat.le_of_ble_eq_true rfl⟩ (preV (preW hPm hC hDm) hC hPm (ci := 3) (q0 := 0) rfl rfl rfl) rfl hl.1 rfl (Nat.le_of_ble_eq_true rfl) dL_law_605 ⟨Nat.le_refl _, Nat.le_refl _⟩) (by rw [List.append_nil]; exact hP) (by rw [List.append_nil]; exact hD) hS hA (fun r2 v1 H locs h2 hP hD hS => ?_)
  rw [List.append_nil] at hP hD
  replace hP : va_P D vwCl (cvU cI cO o us rg g ga h a lb u1 ++ mdU cI hm bm v1) H := hP
  replace hD : va_D A (cvU cI cO o us rg g ga h a lb u1 ++ mdU cI hm bm v1) := hD
  refine lv_icmp_eq (tgt := 922) hx hb dL_law_608 (by decide) (fun c9 => ?_) (fun c9 => absurd (by rw [h1.1, h2.1]) c9)
  exact K u1 v1 _ _ ls (RF_step hx4 hn4 he hG kd_oCr h1.2 h2.2) hP hD hS hl

set_option maxHeartbeats 4000000 in
set_option maxRecDepth 100000 in
theorem lc_13 (F : CallFix p m c cL_law 4 s args WL RL) (hC : CT D cI cO s) (hA : ∀ q, s.heap.size ≤ q → A q) (hX : va_X b L xs s s.heap) (hbl : b < s.heap.size) (hbA : ¬ A b) (hc9 : c0 < 900) (hj : j + 4 ≤ L) (hL : L ≤ 2048) (hF : RF c0 u v) (hP : va_P D vwCl (cvU cI cO o us rg g ga h a lb u ++ mdU cI hm bm v) H) (hD : va_D A (cvU cI cO o us rg g ga h a lb u ++ mdU cI hm bm v)) (hS : va_S A s.heap H locs) (hl : lv_has ls 4 [(0, .ref b), (1, .ref o), (2, .ref hm), (3, .int (nI j))]) (K : ∀ (u : CV) (v : MV) (H : Heap) (locs : List Loc) (ls : Array Slot), RF (c0 + 1) u v → va_P D vwCl (cvU cI cO o us rg g ga h a lb u ++ mdU cI hm bm v) H → va_D A (cvU cI cO o us rg g ga h a lb u ++ mdU cI hm bm v) → va_S A s.heap H locs → lv_has ls 4 [(0, .ref b), (1, .ref o), (2, .ref hm), (3, .int (nI j))] → W p l e room_1 s m args below meth c H locs 600000 7302250 Q (F0 m 922 ls [])) : W p l e room_1 s m args below meth c H locs 600000 7302250 Q (F0 m 613 ls []) := by
  have hx := F.1
  have hb := F.2.1
  have hown := F.2.2.2.1
  obtain ⟨⟨e0, e1, e2⟩, S, B, nx, sz, G⟩ := u
  obtain ⟨w, past, er, bf, tk, sv, hs⟩ := v
  have hF0 := hF
  obtain ⟨x, n, hx4, hn4, hnx, hsz, hsv, he, hR, hG⟩ := hF
  replace hnx : nx = nI x := hnx
  replace hsz : sz = nI n := hsz
  replace hsv : sv = nI n := hsv
  subst hnx
  subst hsz
  subst hsv
  replace he : er 0 = e0 ∧ er 1 = e1 ∧ er 2 = e2 := he
  replace hR : RC c0 S w := hR
  replace hG : ∀ i, i < n → RC c0 (G ((x + 4 - n + i) % 4)) (fun k => past (470 * i + k)) := hG
  replace hP : va_P D vwCl (([(o, .inr (2, [.ref (h), .ref (us), .ref (lb), .int e0, .int e1, .int e2]))] ++ (usS cI cO us rg g ga ((nI (x))) ((nI (n))) G ++ (stW cI h a S ++ ([(lb, .inl (cI, 96, .inl B))])))) ++ mdU cI hm bm (w, past, er, bf, tk, nI n, hs)) H := hP
  replace hD : va_D A (([(o, .inr (2, [.ref (h), .ref (us), .ref (lb), .int e0, .int e1, .int e2]))] ++ (usS cI cO us rg g ga ((nI (x))) ((nI (n))) G ++ (stW cI h a S ++ ([(lb, .inl (cI, 96, .inl B))])))) ++ mdU cI hm bm (w, past, er, bf, tk, nI n, hs)) := hD
  refine lv_aload_n hx hb dL_law_613 rfl (lv_at hl 1 rfl) ?_
  refine lv_aload_n hx hb dL_law_614 rfl (lv_at hl 0 rfl) ?_
  refine lv_iload_n hx hb dL_law_615 rfl (lv_at hl 3 rfl) ?_
  refine lv_iconst (v := (nI (1))) hx hb dL_law_616 (by decide) ?_
  refine n_iadd hx hb dL_law_617 ?_
  refine va_sld hx hb hX hbl hbA hS (vp_in_nI (by omega) (by omega)) dL_law_618 ?_
  refine w_cv (y := xs (j + 1)) (congrArg xs (nI_clamp (by omega))) ?_
  refine lv_aload_n hx hb dL_law_619 rfl (lv_at hl 0 rfl) ?_
  refine lv_iload_n hx hb dL_law_620 rfl (lv_at hl 3 rfl) ?_
  refine lv_iconst (v := (nI (2))) hx hb dL_law_621 (by decide) ?_
  refine n_iadd hx hb dL_law_622 ?_
  refine va_sld hx hb hX hbl hbA hS (vp_in_nI (by omega) (by omega)) dL_law_623 ?_
  refine w_cv (y := xs (j + 2)) (congrArg xs (nI_clamp (by omega))) ?_
  have hPc := va_pl0 hP
  have hDc := va_dl hD
  refine goWi (pre := []) (wc := [(o, .inr (2, [.ref (h), .ref (us), .ref (lb), .int e0, .int e1, .int e2]))] ++ (usS cI cO us rg g ga ((nI (x))) ((nI (n))) G ++ (stW cI h a S ++ ([(lb, .inl (cI, 96, .inl B))])))) (suf := mdU cI hm bm (w, past, er, bf, tk, nI n, hs)) (kV (As := [.int (xs (j + 1)), .int (xs (j + 2))]) (rest := []) F (c_X2_currentLink l D cI cO _ o us rg g ga h a lb e0 e1 e2 G S B w c0 hR x n hx4 hn4 hc9 (xs (j + 1)) (xs (j + 2))) ywX2_currentLink qw322 qw323 qw324 ⟨rfl, rfl⟩ ⟨Nat.le_of_ble_eq_true rfl, Nat.le_of_ble_eq_true rfl⟩ (preV (preW hPc hC hDc) hC hPc (ci := 2) (q0 := 0) rfl rfl rfl) rfl hl.1 rfl (Nat.le_of_ble_eq_true rfl) dL_law_624 ⟨Nat.le_refl _, Nat.le_refl _⟩) (by rw [List.nil_append]; exact hP) (by rw [List.nil_append]; exact hD) hS hA (fun r1 u1 H locs h1 hP hD hS => ?_)
  replace hP : va_P D vwCl (cvU cI cO o us rg g ga h a lb u1 ++ mdW cI hm bm w past er bf tk (nI n) hs) H := hP
  replace hD : va_D A (cvU cI cO o us rg g ga h a lb u1 ++ mdW cI hm bm w past er bf tk (nI n) hs) := hD
  refine lv_aload_n hx hb dL_law_627 rfl (lv_at hl 2 rfl) ?_
  refine lv_aload_n hx hb dL_law_628 rfl (lv_at hl 0 rfl) ?_
  refine lv_iload_n hx hb dL_law_629 rfl (lv_at hl 3 rfl) ?_
  refine lv_iconst (v := (nI (1))) hx hb dL_law_630 (by decide) ?_
  refine n_iadd hx hb dL_law_631 ?_
  refine va_sld hx hb hX hbl hbA hS (vp_in_nI (by omega) (by omega)) dL_law_632 ?_
  refine w_cv (y := xs (j + 1)) (congrArg xs (nI_clamp (by omega))) ?_
  refine lv_aload_n hx hb dL_law_633 rfl (lv_at hl 0 rfl) ?_
  refine lv_iload_n hx hb dL_law_634 rfl (lv_at hl 3 rfl) ?_
  refine lv_iconst (v := (nI (2))) hx hb dL_law_635 (by decide) ?_
  refine n_iadd hx hb dL_law_636 ?_
  refine va_sld hx hb hX hbl hbA hS (vp_in_nI (by omega) (by omega)) dL_law_637 ?_
  refine w_cv (y := xs (j + 2)) (congrArg xs (nI_clamp (by omega))) ?_
  have hPm := va_pr0 hP
  have hDm := va_dr hD
  refine goWi (pre := cvU cI cO o us rg g ga h a lb u1) (wc := mdW cI hm bm w past er bf tk (nI n) hs) (suf := []) (kV (As := [.int (xs (j + 1)), .int (xs (j + 2))]) (rest := [.int r1]) F (c_X3_currentLink l D cI cO _ hm bm w past er bf tk (nI n) hs c0 hR.wf n hc9 hn4 rfl (xs (j + 1)) (xs (j + 2))) ywX3_currentLink qw595 qw596 qw597 ⟨rfl, rfl⟩ ⟨Nat.le_of_ble_eq_true rfl, Nat.le_of_ble_eq_true rfl⟩ (preV (preW hPm hC hDm) hC hPm (ci := 3) (q0 := 0) rfl rfl rfl) rfl hl.1 rfl (Nat.le_of_ble_eq_true rfl) dL_law_638 ⟨Nat.le_refl _, Nat.le_refl _⟩) (by rw [List.append_nil]; exact hP) (by rw [List.append_nil]; exact hD) hS hA (fun r2 v1 H locs h2 hP hD hS => ?_)
  rw [List.append_nil] at hP hD
  replace hP : va_P D vwCl (cvU cI cO o us rg g ga h a lb u1 ++ mdU cI hm bm v1) H := hP
  replace hD : va_D A (cvU cI cO o us rg g ga h a lb u1 ++ mdU cI hm bm v1) := hD
  refine lv_icmp_eq (tgt := 922) hx hb dL_law_641 (by decide) (fun c9 => ?_) (fun c9 => absurd (by rw [h1.1, h2.1]) c9)
  exact K u1 v1 _ _ ls (RF_step hx4 hn4 he hG kd_oCl h1.2 h2.2) hP hD hS hl

set_option maxHeartbeats 4000000 in
set_option maxRecDepth 100000 in
theorem lc_14 (F : CallFix p m c cL_law 4 s args WL RL) (hC : CT D cI cO s) (hA : ∀ q, s.heap.size ≤ q → A q) (hX : va_X b L xs s s.heap) (hbl : b < s.heap.size) (hbA : ¬ A b) (hc9 : c0 < 900) (hj : j + 4 ≤ L) (hL : L ≤ 2048) (hF : RF c0 u v) (hP : va_P D vwCl (cvU cI cO o us rg g ga h a lb u ++ mdU cI hm bm v) H) (hD : va_D A (cvU cI cO o us rg g ga h a lb u ++ mdU cI hm bm v)) (hS : va_S A s.heap H locs) (hl : lv_has ls 4 [(0, .ref b), (1, .ref o), (2, .ref hm), (3, .int (nI j))]) (K : ∀ (u : CV) (v : MV) (H : Heap) (locs : List Loc) (ls : Array Slot), RF (c0 + 1) u v → va_P D vwCl (cvU cI cO o us rg g ga h a lb u ++ mdU cI hm bm v) H → va_D A (cvU cI cO o us rg g ga h a lb u ++ mdU cI hm bm v) → va_S A s.heap H locs → lv_has ls 4 [(0, .ref b), (1, .ref o), (2, .ref hm), (3, .int (nI j))] → W p l e room_1 s m args below meth c H locs 600000 7302250 Q (F0 m 922 ls [])) : W p l e room_1 s m args below meth c H locs 600000 7302250 Q (F0 m 646 ls []) := by
  have hx := F.1
  have hb := F.2.1
  have hown := F.2.2.2.1
  obtain ⟨⟨e0, e1, e2⟩, S, B, nx, sz, G⟩ := u
  obtain ⟨w, past, er, bf, tk, sv, hs⟩ := v
  have hF0 := hF
  obtain ⟨x, n, hx4, hn4, hnx, hsz, hsv, he, hR, hG⟩ := hF
  replace hnx : nx = nI x := hnx
  replace hsz : sz = nI n := hsz
  replace hsv : sv = nI n := hsv
  subst hnx
  subst hsz
  subst hsv
  replace he : er 0 = e0 ∧ er 1 = e1 ∧ er 2 = e2 := he
  replace hR : RC c0 S w := hR
  replace hG : ∀ i, i < n → RC c0 (G ((x + 4 - n + i) % 4)) (fun k => past (470 * i + k)) := hG
  replace hP : va_P D vwCl (([(o, .inr (2, [.ref (h), .ref (us), .ref (lb), .int e0, .int e1, .int e2]))] ++ (usS cI cO us rg g ga ((nI (x))) ((nI (n))) G ++ (stW cI h a S ++ ([(lb, .inl (cI, 96, .inl B))])))) ++ mdU cI hm bm (w, past, er, bf, tk, nI n, hs)) H := hP
  replace hD : va_D A (([(o, .inr (2, [.ref (h), .ref (us), .ref (lb), .int e0, .int e1, .int e2]))] ++ (usS cI cO us rg g ga ((nI (x))) ((nI (n))) G ++ (stW cI h a S ++ ([(lb, .inl (cI, 96, .inl B))])))) ++ mdU cI hm bm (w, past, er, bf, tk, nI n, hs)) := hD
  refine lv_aload_n hx hb dL_law_646 rfl (lv_at hl 1 rfl) ?_
  refine lv_aload_n hx hb dL_law_647 rfl (lv_at hl 0 rfl) ?_
  refine lv_iload_n hx hb dL_law_648 rfl (lv_at hl 3 rfl) ?_
  refine lv_iconst (v := (nI (1))) hx hb dL_law_649 (by decide) ?_
  refine n_iadd hx hb dL_law_650 ?_
  refine va_sld hx hb hX hbl hbA hS (vp_in_nI (by omega) (by omega)) dL_law_651 ?_
  refine w_cv (y := xs (j + 1)) (congrArg xs (nI_clamp (by omega))) ?_
  refine lv_aload_n hx hb dL_law_652 rfl (lv_at hl 0 rfl) ?_
  refine lv_iload_n hx hb dL_law_653 rfl (lv_at hl 3 rfl) ?_
  refine lv_iconst (v := (nI (2))) hx hb dL_law_654 (by decide) ?_
  refine n_iadd hx hb dL_law_655 ?_
  refine va_sld hx hb hX hbl hbA hS (vp_in_nI (by omega) (by omega)) dL_law_656 ?_
  refine w_cv (y := xs (j + 2)) (congrArg xs (nI_clamp (by omega))) ?_
  refine lv_aload_n hx hb dL_law_657 rfl (lv_at hl 0 rfl) ?_
  refine lv_iload_n hx hb dL_law_658 rfl (lv_at hl 3 rfl) ?_
  refine lv_iconst (v := (nI (3))) hx hb dL_law_659 (by decide) ?_
  refine n_iadd hx hb dL_law_660 ?_
  refine va_sld hx hb hX hbl hbA hS (vp_in_nI (by omega) (by omega)) dL_law_661 ?_
  refine w_cv (y := xs (j + 3)) (congrArg xs (nI_clamp (by omega))) ?_
  have hPc := va_pl0 hP
  have hDc := va_dl hD
  refine goWi (pre := []) (wc := [(o, .inr (2, [.ref (h), .ref (us), .ref (lb), .int e0, .int e1, .int e2]))] ++ (usS cI cO us rg g ga ((nI (x))) ((nI (n))) G ++ (stW cI h a S ++ ([(lb, .inl (cI, 96, .inl B))])))) (suf := mdU cI hm bm (w, past, er, bf, tk, nI n, hs)) (kV (As := [.int (xs (j + 1)), .int (xs (j + 2)), .int (xs (j + 3))]) (rest := []) F (c_X2_send l D cI cO _ o us rg g ga h a lb e0 e1 e2 G S B w c0 hR x n hx4 hn4 hc9 (xs (j + 1)) (xs (j + 2)) (xs (j + 3))) ywX2_send qw330 qw331 qw332 ⟨rfl, rfl⟩ ⟨Nat.le_of_ble_eq_true rfl, Nat.le_of_ble_eq_true rfl⟩ (preV (preW hPc hC hDc) hC hPc (ci := 2) (q0 := 0) rfl rfl rfl) rfl hl.1 rfl (Nat.le_of_ble_eq_true rfl) dL_law_662 ⟨Nat.le_refl _, Nat.le_refl _⟩) (by rw [List.nil_append]; exact hP) (by rw [List.nil_append]; exact hD) hS hA (fun r1 u1 H locs h1 hP hD hS => ?_)
  replace hP : va_P D vwCl (cvU cI cO o us rg g ga h a lb u1 ++ mdW cI hm bm w past er bf tk (nI n) hs) H := hP
  replace hD : va_D A (cvU cI cO o us rg g ga h a lb u1 ++ mdW cI hm bm w past er bf tk (nI n) hs) := hD
  refine lv_aload_n hx hb dL_law_665 rfl (lv_at hl 2 rfl) ?_
  refine lv_aload_n hx hb dL_law_666 rfl (lv_at hl 0 rfl) ?_
  refine lv_iload_n hx hb dL_law_667 rfl (lv_at hl 3 rfl) ?_
  refine lv_iconst (v := (nI (1))) hx hb dL_law_668 (by decide) ?_
  refine n_iadd hx hb dL_law_669 ?_
  refine va_sld hx hb hX hbl hbA hS (vp_in_nI (by omega) (by omega)) dL_law_670 ?_
  refine w_cv (y := xs (j + 1)) (congrArg xs (nI_clamp (by omega))) ?_
  refine lv_aload_n hx hb dL_law_671 rfl (lv_at hl 0 rfl) ?_
  refine lv_iload_n hx hb dL_law_672 rfl (lv_at hl 3 rfl) ?_
  refine lv_iconst (v := (nI (2))) hx hb dL_law_673 (by decide) ?_
  refine n_iadd hx hb dL_law_674 ?_
  refine va_sld hx hb hX hbl hbA hS (vp_in_nI (by omega) (by omega)) dL_law_675 ?_
  refine w_cv (y := xs (j + 2)) (congrArg xs (nI_clamp (by omega))) ?_
  refine lv_aload_n hx hb dL_law_676 rfl (lv_at hl 0 rfl) ?_
  refine lv_iload_n hx hb dL_law_677 rfl (lv_at hl 3 rfl) ?_
  refine lv_iconst (v := (nI (3))) hx hb dL_law_678 (by decide) ?_
  refine n_iadd hx hb dL_law_679 ?_
  refine va_sld hx hb hX hbl hbA hS (vp_in_nI (by omega) (by omega)) dL_law_680 ?_
  refine w_cv (y := xs (j + 3)) (congrArg xs (nI_clamp (by omega))) ?_
  have hPm := va_pr0 hP
  have hDm := va_dr hD
  refine goWi (pre := cvU cI cO o us rg g ga h a lb u1) (wc := mdW cI hm bm w past er bf tk (nI n) hs) (suf := []) (kV (As := [.int (xs (j + 1)), .int (xs (j + 2)), .int (xs (j + 3))]) (rest := [.int r1]) F (c_X3_send l D cI cO _ hm bm w past er bf tk (nI n) hs c0 hR.wf n hc9 hn4 rfl (xs (j + 1)) (xs (j + 2)) (xs (j + 3))) ywX3_send qw602 qw603 qw604 ⟨rfl, rfl⟩ ⟨Nat.le_of_ble_eq_true rfl, Nat.le_of_ble_eq_true rfl⟩ (preV (preW hPm hC hDm) hC hPm (ci := 3) (q0 := 0) rfl rfl rfl) rfl hl.1 rfl (Nat.le_of_ble_eq_true rfl) dL_law_681 ⟨Nat.le_refl _, Nat.le_refl _⟩) (by rw [List.append_nil]; exact hP) (by rw [List.append_nil]; exact hD) hS hA (fun r2 v1 H locs h2 hP hD hS => ?_)
  rw [List.append_nil] at hP hD
  replace hP : va_P D vwCl (cvU cI cO o us rg g ga h a lb u1 ++ mdU cI hm bm v1) H := hP
  replace hD : va_D A (cvU cI cO o us rg g ga h a lb u1 ++ mdU cI hm bm v1) := hD
  refine lv_icmp_eq (tgt := 922) hx hb dL_law_684 (by decide) (fun c9 => ?_) (fun c9 => absurd (by rw [h1.1, h2.1]) c9)
  exact K u1 v1 _ _ ls (RF_step hx4 hn4 he hG kd_oSnd h1.2 h2.2) hP hD hS hl

set_option maxHeartbeats 4000000 in
set_option maxRecDepth 100000 in
theorem lc_15 (F : CallFix p m c cL_law 4 s args WL RL) (hC : CT D cI cO s) (hA : ∀ q, s.heap.size ≤ q → A q) (hX : va_X b L xs s s.heap) (hbl : b < s.heap.size) (hbA : ¬ A b) (hc9 : c0 < 900) (hj : j + 4 ≤ L) (hL : L ≤ 2048) (hF : RF c0 u v) (hP : va_P D vwCl (cvU cI cO o us rg g ga h a lb u ++ mdU cI hm bm v) H) (hD : va_D A (cvU cI cO o us rg g ga h a lb u ++ mdU cI hm bm v)) (hS : va_S A s.heap H locs) (hl : lv_has ls 4 [(0, .ref b), (1, .ref o), (2, .ref hm), (3, .int (nI j))]) (K : ∀ (u : CV) (v : MV) (H : Heap) (locs : List Loc) (ls : Array Slot), RF (c0 + 1) u v → va_P D vwCl (cvU cI cO o us rg g ga h a lb u ++ mdU cI hm bm v) H → va_D A (cvU cI cO o us rg g ga h a lb u ++ mdU cI hm bm v) → va_S A s.heap H locs → lv_has ls 4 [(0, .ref b), (1, .ref o), (2, .ref hm), (3, .int (nI j))] → W p l e room_1 s m args below meth c H locs 600000 7302250 Q (F0 m 922 ls [])) : W p l e room_1 s m args below meth c H locs 600000 7302250 Q (F0 m 689 ls []) := by
  have hx := F.1
  have hb := F.2.1
  have hown := F.2.2.2.1
  obtain ⟨⟨e0, e1, e2⟩, S, B, nx, sz, G⟩ := u
  obtain ⟨w, past, er, bf, tk, sv, hs⟩ := v
  have hF0 := hF
  obtain ⟨x, n, hx4, hn4, hnx, hsz, hsv, he, hR, hG⟩ := hF
  replace hnx : nx = nI x := hnx
  replace hsz : sz = nI n := hsz
  replace hsv : sv = nI n := hsv
  subst hnx
  subst hsz
  subst hsv
  replace he : er 0 = e0 ∧ er 1 = e1 ∧ er 2 = e2 := he
  replace hR : RC c0 S w := hR
  replace hG : ∀ i, i < n → RC c0 (G ((x + 4 - n + i) % 4)) (fun k => past (470 * i + k)) := hG
  replace hP : va_P D vwCl (([(o, .inr (2, [.ref (h), .ref (us), .ref (lb), .int e0, .int e1, .int e2]))] ++ (usS cI cO us rg g ga ((nI (x))) ((nI (n))) G ++ (stW cI h a S ++ ([(lb, .inl (cI, 96, .inl B))])))) ++ mdU cI hm bm (w, past, er, bf, tk, nI n, hs)) H := hP
  replace hD : va_D A (([(o, .inr (2, [.ref (h), .ref (us), .ref (lb), .int e0, .int e1, .int e2]))] ++ (usS cI cO us rg g ga ((nI (x))) ((nI (n))) G ++ (stW cI h a S ++ ([(lb, .inl (cI, 96, .inl B))])))) ++ mdU cI hm bm (w, past, er, bf, tk, nI n, hs)) := hD
  refine lv_aload_n hx hb dL_law_689 rfl (lv_at hl 1 rfl) ?_
  refine lv_aload_n hx hb dL_law_690 rfl (lv_at hl 0 rfl) ?_
  refine lv_iload_n hx hb dL_law_691 rfl (lv_at hl 3 rfl) ?_
  refine lv_iconst (v := (nI (1))) hx hb dL_law_692 (by decide) ?_
  refine n_iadd hx hb dL_law_693 ?_
  refine va_sld hx hb hX hbl hbA hS (vp_in_nI (by omega) (by omega)) dL_law_694 ?_
  refine w_cv (y := xs (j + 1)) (congrArg xs (nI_clamp (by omega))) ?_
  have hPc := va_pl0 hP
  have hDc := va_dl hD
  refine goWi (pre := []) (wc := [(o, .inr (2, [.ref (h), .ref (us), .ref (lb), .int e0, .int e1, .int e2]))] ++ (usS cI cO us rg g ga ((nI (x))) ((nI (n))) G ++ (stW cI h a S ++ ([(lb, .inl (cI, 96, .inl B))])))) (suf := mdU cI hm bm (w, past, er, bf, tk, nI n, hs)) (kV (As := [.int (xs (j + 1))]) (rest := []) F (c_X2_setHoldTime l D cI cO _ o us rg g ga h a lb e0 e1 e2 G S B w c0 hR x n hx4 hn4 hc9 (xs (j + 1))) ywX2_setHoldTime qw353 qw354 qw355 ⟨rfl, rfl⟩ ⟨Nat.le_of_ble_eq_true rfl, Nat.le_of_ble_eq_true rfl⟩ (preV (preW hPc hC hDc) hC hPc (ci := 2) (q0 := 0) rfl rfl rfl) rfl hl.1 rfl (Nat.le_of_ble_eq_true rfl) dL_law_695 ⟨Nat.le_refl _, Nat.le_refl _⟩) (by rw [List.nil_append]; exact hP) (by rw [List.nil_append]; exact hD) hS hA (fun r1 u1 H locs h1 hP hD hS => ?_)
  replace hP : va_P D vwCl (cvU cI cO o us rg g ga h a lb u1 ++ mdW cI hm bm w past er bf tk (nI n) hs) H := hP
  replace hD : va_D A (cvU cI cO o us rg g ga h a lb u1 ++ mdW cI hm bm w past er bf tk (nI n) hs) := hD
  refine lv_aload_n hx hb dL_law_698 rfl (lv_at hl 2 rfl) ?_
  refine lv_aload_n hx hb dL_law_699 rfl (lv_at hl 0 rfl) ?_
  refine lv_iload_n hx hb dL_law_700 rfl (lv_at hl 3 rfl) ?_
  refine lv_iconst (v := (nI (1))) hx hb dL_law_701 (by decide) ?_
  refine n_iadd hx hb dL_law_702 ?_
  refine va_sld hx hb hX hbl hbA hS (vp_in_nI (by omega) (by omega)) dL_law_703 ?_
  refine w_cv (y := xs (j + 1)) (congrArg xs (nI_clamp (by omega))) ?_
  have hPm := va_pr0 hP
  have hDm := va_dr hD
  refine goWi (pre := cvU cI cO o us rg g ga h a lb u1) (wc := mdW cI hm bm w past er bf tk (nI n) hs) (suf := []) (kV (As := [.int (xs (j + 1))]) (rest := [.int r1]) F (c_X3_setHoldTime l D cI cO _ hm bm w past er bf tk (nI n) hs c0 hR.wf n hc9 hn4 rfl (xs (j + 1))) ywX3_setHoldTime qw610 qw611 qw612 ⟨rfl, rfl⟩ ⟨Nat.le_of_ble_eq_true rfl, Nat.le_of_ble_eq_true rfl⟩ (preV (preW hPm hC hDm) hC hPm (ci := 3) (q0 := 0) rfl rfl rfl) rfl hl.1 rfl (Nat.le_of_ble_eq_true rfl) dL_law_704 ⟨Nat.le_refl _, Nat.le_refl _⟩) (by rw [List.append_nil]; exact hP) (by rw [List.append_nil]; exact hD) hS hA (fun r2 v1 H locs h2 hP hD hS => ?_)
  rw [List.append_nil] at hP hD
  replace hP : va_P D vwCl (cvU cI cO o us rg g ga h a lb u1 ++ mdU cI hm bm v1) H := hP
  replace hD : va_D A (cvU cI cO o us rg g ga h a lb u1 ++ mdU cI hm bm v1) := hD
  refine lv_icmp_eq (tgt := 922) hx hb dL_law_707 (by decide) (fun c9 => ?_) (fun c9 => absurd (by rw [h1.1, h2.1]) c9)
  exact K u1 v1 _ _ ls (RF_step hx4 hn4 he hG kd_oHt h1.2 h2.2) hP hD hS hl

set_option maxHeartbeats 4000000 in
set_option maxRecDepth 100000 in
theorem lc_16 (F : CallFix p m c cL_law 4 s args WL RL) (hC : CT D cI cO s) (hA : ∀ q, s.heap.size ≤ q → A q) (hX : va_X b L xs s s.heap) (hbl : b < s.heap.size) (hbA : ¬ A b) (hc9 : c0 < 900) (hj : j + 4 ≤ L) (hL : L ≤ 2048) (hF : RF c0 u v) (hP : va_P D vwCl (cvU cI cO o us rg g ga h a lb u ++ mdU cI hm bm v) H) (hD : va_D A (cvU cI cO o us rg g ga h a lb u ++ mdU cI hm bm v)) (hS : va_S A s.heap H locs) (hl : lv_has ls 4 [(0, .ref b), (1, .ref o), (2, .ref hm), (3, .int (nI j))]) (K : ∀ (u : CV) (v : MV) (H : Heap) (locs : List Loc) (ls : Array Slot), RF (c0 + 1) u v → va_P D vwCl (cvU cI cO o us rg g ga h a lb u ++ mdU cI hm bm v) H → va_D A (cvU cI cO o us rg g ga h a lb u ++ mdU cI hm bm v) → va_S A s.heap H locs → lv_has ls 4 [(0, .ref b), (1, .ref o), (2, .ref hm), (3, .int (nI j))] → W p l e room_1 s m args below meth c H locs 600000 7302250 Q (F0 m 922 ls [])) : W p l e room_1 s m args below meth c H locs 600000 7302250 Q (F0 m 712 ls []) := by
  have hx := F.1
  have hb := F.2.1
  have hown := F.2.2.2.1
  obtain ⟨⟨e0, e1, e2⟩, S, B, nx, sz, G⟩ := u
  obtain ⟨w, past, er, bf, tk, sv, hs⟩ := v
  have hF0 := hF
  obtain ⟨x, n, hx4, hn4, hnx, hsz, hsv, he, hR, hG⟩ := hF
  replace hnx : nx = nI x := hnx
  replace hsz : sz = nI n := hsz
  replace hsv : sv = nI n := hsv
  subst hnx
  subst hsz
  subst hsv
  replace he : er 0 = e0 ∧ er 1 = e1 ∧ er 2 = e2 := he
  replace hR : RC c0 S w := hR
  replace hG : ∀ i, i < n → RC c0 (G ((x + 4 - n + i) % 4)) (fun k => past (470 * i + k)) := hG
  replace hP : va_P D vwCl (([(o, .inr (2, [.ref (h), .ref (us), .ref (lb), .int e0, .int e1, .int e2]))] ++ (usS cI cO us rg g ga ((nI (x))) ((nI (n))) G ++ (stW cI h a S ++ ([(lb, .inl (cI, 96, .inl B))])))) ++ mdU cI hm bm (w, past, er, bf, tk, nI n, hs)) H := hP
  replace hD : va_D A (([(o, .inr (2, [.ref (h), .ref (us), .ref (lb), .int e0, .int e1, .int e2]))] ++ (usS cI cO us rg g ga ((nI (x))) ((nI (n))) G ++ (stW cI h a S ++ ([(lb, .inl (cI, 96, .inl B))])))) ++ mdU cI hm bm (w, past, er, bf, tk, nI n, hs)) := hD
  refine lv_aload_n hx hb dL_law_712 rfl (lv_at hl 1 rfl) ?_
  have hPc := va_pl0 hP
  have hDc := va_dl hD
  refine goWi (pre := []) (wc := [(o, .inr (2, [.ref (h), .ref (us), .ref (lb), .int e0, .int e1, .int e2]))] ++ (usS cI cO us rg g ga ((nI (x))) ((nI (n))) G ++ (stW cI h a S ++ ([(lb, .inl (cI, 96, .inl B))])))) (suf := mdU cI hm bm (w, past, er, bf, tk, nI n, hs)) (kV (As := []) (rest := []) F (c_X2_tick l D cI cO _ o us rg g ga h a lb e0 e1 e2 G S B w c0 hR x n hx4 hn4 hc9 ) ywX2_tick qw357 qw358 qw359 ⟨rfl, rfl⟩ ⟨Nat.le_of_ble_eq_true rfl, Nat.le_of_ble_eq_true rfl⟩ (preV (preW hPc hC hDc) hC hPc (ci := 2) (q0 := 0) rfl rfl rfl) rfl hl.1 rfl (Nat.le_of_ble_eq_true rfl) dL_law_713 ⟨Nat.le_refl _, Nat.le_refl _⟩) (by rw [List.nil_append]; exact hP) (by rw [List.nil_append]; exact hD) hS hA (fun r1 u1 H locs h1 hP hD hS => ?_)
  replace hP : va_P D vwCl (cvU cI cO o us rg g ga h a lb u1 ++ mdW cI hm bm w past er bf tk (nI n) hs) H := hP
  replace hD : va_D A (cvU cI cO o us rg g ga h a lb u1 ++ mdW cI hm bm w past er bf tk (nI n) hs) := hD
  refine lv_aload_n hx hb dL_law_716 rfl (lv_at hl 2 rfl) ?_
  have hPm := va_pr0 hP
  have hDm := va_dr hD
  refine goWi (pre := cvU cI cO o us rg g ga h a lb u1) (wc := mdW cI hm bm w past er bf tk (nI n) hs) (suf := []) (kV (As := []) (rest := [.int r1]) F (c_X3_tick l D cI cO _ hm bm w past er bf tk (nI n) hs c0 hR.wf n hc9 hn4 rfl ) ywX3_tick qw614 qw615 qw616 ⟨rfl, rfl⟩ ⟨Nat.le_of_ble_eq_true rfl, Nat.le_of_ble_eq_true rfl⟩ (preV (preW hPm hC hDm) hC hPm (ci := 3) (q0 := 0) rfl rfl rfl) rfl hl.1 rfl (Nat.le_of_ble_eq_true rfl) dL_law_717 ⟨Nat.le_refl _, Nat.le_refl _⟩) (by rw [List.append_nil]; exact hP) (by rw [List.append_nil]; exact hD) hS hA (fun r2 v1 H locs h2 hP hD hS => ?_)
  rw [List.append_nil] at hP hD
  replace hP : va_P D vwCl (cvU cI cO o us rg g ga h a lb u1 ++ mdU cI hm bm v1) H := hP
  replace hD : va_D A (cvU cI cO o us rg g ga h a lb u1 ++ mdU cI hm bm v1) := hD
  refine lv_icmp_eq (tgt := 922) hx hb dL_law_720 (by decide) (fun c9 => ?_) (fun c9 => absurd (by rw [h1.1, h2.1]) c9)
  exact K u1 v1 _ _ ls (RF_step hx4 hn4 he hG kd_oTk h1.2 h2.2) hP hD hS hl

set_option maxHeartbeats 4000000 in
set_option maxRecDepth 100000 in
theorem lc_17 (F : CallFix p m c cL_law 4 s args WL RL) (hC : CT D cI cO s) (hA : ∀ q, s.heap.size ≤ q → A q) (hX : va_X b L xs s s.heap) (hbl : b < s.heap.size) (hbA : ¬ A b) (hc9 : c0 < 900) (hj : j + 4 ≤ L) (hL : L ≤ 2048) (hF : RF c0 u v) (hP : va_P D vwCl (cvU cI cO o us rg g ga h a lb u ++ mdU cI hm bm v) H) (hD : va_D A (cvU cI cO o us rg g ga h a lb u ++ mdU cI hm bm v)) (hS : va_S A s.heap H locs) (hl : lv_has ls 4 [(0, .ref b), (1, .ref o), (2, .ref hm), (3, .int (nI j))]) (K : ∀ (u : CV) (v : MV) (H : Heap) (locs : List Loc) (ls : Array Slot), RF (c0 + 1) u v → va_P D vwCl (cvU cI cO o us rg g ga h a lb u ++ mdU cI hm bm v) H → va_D A (cvU cI cO o us rg g ga h a lb u ++ mdU cI hm bm v) → va_S A s.heap H locs → lv_has ls 4 [(0, .ref b), (1, .ref o), (2, .ref hm), (3, .int (nI j))] → W p l e room_1 s m args below meth c H locs 600000 7302250 Q (F0 m 922 ls [])) : W p l e room_1 s m args below meth c H locs 600000 7302250 Q (F0 m 725 ls []) := by
  have hx := F.1
  have hb := F.2.1
  have hown := F.2.2.2.1
  obtain ⟨⟨e0, e1, e2⟩, S, B, nx, sz, G⟩ := u
  obtain ⟨w, past, er, bf, tk, sv, hs⟩ := v
  have hF0 := hF
  obtain ⟨x, n, hx4, hn4, hnx, hsz, hsv, he, hR, hG⟩ := hF
  replace hnx : nx = nI x := hnx
  replace hsz : sz = nI n := hsz
  replace hsv : sv = nI n := hsv
  subst hnx
  subst hsz
  subst hsv
  replace he : er 0 = e0 ∧ er 1 = e1 ∧ er 2 = e2 := he
  replace hR : RC c0 S w := hR
  replace hG : ∀ i, i < n → RC c0 (G ((x + 4 - n + i) % 4)) (fun k => past (470 * i + k)) := hG
  replace hP : va_P D vwCl (([(o, .inr (2, [.ref (h), .ref (us), .ref (lb), .int e0, .int e1, .int e2]))] ++ (usS cI cO us rg g ga ((nI (x))) ((nI (n))) G ++ (stW cI h a S ++ ([(lb, .inl (cI, 96, .inl B))])))) ++ mdU cI hm bm (w, past, er, bf, tk, nI n, hs)) H := hP
  replace hD : va_D A (([(o, .inr (2, [.ref (h), .ref (us), .ref (lb), .int e0, .int e1, .int e2]))] ++ (usS cI cO us rg g ga ((nI (x))) ((nI (n))) G ++ (stW cI h a S ++ ([(lb, .inl (cI, 96, .inl B))])))) ++ mdU cI hm bm (w, past, er, bf, tk, nI n, hs)) := hD
  refine lv_aload_n hx hb dL_law_725 rfl (lv_at hl 1 rfl) ?_
  have hPc := va_pl0 hP
  have hDc := va_dl hD
  refine goWi (pre := []) (wc := [(o, .inr (2, [.ref (h), .ref (us), .ref (lb), .int e0, .int e1, .int e2]))] ++ (usS cI cO us rg g ga ((nI (x))) ((nI (n))) G ++ (stW cI h a S ++ ([(lb, .inl (cI, 96, .inl B))])))) (suf := mdU cI hm bm (w, past, er, bf, tk, nI n, hs)) (kV (As := []) (rest := []) F (c_X2_time l D cI cO _ o us rg g ga h a lb e0 e1 e2 G S B w c0 hR x n hx4 hn4 hc9 ) ywX2_time qw365 qw366 qw367 ⟨rfl, rfl⟩ ⟨Nat.le_of_ble_eq_true rfl, Nat.le_of_ble_eq_true rfl⟩ (preV (preW hPc hC hDc) hC hPc (ci := 2) (q0 := 0) rfl rfl rfl) rfl hl.1 rfl (Nat.le_of_ble_eq_true rfl) dL_law_726 ⟨Nat.le_refl _, Nat.le_refl _⟩) (by rw [List.nil_append]; exact hP) (by rw [List.nil_append]; exact hD) hS hA (fun r1 u1 H locs h1 hP hD hS => ?_)
  replace hP : va_P D vwCl (cvU cI cO o us rg g ga h a lb u1 ++ mdW cI hm bm w past er bf tk (nI n) hs) H := hP
  replace hD : va_D A (cvU cI cO o us rg g ga h a lb u1 ++ mdW cI hm bm w past er bf tk (nI n) hs) := hD
  refine lv_aload_n hx hb dL_law_729 rfl (lv_at hl 2 rfl) ?_
  have hPm := va_pr0 hP
  have hDm := va_dr hD
  refine goWi (pre := cvU cI cO o us rg g ga h a lb u1) (wc := mdW cI hm bm w past er bf tk (nI n) hs) (suf := []) (kV (As := []) (rest := [.int r1]) F (c_X3_time l D cI cO _ hm bm w past er bf tk (nI n) hs c0 hR.wf n hc9 hn4 rfl ) ywX3_time qw618 qw619 qw620 ⟨rfl, rfl⟩ ⟨Nat.le_of_ble_eq_true rfl, Nat.le_of_ble_eq_true rfl⟩ (preV (preW hPm hC hDm) hC hPm (ci := 3) (q0 := 0) rfl rfl rfl) rfl hl.1 rfl (Nat.le_of_ble_eq_true rfl) dL_law_730 ⟨Nat.le_refl _, Nat.le_refl _⟩) (by rw [List.append_nil]; exact hP) (by rw [List.append_nil]; exact hD) hS hA (fun r2 v1 H locs h2 hP hD hS => ?_)
  rw [List.append_nil] at hP hD
  replace hP : va_P D vwCl (cvU cI cO o us rg g ga h a lb u1 ++ mdU cI hm bm v1) H := hP
  replace hD : va_D A (cvU cI cO o us rg g ga h a lb u1 ++ mdU cI hm bm v1) := hD
  refine lv_icmp_eq (tgt := 922) hx hb dL_law_733 (by decide) (fun c9 => ?_) (fun c9 => absurd (by rw [h1.1, h2.1]) c9)
  exact K u1 v1 _ _ ls (RF_step hx4 hn4 he hG kd_oGet h1.2 h2.2) hP hD hS hl

set_option maxHeartbeats 4000000 in
set_option maxRecDepth 100000 in
theorem lc_18 (F : CallFix p m c cL_law 4 s args WL RL) (hC : CT D cI cO s) (hA : ∀ q, s.heap.size ≤ q → A q) (hX : va_X b L xs s s.heap) (hbl : b < s.heap.size) (hbA : ¬ A b) (hc9 : c0 < 900) (hj : j + 4 ≤ L) (hL : L ≤ 2048) (hF : RF c0 u v) (hP : va_P D vwCl (cvU cI cO o us rg g ga h a lb u ++ mdU cI hm bm v) H) (hD : va_D A (cvU cI cO o us rg g ga h a lb u ++ mdU cI hm bm v)) (hS : va_S A s.heap H locs) (hl : lv_has ls 4 [(0, .ref b), (1, .ref o), (2, .ref hm), (3, .int (nI j))]) (K : ∀ (u : CV) (v : MV) (H : Heap) (locs : List Loc) (ls : Array Slot), RF (c0 + 1) u v → va_P D vwCl (cvU cI cO o us rg g ga h a lb u ++ mdU cI hm bm v) H → va_D A (cvU cI cO o us rg g ga h a lb u ++ mdU cI hm bm v) → va_S A s.heap H locs → lv_has ls 4 [(0, .ref b), (1, .ref o), (2, .ref hm), (3, .int (nI j))] → W p l e room_1 s m args below meth c H locs 600000 7302250 Q (F0 m 922 ls [])) : W p l e room_1 s m args below meth c H locs 600000 7302250 Q (F0 m 738 ls []) := by
  have hx := F.1
  have hb := F.2.1
  have hown := F.2.2.2.1
  obtain ⟨⟨e0, e1, e2⟩, S, B, nx, sz, G⟩ := u
  obtain ⟨w, past, er, bf, tk, sv, hs⟩ := v
  have hF0 := hF
  obtain ⟨x, n, hx4, hn4, hnx, hsz, hsv, he, hR, hG⟩ := hF
  replace hnx : nx = nI x := hnx
  replace hsz : sz = nI n := hsz
  replace hsv : sv = nI n := hsv
  subst hnx
  subst hsz
  subst hsv
  replace he : er 0 = e0 ∧ er 1 = e1 ∧ er 2 = e2 := he
  replace hR : RC c0 S w := hR
  replace hG : ∀ i, i < n → RC c0 (G ((x + 4 - n + i) % 4)) (fun k => past (470 * i + k)) := hG
  replace hP : va_P D vwCl (([(o, .inr (2, [.ref (h), .ref (us), .ref (lb), .int e0, .int e1, .int e2]))] ++ (usS cI cO us rg g ga ((nI (x))) ((nI (n))) G ++ (stW cI h a S ++ ([(lb, .inl (cI, 96, .inl B))])))) ++ mdU cI hm bm (w, past, er, bf, tk, nI n, hs)) H := hP
  replace hD : va_D A (([(o, .inr (2, [.ref (h), .ref (us), .ref (lb), .int e0, .int e1, .int e2]))] ++ (usS cI cO us rg g ga ((nI (x))) ((nI (n))) G ++ (stW cI h a S ++ ([(lb, .inl (cI, 96, .inl B))])))) ++ mdU cI hm bm (w, past, er, bf, tk, nI n, hs)) := hD
  refine lv_aload_n hx hb dL_law_738 rfl (lv_at hl 1 rfl) ?_
  refine lv_aload_n hx hb dL_law_739 rfl (lv_at hl 0 rfl) ?_
  refine lv_iload_n hx hb dL_law_740 rfl (lv_at hl 3 rfl) ?_
  refine lv_iconst (v := (nI (1))) hx hb dL_law_741 (by decide) ?_
  refine n_iadd hx hb dL_law_742 ?_
  refine va_sld hx hb hX hbl hbA hS (vp_in_nI (by omega) (by omega)) dL_law_743 ?_
  refine w_cv (y := xs (j + 1)) (congrArg xs (nI_clamp (by omega))) ?_
  refine lv_aload_n hx hb dL_law_744 rfl (lv_at hl 0 rfl) ?_
  refine lv_iload_n hx hb dL_law_745 rfl (lv_at hl 3 rfl) ?_
  refine lv_iconst (v := (nI (2))) hx hb dL_law_746 (by decide) ?_
  refine n_iadd hx hb dL_law_747 ?_
  refine va_sld hx hb hX hbl hbA hS (vp_in_nI (by omega) (by omega)) dL_law_748 ?_
  refine w_cv (y := xs (j + 2)) (congrArg xs (nI_clamp (by omega))) ?_
  have hPc := va_pl0 hP
  have hDc := va_dl hD
  refine goWi (pre := []) (wc := [(o, .inr (2, [.ref (h), .ref (us), .ref (lb), .int e0, .int e1, .int e2]))] ++ (usS cI cO us rg g ga ((nI (x))) ((nI (n))) G ++ (stW cI h a S ++ ([(lb, .inl (cI, 96, .inl B))])))) (suf := mdU cI hm bm (w, past, er, bf, tk, nI n, hs)) (kV (As := [.int (xs (j + 1)), .int (xs (j + 2))]) (rest := []) F (c_X2_isHeld l D cI cO _ o us rg g ga h a lb e0 e1 e2 G S B w c0 hR x n hx4 hn4 hc9 (xs (j + 1)) (xs (j + 2))) ywX2_isHeld qw369 qw370 qw371 ⟨rfl, rfl⟩ ⟨Nat.le_of_ble_eq_true rfl, Nat.le_of_ble_eq_true rfl⟩ (preV (preW hPc hC hDc) hC hPc (ci := 2) (q0 := 0) rfl rfl rfl) rfl hl.1 rfl (Nat.le_of_ble_eq_true rfl) dL_law_749 ⟨Nat.le_refl _, Nat.le_refl _⟩) (by rw [List.nil_append]; exact hP) (by rw [List.nil_append]; exact hD) hS hA (fun r1 u1 H locs h1 hP hD hS => ?_)
  replace hP : va_P D vwCl (cvU cI cO o us rg g ga h a lb u1 ++ mdW cI hm bm w past er bf tk (nI n) hs) H := hP
  replace hD : va_D A (cvU cI cO o us rg g ga h a lb u1 ++ mdW cI hm bm w past er bf tk (nI n) hs) := hD
  refine lv_aload_n hx hb dL_law_752 rfl (lv_at hl 2 rfl) ?_
  refine lv_aload_n hx hb dL_law_753 rfl (lv_at hl 0 rfl) ?_
  refine lv_iload_n hx hb dL_law_754 rfl (lv_at hl 3 rfl) ?_
  refine lv_iconst (v := (nI (1))) hx hb dL_law_755 (by decide) ?_
  refine n_iadd hx hb dL_law_756 ?_
  refine va_sld hx hb hX hbl hbA hS (vp_in_nI (by omega) (by omega)) dL_law_757 ?_
  refine w_cv (y := xs (j + 1)) (congrArg xs (nI_clamp (by omega))) ?_
  refine lv_aload_n hx hb dL_law_758 rfl (lv_at hl 0 rfl) ?_
  refine lv_iload_n hx hb dL_law_759 rfl (lv_at hl 3 rfl) ?_
  refine lv_iconst (v := (nI (2))) hx hb dL_law_760 (by decide) ?_
  refine n_iadd hx hb dL_law_761 ?_
  refine va_sld hx hb hX hbl hbA hS (vp_in_nI (by omega) (by omega)) dL_law_762 ?_
  refine w_cv (y := xs (j + 2)) (congrArg xs (nI_clamp (by omega))) ?_
  have hPm := va_pr0 hP
  have hDm := va_dr hD
  refine goWi (pre := cvU cI cO o us rg g ga h a lb u1) (wc := mdW cI hm bm w past er bf tk (nI n) hs) (suf := []) (kV (As := [.int (xs (j + 1)), .int (xs (j + 2))]) (rest := [.int r1]) F (c_X3_isHeld l D cI cO _ hm bm w past er bf tk (nI n) hs c0 hR.wf n hc9 hn4 rfl (xs (j + 1)) (xs (j + 2))) ywX3_isHeld qw622 qw623 qw624 ⟨rfl, rfl⟩ ⟨Nat.le_of_ble_eq_true rfl, Nat.le_of_ble_eq_true rfl⟩ (preV (preW hPm hC hDm) hC hPm (ci := 3) (q0 := 0) rfl rfl rfl) rfl hl.1 rfl (Nat.le_of_ble_eq_true rfl) dL_law_763 ⟨Nat.le_refl _, Nat.le_refl _⟩) (by rw [List.append_nil]; exact hP) (by rw [List.append_nil]; exact hD) hS hA (fun r2 v1 H locs h2 hP hD hS => ?_)
  rw [List.append_nil] at hP hD
  replace hP : va_P D vwCl (cvU cI cO o us rg g ga h a lb u1 ++ mdU cI hm bm v1) H := hP
  replace hD : va_D A (cvU cI cO o us rg g ga h a lb u1 ++ mdU cI hm bm v1) := hD
  refine lv_icmp_eq (tgt := 922) hx hb dL_law_766 (by decide) (fun c9 => ?_) (fun c9 => absurd (by rw [h1.1, h2.1]) c9)
  exact K u1 v1 _ _ ls (RF_step hx4 hn4 he hG kd_oIh h1.2 h2.2) hP hD hS hl

set_option maxHeartbeats 4000000 in
set_option maxRecDepth 100000 in
theorem lc_19 (F : CallFix p m c cL_law 4 s args WL RL) (hC : CT D cI cO s) (hA : ∀ q, s.heap.size ≤ q → A q) (hX : va_X b L xs s s.heap) (hbl : b < s.heap.size) (hbA : ¬ A b) (hc9 : c0 < 900) (hj : j + 4 ≤ L) (hL : L ≤ 2048) (hF : RF c0 u v) (hP : va_P D vwCl (cvU cI cO o us rg g ga h a lb u ++ mdU cI hm bm v) H) (hD : va_D A (cvU cI cO o us rg g ga h a lb u ++ mdU cI hm bm v)) (hS : va_S A s.heap H locs) (hl : lv_has ls 4 [(0, .ref b), (1, .ref o), (2, .ref hm), (3, .int (nI j))]) (K : ∀ (u : CV) (v : MV) (H : Heap) (locs : List Loc) (ls : Array Slot), RF (c0 + 1) u v → va_P D vwCl (cvU cI cO o us rg g ga h a lb u ++ mdU cI hm bm v) H → va_D A (cvU cI cO o us rg g ga h a lb u ++ mdU cI hm bm v) → va_S A s.heap H locs → lv_has ls 4 [(0, .ref b), (1, .ref o), (2, .ref hm), (3, .int (nI j))] → W p l e room_1 s m args below meth c H locs 600000 7302250 Q (F0 m 922 ls [])) : W p l e room_1 s m args below meth c H locs 600000 7302250 Q (F0 m 771 ls []) := by
  have hx := F.1
  have hb := F.2.1
  have hown := F.2.2.2.1
  obtain ⟨⟨e0, e1, e2⟩, S, B, nx, sz, G⟩ := u
  obtain ⟨w, past, er, bf, tk, sv, hs⟩ := v
  have hF0 := hF
  obtain ⟨x, n, hx4, hn4, hnx, hsz, hsv, he, hR, hG⟩ := hF
  replace hnx : nx = nI x := hnx
  replace hsz : sz = nI n := hsz
  replace hsv : sv = nI n := hsv
  subst hnx
  subst hsz
  subst hsv
  replace he : er 0 = e0 ∧ er 1 = e1 ∧ er 2 = e2 := he
  replace hR : RC c0 S w := hR
  replace hG : ∀ i, i < n → RC c0 (G ((x + 4 - n + i) % 4)) (fun k => past (470 * i + k)) := hG
  replace hP : va_P D vwCl (([(o, .inr (2, [.ref (h), .ref (us), .ref (lb), .int e0, .int e1, .int e2]))] ++ (usS cI cO us rg g ga ((nI (x))) ((nI (n))) G ++ (stW cI h a S ++ ([(lb, .inl (cI, 96, .inl B))])))) ++ mdU cI hm bm (w, past, er, bf, tk, nI n, hs)) H := hP
  replace hD : va_D A (([(o, .inr (2, [.ref (h), .ref (us), .ref (lb), .int e0, .int e1, .int e2]))] ++ (usS cI cO us rg g ga ((nI (x))) ((nI (n))) G ++ (stW cI h a S ++ ([(lb, .inl (cI, 96, .inl B))])))) ++ mdU cI hm bm (w, past, er, bf, tk, nI n, hs)) := hD
  refine lv_aload_n hx hb dL_law_771 rfl (lv_at hl 1 rfl) ?_
  have hPc := va_pl0 hP
  have hDc := va_dl hD
  refine goWi (pre := []) (wc := [(o, .inr (2, [.ref (h), .ref (us), .ref (lb), .int e0, .int e1, .int e2]))] ++ (usS cI cO us rg g ga ((nI (x))) ((nI (n))) G ++ (stW cI h a S ++ ([(lb, .inl (cI, 96, .inl B))])))) (suf := mdU cI hm bm (w, past, er, bf, tk, nI n, hs)) (kV (As := []) (rest := []) F (c_X2_heldMessages l D cI cO _ o us rg g ga h a lb e0 e1 e2 G S B w c0 hR x n hx4 hn4 hc9 ) ywX2_heldMessages qw375 qw376 qw377 ⟨rfl, rfl⟩ ⟨Nat.le_of_ble_eq_true rfl, Nat.le_of_ble_eq_true rfl⟩ (preV (preW hPc hC hDc) hC hPc (ci := 2) (q0 := 0) rfl rfl rfl) rfl hl.1 rfl (Nat.le_of_ble_eq_true rfl) dL_law_772 ⟨Nat.le_refl _, Nat.le_refl _⟩) (by rw [List.nil_append]; exact hP) (by rw [List.nil_append]; exact hD) hS hA (fun r1 u1 H locs h1 hP hD hS => ?_)
  replace hP : va_P D vwCl (cvU cI cO o us rg g ga h a lb u1 ++ mdW cI hm bm w past er bf tk (nI n) hs) H := hP
  replace hD : va_D A (cvU cI cO o us rg g ga h a lb u1 ++ mdW cI hm bm w past er bf tk (nI n) hs) := hD
  refine lv_aload_n hx hb dL_law_775 rfl (lv_at hl 2 rfl) ?_
  have hPm := va_pr0 hP
  have hDm := va_dr hD
  refine goWi (pre := cvU cI cO o us rg g ga h a lb u1) (wc := mdW cI hm bm w past er bf tk (nI n) hs) (suf := []) (kV (As := []) (rest := [.int r1]) F (c_X3_heldMessages l D cI cO _ hm bm w past er bf tk (nI n) hs c0 hR.wf n hc9 hn4 rfl ) ywX3_heldMessages qw626 qw627 qw628 ⟨rfl, rfl⟩ ⟨Nat.le_of_ble_eq_true rfl, Nat.le_of_ble_eq_true rfl⟩ (preV (preW hPm hC hDm) hC hPm (ci := 3) (q0 := 0) rfl rfl rfl) rfl hl.1 rfl (Nat.le_of_ble_eq_true rfl) dL_law_776 ⟨Nat.le_refl _, Nat.le_refl _⟩) (by rw [List.append_nil]; exact hP) (by rw [List.append_nil]; exact hD) hS hA (fun r2 v1 H locs h2 hP hD hS => ?_)
  rw [List.append_nil] at hP hD
  replace hP : va_P D vwCl (cvU cI cO o us rg g ga h a lb u1 ++ mdU cI hm bm v1) H := hP
  replace hD : va_D A (cvU cI cO o us rg g ga h a lb u1 ++ mdU cI hm bm v1) := hD
  refine lv_icmp_eq (tgt := 922) hx hb dL_law_779 (by decide) (fun c9 => ?_) (fun c9 => absurd (by rw [h1.1, h2.1]) c9)
  exact K u1 v1 _ _ ls (RF_step hx4 hn4 he hG kd_oGet h1.2 h2.2) hP hD hS hl
end LC
