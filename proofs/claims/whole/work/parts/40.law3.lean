section LC
variable {p : Program} {l : Launch} {e : Env} {s : State} {m : MethodId} {args : Array Value} {below : List Frame} {meth : Method} {c : Code} {Q : State → Prop} {D : va_G} {cI cO : ClassId} {A : Nat → Prop} {b L : Nat} {xs : Nat → Int32} {o us rg : Nat} {g : Nat → Nat} {ga : Nat → Nat → Nat} {h : Nat} {a : Nat → Nat} {lb hm : Nat} {bm : Nat → Nat} {c0 j : Nat} {u : CV} {v : MV} {H : Heap} {locs : List Loc} {ls : Array Slot}
set_option maxHeartbeats 4000000 in
set_option maxRecDepth 100000 in
theorem lc_20 (F : CallFix p m c cL_law 4 s args WL RL) (hC : CT D cI cO s) (hA : ∀ q, s.heap.size ≤ q → A q) (hX : va_X b L xs s s.heap) (hbl : b < s.heap.size) (hbA : ¬ A b) (hc9 : c0 < 900) (hj : j + 4 ≤ L) (hL : L ≤ 2048) (hF : RF c0 u v) (hP : va_P D vwCl (cvU cI cO o us rg g ga h a lb u ++ mdU cI hm bm v) H) (hD : va_D A (cvU cI cO o us rg g ga h a lb u ++ mdU cI hm bm v)) (hS : va_S A s.heap H locs) (hl : lv_has ls 4 [(0, .ref b), (1, .ref o), (2, .ref hm), (3, .int (nI j))]) (K : ∀ (u : CV) (v : MV) (H : Heap) (locs : List Loc) (ls : Array Slot), RF (c0 + 1) u v → va_P D vwCl (cvU cI cO o us rg g ga h a lb u ++ mdU cI hm bm v) H → va_D A (cvU cI cO o us rg g ga h a lb u ++ mdU cI hm bm v) → va_S A s.heap H locs → lv_has ls 4 [(0, .ref b), (1, .ref o), (2, .ref hm), (3, .int (nI j))] → W p l e room_1 s m args below meth c H locs 600000 7302250 Q (F0 m 922 ls [])) : W p l e room_1 s m args below meth c H locs 600000 7302250 Q (F0 m 784 ls []) := by
  have hx := F.1
  have hb := F.2.1
  have hown := F.2.2.2.1
  obtain ⟨⟨e0, e1, e2⟩, S, B, nx, sz, G⟩ := u
  obtain ⟨w, past, er, bf, tk, sv, hs⟩ := v
  have hF0 := hF
  obtain ⟨x, n, hx4, hn4, hnx, hsz, hsv, he, hR, hG⟩ := hF
  replace hnx : nx = nI x := hnx
  replace hsz : sz = nI n := hsz
  replace hsv : sv = nI n := hsv
  subst hnx
  subst hsz
  subst hsv
  replace he : er 0 = e0 ∧ er 1 = e1 ∧ er 2 = e2 := he
  replace hR : RC c0 S w := hR
  replace hG : ∀ i, i < n → RC c0 (G ((x + 4 - n + i) % 4)) (fun k => past (470 * i + k)) := hG
  replace hP : va_P D vwCl (([(o, .inr (2, [.ref (h), .ref (us), .ref (lb), .int e0, .int e1, .int e2]))] ++ (usS cI cO us rg g ga ((nI (x))) ((nI (n))) G ++ (stW cI h a S ++ ([(lb, .inl (cI, 96, .inl B))])))) ++ mdU cI hm bm (w, past, er, bf, tk, nI n, hs)) H := hP
  replace hD : va_D A (([(o, .inr (2, [.ref (h), .ref (us), .ref (lb), .int e0, .int e1, .int e2]))] ++ (usS cI cO us rg g ga ((nI (x))) ((nI (n))) G ++ (stW cI h a S ++ ([(lb, .inl (cI, 96, .inl B))])))) ++ mdU cI hm bm (w, past, er, bf, tk, nI n, hs)) := hD
  refine lv_aload_n hx hb dL_law_784 rfl (lv_at hl 1 rfl) ?_
  have hPc := va_pl0 hP
  have hDc := va_dl hD
  refine goWi (pre := []) (wc := [(o, .inr (2, [.ref (h), .ref (us), .ref (lb), .int e0, .int e1, .int e2]))] ++ (usS cI cO us rg g ga ((nI (x))) ((nI (n))) G ++ (stW cI h a S ++ ([(lb, .inl (cI, 96, .inl B))])))) (suf := mdU cI hm bm (w, past, er, bf, tk, nI n, hs)) (kV (As := []) (rest := []) F (c_X2_delivered l D cI cO _ o us rg g ga h a lb e0 e1 e2 G S B w c0 hR x n hx4 hn4 hc9 ) ywX2_delivered qw379 qw380 qw381 ⟨rfl, rfl⟩ ⟨Nat.le_of_ble_eq_true rfl, Nat.le_of_ble_eq_true rfl⟩ (preV (preW hPc hC hDc) hC hPc (ci := 2) (q0 := 0) rfl rfl rfl) rfl hl.1 rfl (Nat.le_of_ble_eq_true rfl) dL_law_785 ⟨Nat.le_refl _, Nat.le_refl _⟩) (by rw [List.nil_append]; exact hP) (by rw [List.nil_append]; exact hD) hS hA (fun r1 u1 H locs h1 hP hD hS => ?_)
  replace hP : va_P D vwCl (cvU cI cO o us rg g ga h a lb u1 ++ mdW cI hm bm w past er bf tk (nI n) hs) H := hP
  replace hD : va_D A (cvU cI cO o us rg g ga h a lb u1 ++ mdW cI hm bm w past er bf tk (nI n) hs) := hD
  refine lv_aload_n hx hb dL_law_788 rfl (lv_at hl 2 rfl) ?_
  have hPm := va_pr0 hP
  have hDm := va_dr hD
  refine goWi (pre := cvU cI cO o us rg g ga h a lb u1) (wc := mdW cI hm bm w past er bf tk (nI n) hs) (suf := []) (kV (As := []) (rest := [.int r1]) F (c_X3_delivered l D cI cO _ hm bm w past er bf tk (nI n) hs c0 hR.wf n hc9 hn4 rfl ) ywX3_delivered qw630 qw631 qw632 ⟨rfl, rfl⟩ ⟨Nat.le_of_ble_eq_true rfl, Nat.le_of_ble_eq_true rfl⟩ (preV (preW hPm hC hDm) hC hPm (ci := 3) (q0 := 0) rfl rfl rfl) rfl hl.1 rfl (Nat.le_of_ble_eq_true rfl) dL_law_789 ⟨Nat.le_refl _, Nat.le_refl _⟩) (by rw [List.append_nil]; exact hP) (by rw [List.append_nil]; exact hD) hS hA (fun r2 v1 H locs h2 hP hD hS => ?_)
  rw [List.append_nil] at hP hD
  replace hP : va_P D vwCl (cvU cI cO o us rg g ga h a lb u1 ++ mdU cI hm bm v1) H := hP
  replace hD : va_D A (cvU cI cO o us rg g ga h a lb u1 ++ mdU cI hm bm v1) := hD
  refine lv_icmp_eq (tgt := 922) hx hb dL_law_792 (by decide) (fun c9 => ?_) (fun c9 => absurd (by rw [h1.1, h2.1]) c9)
  exact K u1 v1 _ _ ls (RF_step hx4 hn4 he hG kd_oGet h1.2 h2.2) hP hD hS hl

set_option maxHeartbeats 4000000 in
set_option maxRecDepth 100000 in
theorem lc_21 (F : CallFix p m c cL_law 4 s args WL RL) (hC : CT D cI cO s) (hA : ∀ q, s.heap.size ≤ q → A q) (hX : va_X b L xs s s.heap) (hbl : b < s.heap.size) (hbA : ¬ A b) (hc9 : c0 < 900) (hj : j + 4 ≤ L) (hL : L ≤ 2048) (hF : RF c0 u v) (hP : va_P D vwCl (cvU cI cO o us rg g ga h a lb u ++ mdU cI hm bm v) H) (hD : va_D A (cvU cI cO o us rg g ga h a lb u ++ mdU cI hm bm v)) (hS : va_S A s.heap H locs) (hl : lv_has ls 4 [(0, .ref b), (1, .ref o), (2, .ref hm), (3, .int (nI j))]) (K : ∀ (u : CV) (v : MV) (H : Heap) (locs : List Loc) (ls : Array Slot), RF (c0 + 1) u v → va_P D vwCl (cvU cI cO o us rg g ga h a lb u ++ mdU cI hm bm v) H → va_D A (cvU cI cO o us rg g ga h a lb u ++ mdU cI hm bm v) → va_S A s.heap H locs → lv_has ls 4 [(0, .ref b), (1, .ref o), (2, .ref hm), (3, .int (nI j))] → W p l e room_1 s m args below meth c H locs 600000 7302250 Q (F0 m 922 ls [])) : W p l e room_1 s m args below meth c H locs 600000 7302250 Q (F0 m 797 ls []) := by
  have hx := F.1
  have hb := F.2.1
  have hown := F.2.2.2.1
  obtain ⟨⟨e0, e1, e2⟩, S, B, nx, sz, G⟩ := u
  obtain ⟨w, past, er, bf, tk, sv, hs⟩ := v
  have hF0 := hF
  obtain ⟨x, n, hx4, hn4, hnx, hsz, hsv, he, hR, hG⟩ := hF
  replace hnx : nx = nI x := hnx
  replace hsz : sz = nI n := hsz
  replace hsv : sv = nI n := hsv
  subst hnx
  subst hsz
  subst hsv
  replace he : er 0 = e0 ∧ er 1 = e1 ∧ er 2 = e2 := he
  replace hR : RC c0 S w := hR
  replace hG : ∀ i, i < n → RC c0 (G ((x + 4 - n + i) % 4)) (fun k => past (470 * i + k)) := hG
  replace hP : va_P D vwCl (([(o, .inr (2, [.ref (h), .ref (us), .ref (lb), .int e0, .int e1, .int e2]))] ++ (usS cI cO us rg g ga ((nI (x))) ((nI (n))) G ++ (stW cI h a S ++ ([(lb, .inl (cI, 96, .inl B))])))) ++ mdU cI hm bm (w, past, er, bf, tk, nI n, hs)) H := hP
  replace hD : va_D A (([(o, .inr (2, [.ref (h), .ref (us), .ref (lb), .int e0, .int e1, .int e2]))] ++ (usS cI cO us rg g ga ((nI (x))) ((nI (n))) G ++ (stW cI h a S ++ ([(lb, .inl (cI, 96, .inl B))])))) ++ mdU cI hm bm (w, past, er, bf, tk, nI n, hs)) := hD
  refine lv_aload_n hx hb dL_law_797 rfl (lv_at hl 1 rfl) ?_
  have hPc := va_pl0 hP
  have hDc := va_dl hD
  refine goWi (pre := []) (wc := [(o, .inr (2, [.ref (h), .ref (us), .ref (lb), .int e0, .int e1, .int e2]))] ++ (usS cI cO us rg g ga ((nI (x))) ((nI (n))) G ++ (stW cI h a S ++ ([(lb, .inl (cI, 96, .inl B))])))) (suf := mdU cI hm bm (w, past, er, bf, tk, nI n, hs)) (kV (As := []) (rest := []) F (c_X2_overtaken l D cI cO _ o us rg g ga h a lb e0 e1 e2 G S B w c0 hR x n hx4 hn4 hc9 ) ywX2_overtaken qw383 qw384 qw385 ⟨rfl, rfl⟩ ⟨Nat.le_of_ble_eq_true rfl, Nat.le_of_ble_eq_true rfl⟩ (preV (preW hPc hC hDc) hC hPc (ci := 2) (q0 := 0) rfl rfl rfl) rfl hl.1 rfl (Nat.le_of_ble_eq_true rfl) dL_law_798 ⟨Nat.le_refl _, Nat.le_refl _⟩) (by rw [List.nil_append]; exact hP) (by rw [List.nil_append]; exact hD) hS hA (fun r1 u1 H locs h1 hP hD hS => ?_)
  replace hP : va_P D vwCl (cvU cI cO o us rg g ga h a lb u1 ++ mdW cI hm bm w past er bf tk (nI n) hs) H := hP
  replace hD : va_D A (cvU cI cO o us rg g ga h a lb u1 ++ mdW cI hm bm w past er bf tk (nI n) hs) := hD
  refine lv_aload_n hx hb dL_law_801 rfl (lv_at hl 2 rfl) ?_
  have hPm := va_pr0 hP
  have hDm := va_dr hD
  refine goWi (pre := cvU cI cO o us rg g ga h a lb u1) (wc := mdW cI hm bm w past er bf tk (nI n) hs) (suf := []) (kV (As := []) (rest := [.int r1]) F (c_X3_overtaken l D cI cO _ hm bm w past er bf tk (nI n) hs c0 hR.wf n hc9 hn4 rfl ) ywX3_overtaken qw634 qw635 qw636 ⟨rfl, rfl⟩ ⟨Nat.le_of_ble_eq_true rfl, Nat.le_of_ble_eq_true rfl⟩ (preV (preW hPm hC hDm) hC hPm (ci := 3) (q0 := 0) rfl rfl rfl) rfl hl.1 rfl (Nat.le_of_ble_eq_true rfl) dL_law_802 ⟨Nat.le_refl _, Nat.le_refl _⟩) (by rw [List.append_nil]; exact hP) (by rw [List.append_nil]; exact hD) hS hA (fun r2 v1 H locs h2 hP hD hS => ?_)
  rw [List.append_nil] at hP hD
  replace hP : va_P D vwCl (cvU cI cO o us rg g ga h a lb u1 ++ mdU cI hm bm v1) H := hP
  replace hD : va_D A (cvU cI cO o us rg g ga h a lb u1 ++ mdU cI hm bm v1) := hD
  refine lv_icmp_eq (tgt := 922) hx hb dL_law_805 (by decide) (fun c9 => ?_) (fun c9 => absurd (by rw [h1.1, h2.1]) c9)
  exact K u1 v1 _ _ ls (RF_step hx4 hn4 he hG kd_oGet h1.2 h2.2) hP hD hS hl

set_option maxHeartbeats 4000000 in
set_option maxRecDepth 100000 in
theorem lc_22 (F : CallFix p m c cL_law 4 s args WL RL) (hC : CT D cI cO s) (hA : ∀ q, s.heap.size ≤ q → A q) (hX : va_X b L xs s s.heap) (hbl : b < s.heap.size) (hbA : ¬ A b) (hc9 : c0 < 900) (hj : j + 4 ≤ L) (hL : L ≤ 2048) (hF : RF c0 u v) (hP : va_P D vwCl (cvU cI cO o us rg g ga h a lb u ++ mdU cI hm bm v) H) (hD : va_D A (cvU cI cO o us rg g ga h a lb u ++ mdU cI hm bm v)) (hS : va_S A s.heap H locs) (hl : lv_has ls 4 [(0, .ref b), (1, .ref o), (2, .ref hm), (3, .int (nI j))]) (K : ∀ (u : CV) (v : MV) (H : Heap) (locs : List Loc) (ls : Array Slot), RF (c0 + 1) u v → va_P D vwCl (cvU cI cO o us rg g ga h a lb u ++ mdU cI hm bm v) H → va_D A (cvU cI cO o us rg g ga h a lb u ++ mdU cI hm bm v) → va_S A s.heap H locs → lv_has ls 4 [(0, .ref b), (1, .ref o), (2, .ref hm), (3, .int (nI j))] → W p l e room_1 s m args below meth c H locs 600000 7302250 Q (F0 m 922 ls [])) : W p l e room_1 s m args below meth c H locs 600000 7302250 Q (F0 m 810 ls []) := by
  have hx := F.1
  have hb := F.2.1
  have hown := F.2.2.2.1
  obtain ⟨⟨e0, e1, e2⟩, S, B, nx, sz, G⟩ := u
  obtain ⟨w, past, er, bf, tk, sv, hs⟩ := v
  have hF0 := hF
  obtain ⟨x, n, hx4, hn4, hnx, hsz, hsv, he, hR, hG⟩ := hF
  replace hnx : nx = nI x := hnx
  replace hsz : sz = nI n := hsz
  replace hsv : sv = nI n := hsv
  subst hnx
  subst hsz
  subst hsv
  replace he : er 0 = e0 ∧ er 1 = e1 ∧ er 2 = e2 := he
  replace hR : RC c0 S w := hR
  replace hG : ∀ i, i < n → RC c0 (G ((x + 4 - n + i) % 4)) (fun k => past (470 * i + k)) := hG
  replace hP : va_P D vwCl (([(o, .inr (2, [.ref (h), .ref (us), .ref (lb), .int e0, .int e1, .int e2]))] ++ (usS cI cO us rg g ga ((nI (x))) ((nI (n))) G ++ (stW cI h a S ++ ([(lb, .inl (cI, 96, .inl B))])))) ++ mdU cI hm bm (w, past, er, bf, tk, nI n, hs)) H := hP
  replace hD : va_D A (([(o, .inr (2, [.ref (h), .ref (us), .ref (lb), .int e0, .int e1, .int e2]))] ++ (usS cI cO us rg g ga ((nI (x))) ((nI (n))) G ++ (stW cI h a S ++ ([(lb, .inl (cI, 96, .inl B))])))) ++ mdU cI hm bm (w, past, er, bf, tk, nI n, hs)) := hD
  refine lv_aload_n hx hb dL_law_810 rfl (lv_at hl 1 rfl) ?_
  have hPc := va_pl0 hP
  have hDc := va_dl hD
  refine goWi (pre := []) (wc := [(o, .inr (2, [.ref (h), .ref (us), .ref (lb), .int e0, .int e1, .int e2]))] ++ (usS cI cO us rg g ga ((nI (x))) ((nI (n))) G ++ (stW cI h a S ++ ([(lb, .inl (cI, 96, .inl B))])))) (suf := mdU cI hm bm (w, past, er, bf, tk, nI n, hs)) (kV (As := []) (rest := []) F (c_X2_unreachable l D cI cO _ o us rg g ga h a lb e0 e1 e2 G S B w c0 hR x n hx4 hn4 hc9 ) ywX2_unreachable qw387 qw388 qw389 ⟨rfl, rfl⟩ ⟨Nat.le_of_ble_eq_true rfl, Nat.le_of_ble_eq_true rfl⟩ (preV (preW hPc hC hDc) hC hPc (ci := 2) (q0 := 0) rfl rfl rfl) rfl hl.1 rfl (Nat.le_of_ble_eq_true rfl) dL_law_811 ⟨Nat.le_refl _, Nat.le_refl _⟩) (by rw [List.nil_append]; exact hP) (by rw [List.nil_append]; exact hD) hS hA (fun r1 u1 H locs h1 hP hD hS => ?_)
  replace hP : va_P D vwCl (cvU cI cO o us rg g ga h a lb u1 ++ mdW cI hm bm w past er bf tk (nI n) hs) H := hP
  replace hD : va_D A (cvU cI cO o us rg g ga h a lb u1 ++ mdW cI hm bm w past er bf tk (nI n) hs) := hD
  refine lv_aload_n hx hb dL_law_814 rfl (lv_at hl 2 rfl) ?_
  have hPm := va_pr0 hP
  have hDm := va_dr hD
  refine goWi (pre := cvU cI cO o us rg g ga h a lb u1) (wc := mdW cI hm bm w past er bf tk (nI n) hs) (suf := []) (kV (As := []) (rest := [.int r1]) F (c_X3_unreachable l D cI cO _ hm bm w past er bf tk (nI n) hs c0 hR.wf n hc9 hn4 rfl ) ywX3_unreachable qw638 qw639 qw640 ⟨rfl, rfl⟩ ⟨Nat.le_of_ble_eq_true rfl, Nat.le_of_ble_eq_true rfl⟩ (preV (preW hPm hC hDm) hC hPm (ci := 3) (q0 := 0) rfl rfl rfl) rfl hl.1 rfl (Nat.le_of_ble_eq_true rfl) dL_law_815 ⟨Nat.le_refl _, Nat.le_refl _⟩) (by rw [List.append_nil]; exact hP) (by rw [List.append_nil]; exact hD) hS hA (fun r2 v1 H locs h2 hP hD hS => ?_)
  rw [List.append_nil] at hP hD
  replace hP : va_P D vwCl (cvU cI cO o us rg g ga h a lb u1 ++ mdU cI hm bm v1) H := hP
  replace hD : va_D A (cvU cI cO o us rg g ga h a lb u1 ++ mdU cI hm bm v1) := hD
  refine lv_icmp_eq (tgt := 922) hx hb dL_law_818 (by decide) (fun c9 => ?_) (fun c9 => absurd (by rw [h1.1, h2.1]) c9)
  exact K u1 v1 _ _ ls (RF_step hx4 hn4 he hG kd_oGet h1.2 h2.2) hP hD hS hl

set_option maxHeartbeats 4000000 in
set_option maxRecDepth 100000 in
theorem lc_23 (F : CallFix p m c cL_law 4 s args WL RL) (hC : CT D cI cO s) (hA : ∀ q, s.heap.size ≤ q → A q) (hX : va_X b L xs s s.heap) (hbl : b < s.heap.size) (hbA : ¬ A b) (hc9 : c0 < 900) (hj : j + 4 ≤ L) (hL : L ≤ 2048) (hF : RF c0 u v) (hP : va_P D vwCl (cvU cI cO o us rg g ga h a lb u ++ mdU cI hm bm v) H) (hD : va_D A (cvU cI cO o us rg g ga h a lb u ++ mdU cI hm bm v)) (hS : va_S A s.heap H locs) (hl : lv_has ls 4 [(0, .ref b), (1, .ref o), (2, .ref hm), (3, .int (nI j))]) (K : ∀ (u : CV) (v : MV) (H : Heap) (locs : List Loc) (ls : Array Slot), RF (c0 + 1) u v → va_P D vwCl (cvU cI cO o us rg g ga h a lb u ++ mdU cI hm bm v) H → va_D A (cvU cI cO o us rg g ga h a lb u ++ mdU cI hm bm v) → va_S A s.heap H locs → lv_has ls 4 [(0, .ref b), (1, .ref o), (2, .ref hm), (3, .int (nI j))] → W p l e room_1 s m args below meth c H locs 600000 7302250 Q (F0 m 922 ls [])) : W p l e room_1 s m args below meth c H locs 600000 7302250 Q (F0 m 823 ls []) := by
  have hx := F.1
  have hb := F.2.1
  have hown := F.2.2.2.1
  obtain ⟨⟨e0, e1, e2⟩, S, B, nx, sz, G⟩ := u
  obtain ⟨w, past, er, bf, tk, sv, hs⟩ := v
  have hF0 := hF
  obtain ⟨x, n, hx4, hn4, hnx, hsz, hsv, he, hR, hG⟩ := hF
  replace hnx : nx = nI x := hnx
  replace hsz : sz = nI n := hsz
  replace hsv : sv = nI n := hsv
  subst hnx
  subst hsz
  subst hsv
  replace he : er 0 = e0 ∧ er 1 = e1 ∧ er 2 = e2 := he
  replace hR : RC c0 S w := hR
  replace hG : ∀ i, i < n → RC c0 (G ((x + 4 - n + i) % 4)) (fun k => past (470 * i + k)) := hG
  replace hP : va_P D vwCl (([(o, .inr (2, [.ref (h), .ref (us), .ref (lb), .int e0, .int e1, .int e2]))] ++ (usS cI cO us rg g ga ((nI (x))) ((nI (n))) G ++ (stW cI h a S ++ ([(lb, .inl (cI, 96, .inl B))])))) ++ mdU cI hm bm (w, past, er, bf, tk, nI n, hs)) H := hP
  replace hD : va_D A (([(o, .inr (2, [.ref (h), .ref (us), .ref (lb), .int e0, .int e1, .int e2]))] ++ (usS cI cO us rg g ga ((nI (x))) ((nI (n))) G ++ (stW cI h a S ++ ([(lb, .inl (cI, 96, .inl B))])))) ++ mdU cI hm bm (w, past, er, bf, tk, nI n, hs)) := hD
  refine lv_aload_n hx hb dL_law_823 rfl (lv_at hl 1 rfl) ?_
  have hPc := va_pl0 hP
  have hDc := va_dl hD
  refine goWi (pre := []) (wc := [(o, .inr (2, [.ref (h), .ref (us), .ref (lb), .int e0, .int e1, .int e2]))] ++ (usS cI cO us rg g ga ((nI (x))) ((nI (n))) G ++ (stW cI h a S ++ ([(lb, .inl (cI, 96, .inl B))])))) (suf := mdU cI hm bm (w, past, er, bf, tk, nI n, hs)) (kV (As := []) (rest := []) F (c_X2_congested l D cI cO _ o us rg g ga h a lb e0 e1 e2 G S B w c0 hR x n hx4 hn4 hc9 ) ywX2_congested qw391 qw392 qw393 ⟨rfl, rfl⟩ ⟨Nat.le_of_ble_eq_true rfl, Nat.le_of_ble_eq_true rfl⟩ (preV (preW hPc hC hDc) hC hPc (ci := 2) (q0 := 0) rfl rfl rfl) rfl hl.1 rfl (Nat.le_of_ble_eq_true rfl) dL_law_824 ⟨Nat.le_refl _, Nat.le_refl _⟩) (by rw [List.nil_append]; exact hP) (by rw [List.nil_append]; exact hD) hS hA (fun r1 u1 H locs h1 hP hD hS => ?_)
  replace hP : va_P D vwCl (cvU cI cO o us rg g ga h a lb u1 ++ mdW cI hm bm w past er bf tk (nI n) hs) H := hP
  replace hD : va_D A (cvU cI cO o us rg g ga h a lb u1 ++ mdW cI hm bm w past er bf tk (nI n) hs) := hD
  refine lv_aload_n hx hb dL_law_827 rfl (lv_at hl 2 rfl) ?_
  have hPm := va_pr0 hP
  have hDm := va_dr hD
  refine goWi (pre := cvU cI cO o us rg g ga h a lb u1) (wc := mdW cI hm bm w past er bf tk (nI n) hs) (suf := []) (kV (As := []) (rest := [.int r1]) F (c_X3_congested l D cI cO _ hm bm w past er bf tk (nI n) hs c0 hR.wf n hc9 hn4 rfl ) ywX3_congested qw642 qw643 qw644 ⟨rfl, rfl⟩ ⟨Nat.le_of_ble_eq_true rfl, Nat.le_of_ble_eq_true rfl⟩ (preV (preW hPm hC hDm) hC hPm (ci := 3) (q0 := 0) rfl rfl rfl) rfl hl.1 rfl (Nat.le_of_ble_eq_true rfl) dL_law_828 ⟨Nat.le_refl _, Nat.le_refl _⟩) (by rw [List.append_nil]; exact hP) (by rw [List.append_nil]; exact hD) hS hA (fun r2 v1 H locs h2 hP hD hS => ?_)
  rw [List.append_nil] at hP hD
  replace hP : va_P D vwCl (cvU cI cO o us rg g ga h a lb u1 ++ mdU cI hm bm v1) H := hP
  replace hD : va_D A (cvU cI cO o us rg g ga h a lb u1 ++ mdU cI hm bm v1) := hD
  refine lv_icmp_eq (tgt := 922) hx hb dL_law_831 (by decide) (fun c9 => ?_) (fun c9 => absurd (by rw [h1.1, h2.1]) c9)
  exact K u1 v1 _ _ ls (RF_step hx4 hn4 he hG kd_oGet h1.2 h2.2) hP hD hS hl

set_option maxHeartbeats 4000000 in
set_option maxRecDepth 100000 in
theorem lc_24 (F : CallFix p m c cL_law 4 s args WL RL) (hC : CT D cI cO s) (hA : ∀ q, s.heap.size ≤ q → A q) (hX : va_X b L xs s s.heap) (hbl : b < s.heap.size) (hbA : ¬ A b) (hc9 : c0 < 900) (hj : j + 4 ≤ L) (hL : L ≤ 2048) (hF : RF c0 u v) (hP : va_P D vwCl (cvU cI cO o us rg g ga h a lb u ++ mdU cI hm bm v) H) (hD : va_D A (cvU cI cO o us rg g ga h a lb u ++ mdU cI hm bm v)) (hS : va_S A s.heap H locs) (hl : lv_has ls 4 [(0, .ref b), (1, .ref o), (2, .ref hm), (3, .int (nI j))]) (K : ∀ (u : CV) (v : MV) (H : Heap) (locs : List Loc) (ls : Array Slot), RF (c0 + 1) u v → va_P D vwCl (cvU cI cO o us rg g ga h a lb u ++ mdU cI hm bm v) H → va_D A (cvU cI cO o us rg g ga h a lb u ++ mdU cI hm bm v) → va_S A s.heap H locs → lv_has ls 4 [(0, .ref b), (1, .ref o), (2, .ref hm), (3, .int (nI j))] → W p l e room_1 s m args below meth c H locs 600000 7302250 Q (F0 m 922 ls [])) : W p l e room_1 s m args below meth c H locs 600000 7302250 Q (F0 m 836 ls []) := by
  have hx := F.1
  have hb := F.2.1
  have hown := F.2.2.2.1
  obtain ⟨⟨e0, e1, e2⟩, S, B, nx, sz, G⟩ := u
  obtain ⟨w, past, er, bf, tk, sv, hs⟩ := v
  have hF0 := hF
  obtain ⟨x, n, hx4, hn4, hnx, hsz, hsv, he, hR, hG⟩ := hF
  replace hnx : nx = nI x := hnx
  replace hsz : sz = nI n := hsz
  replace hsv : sv = nI n := hsv
  subst hnx
  subst hsz
  subst hsv
  replace he : er 0 = e0 ∧ er 1 = e1 ∧ er 2 = e2 := he
  replace hR : RC c0 S w := hR
  replace hG : ∀ i, i < n → RC c0 (G ((x + 4 - n + i) % 4)) (fun k => past (470 * i + k)) := hG
  replace hP : va_P D vwCl (([(o, .inr (2, [.ref (h), .ref (us), .ref (lb), .int e0, .int e1, .int e2]))] ++ (usS cI cO us rg g ga ((nI (x))) ((nI (n))) G ++ (stW cI h a S ++ ([(lb, .inl (cI, 96, .inl B))])))) ++ mdU cI hm bm (w, past, er, bf, tk, nI n, hs)) H := hP
  replace hD : va_D A (([(o, .inr (2, [.ref (h), .ref (us), .ref (lb), .int e0, .int e1, .int e2]))] ++ (usS cI cO us rg g ga ((nI (x))) ((nI (n))) G ++ (stW cI h a S ++ ([(lb, .inl (cI, 96, .inl B))])))) ++ mdU cI hm bm (w, past, er, bf, tk, nI n, hs)) := hD
  refine lv_aload_n hx hb dL_law_836 rfl (lv_at hl 1 rfl) ?_
  have hPc := va_pl0 hP
  have hDc := va_dl hD
  refine goWi (pre := []) (wc := [(o, .inr (2, [.ref (h), .ref (us), .ref (lb), .int e0, .int e1, .int e2]))] ++ (usS cI cO us rg g ga ((nI (x))) ((nI (n))) G ++ (stW cI h a S ++ ([(lb, .inl (cI, 96, .inl B))])))) (suf := mdU cI hm bm (w, past, er, bf, tk, nI n, hs)) (kV (As := []) (rest := []) F (c_X2_lost l D cI cO _ o us rg g ga h a lb e0 e1 e2 G S B w c0 hR x n hx4 hn4 hc9 ) ywX2_lost qw395 qw396 qw397 ⟨rfl, rfl⟩ ⟨Nat.le_of_ble_eq_true rfl, Nat.le_of_ble_eq_true rfl⟩ (preV (preW hPc hC hDc) hC hPc (ci := 2) (q0 := 0) rfl rfl rfl) rfl hl.1 rfl (Nat.le_of_ble_eq_true rfl) dL_law_837 ⟨Nat.le_refl _, Nat.le_refl _⟩) (by rw [List.nil_append]; exact hP) (by rw [List.nil_append]; exact hD) hS hA (fun r1 u1 H locs h1 hP hD hS => ?_)
  replace hP : va_P D vwCl (cvU cI cO o us rg g ga h a lb u1 ++ mdW cI hm bm w past er bf tk (nI n) hs) H := hP
  replace hD : va_D A (cvU cI cO o us rg g ga h a lb u1 ++ mdW cI hm bm w past er bf tk (nI n) hs) := hD
  refine lv_aload_n hx hb dL_law_840 rfl (lv_at hl 2 rfl) ?_
  have hPm := va_pr0 hP
  have hDm := va_dr hD
  refine goWi (pre := cvU cI cO o us rg g ga h a lb u1) (wc := mdW cI hm bm w past er bf tk (nI n) hs) (suf := []) (kV (As := []) (rest := [.int r1]) F (c_X3_lost l D cI cO _ hm bm w past er bf tk (nI n) hs c0 hR.wf n hc9 hn4 rfl ) ywX3_lost qw646 qw647 qw648 ⟨rfl, rfl⟩ ⟨Nat.le_of_ble_eq_true rfl, Nat.le_of_ble_eq_true rfl⟩ (preV (preW hPm hC hDm) hC hPm (ci := 3) (q0 := 0) rfl rfl rfl) rfl hl.1 rfl (Nat.le_of_ble_eq_true rfl) dL_law_841 ⟨Nat.le_refl _, Nat.le_refl _⟩) (by rw [List.append_nil]; exact hP) (by rw [List.append_nil]; exact hD) hS hA (fun r2 v1 H locs h2 hP hD hS => ?_)
  rw [List.append_nil] at hP hD
  replace hP : va_P D vwCl (cvU cI cO o us rg g ga h a lb u1 ++ mdU cI hm bm v1) H := hP
  replace hD : va_D A (cvU cI cO o us rg g ga h a lb u1 ++ mdU cI hm bm v1) := hD
  refine lv_icmp_eq (tgt := 922) hx hb dL_law_844 (by decide) (fun c9 => ?_) (fun c9 => absurd (by rw [h1.1, h2.1]) c9)
  exact K u1 v1 _ _ ls (RF_step hx4 hn4 he hG kd_oGet h1.2 h2.2) hP hD hS hl

set_option maxHeartbeats 4000000 in
set_option maxRecDepth 100000 in
theorem lc_25 (F : CallFix p m c cL_law 4 s args WL RL) (hC : CT D cI cO s) (hA : ∀ q, s.heap.size ≤ q → A q) (hX : va_X b L xs s s.heap) (hbl : b < s.heap.size) (hbA : ¬ A b) (hc9 : c0 < 900) (hj : j + 4 ≤ L) (hL : L ≤ 2048) (hF : RF c0 u v) (hP : va_P D vwCl (cvU cI cO o us rg g ga h a lb u ++ mdU cI hm bm v) H) (hD : va_D A (cvU cI cO o us rg g ga h a lb u ++ mdU cI hm bm v)) (hS : va_S A s.heap H locs) (hl : lv_has ls 4 [(0, .ref b), (1, .ref o), (2, .ref hm), (3, .int (nI j))]) (K : ∀ (u : CV) (v : MV) (H : Heap) (locs : List Loc) (ls : Array Slot), RF (c0 + 1) u v → va_P D vwCl (cvU cI cO o us rg g ga h a lb u ++ mdU cI hm bm v) H → va_D A (cvU cI cO o us rg g ga h a lb u ++ mdU cI hm bm v) → va_S A s.heap H locs → lv_has ls 4 [(0, .ref b), (1, .ref o), (2, .ref hm), (3, .int (nI j))] → W p l e room_1 s m args below meth c H locs 600000 7302250 Q (F0 m 922 ls [])) : W p l e room_1 s m args below meth c H locs 600000 7302250 Q (F0 m 849 ls []) := by
  have hx := F.1
  have hb := F.2.1
  have hown := F.2.2.2.1
  obtain ⟨⟨e0, e1, e2⟩, S, B, nx, sz, G⟩ := u
  obtain ⟨w, past, er, bf, tk, sv, hs⟩ := v
  have hF0 := hF
  obtain ⟨x, n, hx4, hn4, hnx, hsz, hsv, he, hR, hG⟩ := hF
  replace hnx : nx = nI x := hnx
  replace hsz : sz = nI n := hsz
  replace hsv : sv = nI n := hsv
  subst hnx
  subst hsz
  subst hsv
  replace he : er 0 = e0 ∧ er 1 = e1 ∧ er 2 = e2 := he
  replace hR : RC c0 S w := hR
  replace hG : ∀ i, i < n → RC c0 (G ((x + 4 - n + i) % 4)) (fun k => past (470 * i + k)) := hG
  replace hP : va_P D vwCl (([(o, .inr (2, [.ref (h), .ref (us), .ref (lb), .int e0, .int e1, .int e2]))] ++ (usS cI cO us rg g ga ((nI (x))) ((nI (n))) G ++ (stW cI h a S ++ ([(lb, .inl (cI, 96, .inl B))])))) ++ mdU cI hm bm (w, past, er, bf, tk, nI n, hs)) H := hP
  replace hD : va_D A (([(o, .inr (2, [.ref (h), .ref (us), .ref (lb), .int e0, .int e1, .int e2]))] ++ (usS cI cO us rg g ga ((nI (x))) ((nI (n))) G ++ (stW cI h a S ++ ([(lb, .inl (cI, 96, .inl B))])))) ++ mdU cI hm bm (w, past, er, bf, tk, nI n, hs)) := hD
  refine lv_aload_n hx hb dL_law_849 rfl (lv_at hl 1 rfl) ?_
  refine lv_aload_n hx hb dL_law_850 rfl (lv_at hl 0 rfl) ?_
  refine lv_iload_n hx hb dL_law_851 rfl (lv_at hl 3 rfl) ?_
  refine lv_iconst (v := (nI (1))) hx hb dL_law_852 (by decide) ?_
  refine n_iadd hx hb dL_law_853 ?_
  refine va_sld hx hb hX hbl hbA hS (vp_in_nI (by omega) (by omega)) dL_law_854 ?_
  refine w_cv (y := xs (j + 1)) (congrArg xs (nI_clamp (by omega))) ?_
  have hPc := va_pl0 hP
  have hDc := va_dl hD
  refine goWi (pre := []) (wc := [(o, .inr (2, [.ref (h), .ref (us), .ref (lb), .int e0, .int e1, .int e2]))] ++ (usS cI cO us rg g ga ((nI (x))) ((nI (n))) G ++ (stW cI h a S ++ ([(lb, .inl (cI, 96, .inl B))])))) (suf := mdU cI hm bm (w, past, er, bf, tk, nI n, hs)) (kV (As := [.int (xs (j + 1))]) (rest := []) F (c_X2_spread l D cI cO _ o us rg g ga h a lb e0 e1 e2 G S B w c0 hR x n hx4 hn4 hc9 (xs (j + 1))) ywX2_spread qw399 qw400 qw401 ⟨rfl, rfl⟩ ⟨Nat.le_of_ble_eq_true rfl, Nat.le_of_ble_eq_true rfl⟩ (preV (preW hPc hC hDc) hC hPc (ci := 2) (q0 := 0) rfl rfl rfl) rfl hl.1 rfl (Nat.le_of_ble_eq_true rfl) dL_law_855 ⟨Nat.le_refl _, Nat.le_refl _⟩) (by rw [List.nil_append]; exact hP) (by rw [List.nil_append]; exact hD) hS hA (fun r1 u1 H locs h1 hP hD hS => ?_)
  replace hP : va_P D vwCl (cvU cI cO o us rg g ga h a lb u1 ++ mdW cI hm bm w past er bf tk (nI n) hs) H := hP
  replace hD : va_D A (cvU cI cO o us rg g ga h a lb u1 ++ mdW cI hm bm w past er bf tk (nI n) hs) := hD
  refine lv_aload_n hx hb dL_law_858 rfl (lv_at hl 2 rfl) ?_
  refine lv_aload_n hx hb dL_law_859 rfl (lv_at hl 0 rfl) ?_
  refine lv_iload_n hx hb dL_law_860 rfl (lv_at hl 3 rfl) ?_
  refine lv_iconst (v := (nI (1))) hx hb dL_law_861 (by decide) ?_
  refine n_iadd hx hb dL_law_862 ?_
  refine va_sld hx hb hX hbl hbA hS (vp_in_nI (by omega) (by omega)) dL_law_863 ?_
  refine w_cv (y := xs (j + 1)) (congrArg xs (nI_clamp (by omega))) ?_
  have hPm := va_pr0 hP
  have hDm := va_dr hD
  refine goWi (pre := cvU cI cO o us rg g ga h a lb u1) (wc := mdW cI hm bm w past er bf tk (nI n) hs) (suf := []) (kV (As := [.int (xs (j + 1))]) (rest := [.int r1]) F (c_X3_spread l D cI cO _ hm bm w past er bf tk (nI n) hs c0 hR.wf n hc9 hn4 rfl (xs (j + 1))) ywX3_spread qw650 qw651 qw652 ⟨rfl, rfl⟩ ⟨Nat.le_of_ble_eq_true rfl, Nat.le_of_ble_eq_true rfl⟩ (preV (preW hPm hC hDm) hC hPm (ci := 3) (q0 := 0) rfl rfl rfl) rfl hl.1 rfl (Nat.le_of_ble_eq_true rfl) dL_law_864 ⟨Nat.le_refl _, Nat.le_refl _⟩) (by rw [List.append_nil]; exact hP) (by rw [List.append_nil]; exact hD) hS hA (fun r2 v1 H locs h2 hP hD hS => ?_)
  rw [List.append_nil] at hP hD
  replace hP : va_P D vwCl (cvU cI cO o us rg g ga h a lb u1 ++ mdU cI hm bm v1) H := hP
  replace hD : va_D A (cvU cI cO o us rg g ga h a lb u1 ++ mdU cI hm bm v1) := hD
  refine lv_icmp_eq (tgt := 922) hx hb dL_law_867 (by decide) (fun c9 => ?_) (fun c9 => absurd (by rw [h1.1, h2.1]) c9)
  exact K u1 v1 _ _ ls (RF_step hx4 hn4 he hG kd_oSp h1.2 h2.2) hP hD hS hl

set_option maxHeartbeats 4000000 in
set_option maxRecDepth 100000 in
theorem lc_26 (F : CallFix p m c cL_law 4 s args WL RL) (hC : CT D cI cO s) (hA : ∀ q, s.heap.size ≤ q → A q) (hX : va_X b L xs s s.heap) (hbl : b < s.heap.size) (hbA : ¬ A b) (hc9 : c0 < 900) (hj : j + 4 ≤ L) (hL : L ≤ 2048) (hF : RF c0 u v) (hP : va_P D vwCl (cvU cI cO o us rg g ga h a lb u ++ mdU cI hm bm v) H) (hD : va_D A (cvU cI cO o us rg g ga h a lb u ++ mdU cI hm bm v)) (hS : va_S A s.heap H locs) (hl : lv_has ls 4 [(0, .ref b), (1, .ref o), (2, .ref hm), (3, .int (nI j))]) (K : ∀ (u : CV) (v : MV) (H : Heap) (locs : List Loc) (ls : Array Slot), RF (c0 + 1) u v → va_P D vwCl (cvU cI cO o us rg g ga h a lb u ++ mdU cI hm bm v) H → va_D A (cvU cI cO o us rg g ga h a lb u ++ mdU cI hm bm v) → va_S A s.heap H locs → lv_has ls 4 [(0, .ref b), (1, .ref o), (2, .ref hm), (3, .int (nI j))] → W p l e room_1 s m args below meth c H locs 600000 7302250 Q (F0 m 922 ls [])) : W p l e room_1 s m args below meth c H locs 600000 7302250 Q (F0 m 872 ls []) := by
  have hx := F.1
  have hb := F.2.1
  have hown := F.2.2.2.1
  obtain ⟨⟨e0, e1, e2⟩, S, B, nx, sz, G⟩ := u
  obtain ⟨w, past, er, bf, tk, sv, hs⟩ := v
  have hF0 := hF
  obtain ⟨x, n, hx4, hn4, hnx, hsz, hsv, he, hR, hG⟩ := hF
  replace hnx : nx = nI x := hnx
  replace hsz : sz = nI n := hsz
  replace hsv : sv = nI n := hsv
  subst hnx
  subst hsz
  subst hsv
  replace he : er 0 = e0 ∧ er 1 = e1 ∧ er 2 = e2 := he
  replace hR : RC c0 S w := hR
  replace hG : ∀ i, i < n → RC c0 (G ((x + 4 - n + i) % 4)) (fun k => past (470 * i + k)) := hG
  replace hP : va_P D vwCl (([(o, .inr (2, [.ref (h), .ref (us), .ref (lb), .int e0, .int e1, .int e2]))] ++ (usS cI cO us rg g ga ((nI (x))) ((nI (n))) G ++ (stW cI h a S ++ ([(lb, .inl (cI, 96, .inl B))])))) ++ mdU cI hm bm (w, past, er, bf, tk, nI n, hs)) H := hP
  replace hD : va_D A (([(o, .inr (2, [.ref (h), .ref (us), .ref (lb), .int e0, .int e1, .int e2]))] ++ (usS cI cO us rg g ga ((nI (x))) ((nI (n))) G ++ (stW cI h a S ++ ([(lb, .inl (cI, 96, .inl B))])))) ++ mdU cI hm bm (w, past, er, bf, tk, nI n, hs)) := hD
  refine lv_aload_n hx hb dL_law_872 rfl (lv_at hl 1 rfl) ?_
  have hPc := va_pl0 hP
  have hDc := va_dl hD
  refine goWi (pre := []) (wc := [(o, .inr (2, [.ref (h), .ref (us), .ref (lb), .int e0, .int e1, .int e2]))] ++ (usS cI cO us rg g ga ((nI (x))) ((nI (n))) G ++ (stW cI h a S ++ ([(lb, .inl (cI, 96, .inl B))])))) (suf := mdU cI hm bm (w, past, er, bf, tk, nI n, hs)) (kV (As := []) (rest := []) F (c_X2_undo l D cI cO _ o us rg g ga h a lb e0 e1 e2 G S B w c0 hR x n hx4 hn4 hc9 ) ywX2_undo qw407 qw408 qw409 ⟨rfl, rfl⟩ ⟨Nat.le_of_ble_eq_true rfl, Nat.le_of_ble_eq_true rfl⟩ (preV (preW hPc hC hDc) hC hPc (ci := 2) (q0 := 0) rfl rfl rfl) rfl hl.1 rfl (Nat.le_of_ble_eq_true rfl) dL_law_873 ⟨Nat.le_refl _, Nat.le_refl _⟩) (by rw [List.nil_append]; exact hP) (by rw [List.nil_append]; exact hD) hS hA (fun r1 u1 H locs h1 hP hD hS => ?_)
  replace hP : va_P D vwCl (cvU cI cO o us rg g ga h a lb u1 ++ mdW cI hm bm w past er bf tk (nI n) hs) H := hP
  replace hD : va_D A (cvU cI cO o us rg g ga h a lb u1 ++ mdW cI hm bm w past er bf tk (nI n) hs) := hD
  refine lv_aload_n hx hb dL_law_876 rfl (lv_at hl 2 rfl) ?_
  have hPm := va_pr0 hP
  have hDm := va_dr hD
  refine goWi (pre := cvU cI cO o us rg g ga h a lb u1) (wc := mdW cI hm bm w past er bf tk (nI n) hs) (suf := []) (kV (As := []) (rest := [.int r1]) F (c_X3_undo l D cI cO _ hm bm w past er bf tk (nI n) hs c0 hR.wf n hc9 hn4 rfl ) ywX3_undo qw478 qw479 qw480 ⟨rfl, rfl⟩ ⟨Nat.le_of_ble_eq_true rfl, Nat.le_of_ble_eq_true rfl⟩ (preV (preW hPm hC hDm) hC hPm (ci := 3) (q0 := 0) rfl rfl rfl) rfl hl.1 rfl (Nat.le_of_ble_eq_true rfl) dL_law_877 ⟨Nat.le_refl _, Nat.le_refl _⟩) (by rw [List.append_nil]; exact hP) (by rw [List.append_nil]; exact hD) hS hA (fun r2 v1 H locs h2 hP hD hS => ?_)
  rw [List.append_nil] at hP hD
  replace hP : va_P D vwCl (cvU cI cO o us rg g ga h a lb u1 ++ mdU cI hm bm v1) H := hP
  replace hD : va_D A (cvU cI cO o us rg g ga h a lb u1 ++ mdU cI hm bm v1) := hD
  have hU := RF_undo hx4 hn4 he hG h1 h2
  refine lv_icmp_eq (tgt := 922) hx hb dL_law_880 (by decide) (fun c9 => ?_) (fun c9 => absurd (by rw [hU.1]) c9)
  exact K u1 v1 _ _ ls hU.2 hP hD hS hl

set_option maxHeartbeats 4000000 in
set_option maxRecDepth 100000 in
theorem lc_27 (F : CallFix p m c cL_law 4 s args WL RL) (hC : CT D cI cO s) (hA : ∀ q, s.heap.size ≤ q → A q) (hX : va_X b L xs s s.heap) (hbl : b < s.heap.size) (hbA : ¬ A b) (hc9 : c0 < 900) (hj : j + 4 ≤ L) (hL : L ≤ 2048) (hF : RF c0 u v) (hP : va_P D vwCl (cvU cI cO o us rg g ga h a lb u ++ mdU cI hm bm v) H) (hD : va_D A (cvU cI cO o us rg g ga h a lb u ++ mdU cI hm bm v)) (hS : va_S A s.heap H locs) (hl : lv_has ls 4 [(0, .ref b), (1, .ref o), (2, .ref hm), (3, .int (nI j))]) (K : ∀ (u : CV) (v : MV) (H : Heap) (locs : List Loc) (ls : Array Slot), RF (c0 + 1) u v → va_P D vwCl (cvU cI cO o us rg g ga h a lb u ++ mdU cI hm bm v) H → va_D A (cvU cI cO o us rg g ga h a lb u ++ mdU cI hm bm v) → va_S A s.heap H locs → lv_has ls 4 [(0, .ref b), (1, .ref o), (2, .ref hm), (3, .int (nI j))] → W p l e room_1 s m args below meth c H locs 600000 7302250 Q (F0 m 922 ls [])) : W p l e room_1 s m args below meth c H locs 600000 7302250 Q (F0 m 885 ls []) := by
  have hx := F.1
  have hb := F.2.1
  have hown := F.2.2.2.1
  obtain ⟨⟨e0, e1, e2⟩, S, B, nx, sz, G⟩ := u
  obtain ⟨w, past, er, bf, tk, sv, hs⟩ := v
  have hF0 := hF
  obtain ⟨x, n, hx4, hn4, hnx, hsz, hsv, he, hR, hG⟩ := hF
  replace hnx : nx = nI x := hnx
  replace hsz : sz = nI n := hsz
  replace hsv : sv = nI n := hsv
  subst hnx
  subst hsz
  subst hsv
  replace he : er 0 = e0 ∧ er 1 = e1 ∧ er 2 = e2 := he
  replace hR : RC c0 S w := hR
  replace hG : ∀ i, i < n → RC c0 (G ((x + 4 - n + i) % 4)) (fun k => past (470 * i + k)) := hG
  replace hP : va_P D vwCl (([(o, .inr (2, [.ref (h), .ref (us), .ref (lb), .int e0, .int e1, .int e2]))] ++ (usS cI cO us rg g ga ((nI (x))) ((nI (n))) G ++ (stW cI h a S ++ ([(lb, .inl (cI, 96, .inl B))])))) ++ mdU cI hm bm (w, past, er, bf, tk, nI n, hs)) H := hP
  replace hD : va_D A (([(o, .inr (2, [.ref (h), .ref (us), .ref (lb), .int e0, .int e1, .int e2]))] ++ (usS cI cO us rg g ga ((nI (x))) ((nI (n))) G ++ (stW cI h a S ++ ([(lb, .inl (cI, 96, .inl B))])))) ++ mdU cI hm bm (w, past, er, bf, tk, nI n, hs)) := hD
  refine lv_aload_n hx hb dL_law_885 rfl (lv_at hl 1 rfl) ?_
  refine lv_aload_n hx hb dL_law_886 rfl (lv_at hl 0 rfl) ?_
  refine lv_iload_n hx hb dL_law_887 rfl (lv_at hl 3 rfl) ?_
  refine lv_iconst (v := (nI (1))) hx hb dL_law_888 (by decide) ?_
  refine n_iadd hx hb dL_law_889 ?_
  refine va_sld hx hb hX hbl hbA hS (vp_in_nI (by omega) (by omega)) dL_law_890 ?_
  refine w_cv (y := xs (j + 1)) (congrArg xs (nI_clamp (by omega))) ?_
  have hPc := va_pl0 hP
  have hDc := va_dl hD
  refine goWi (pre := []) (wc := [(o, .inr (2, [.ref (h), .ref (us), .ref (lb), .int e0, .int e1, .int e2]))] ++ (usS cI cO us rg g ga ((nI (x))) ((nI (n))) G ++ (stW cI h a S ++ ([(lb, .inl (cI, 96, .inl B))])))) (suf := mdU cI hm bm (w, past, er, bf, tk, nI n, hs)) (kV (As := [.int (xs (j + 1))]) (rest := []) F (c_X2_errorCount l D cI cO _ o us rg g ga h a lb e0 e1 e2 G S B w c0 hR x n hx4 hn4 hc9 er (fun k hk => by rcases (show k = 0 ∨ k = 1 ∨ k = 2 by omega) with rfl | rfl | rfl; exact he.1; exact he.2.1; exact he.2.2) (xs (j + 1))) ywX2_errorCount qw415 qw416 qw417 ⟨rfl, rfl⟩ ⟨Nat.le_of_ble_eq_true rfl, Nat.le_of_ble_eq_true rfl⟩ (preV (preW hPc hC hDc) hC hPc (ci := 2) (q0 := 0) rfl rfl rfl) rfl hl.1 rfl (Nat.le_of_ble_eq_true rfl) dL_law_891 ⟨Nat.le_refl _, Nat.le_refl _⟩) (by rw [List.nil_append]; exact hP) (by rw [List.nil_append]; exact hD) hS hA (fun r1 u1 H locs h1 hP hD hS => ?_)
  replace hP : va_P D vwCl (cvU cI cO o us rg g ga h a lb u1 ++ mdW cI hm bm w past er bf tk (nI n) hs) H := hP
  replace hD : va_D A (cvU cI cO o us rg g ga h a lb u1 ++ mdW cI hm bm w past er bf tk (nI n) hs) := hD
  refine lv_aload_n hx hb dL_law_894 rfl (lv_at hl 2 rfl) ?_
  refine lv_aload_n hx hb dL_law_895 rfl (lv_at hl 0 rfl) ?_
  refine lv_iload_n hx hb dL_law_896 rfl (lv_at hl 3 rfl) ?_
  refine lv_iconst (v := (nI (1))) hx hb dL_law_897 (by decide) ?_
  refine n_iadd hx hb dL_law_898 ?_
  refine va_sld hx hb hX hbl hbA hS (vp_in_nI (by omega) (by omega)) dL_law_899 ?_
  refine w_cv (y := xs (j + 1)) (congrArg xs (nI_clamp (by omega))) ?_
  have hPm := va_pr0 hP
  have hDm := va_dr hD
  refine goWi (pre := cvU cI cO o us rg g ga h a lb u1) (wc := mdW cI hm bm w past er bf tk (nI n) hs) (suf := []) (kV (As := [.int (xs (j + 1))]) (rest := [.int r1]) F (c_X3_errorCount l D cI cO _ hm bm w past er bf tk (nI n) hs c0 hR.wf n hc9 hn4 rfl (xs (j + 1))) ywX3_errorCount qw654 qw655 qw656 ⟨rfl, rfl⟩ ⟨Nat.le_of_ble_eq_true rfl, Nat.le_of_ble_eq_true rfl⟩ (preV (preW hPm hC hDm) hC hPm (ci := 3) (q0 := 0) rfl rfl rfl) rfl hl.1 rfl (Nat.le_of_ble_eq_true rfl) dL_law_900 ⟨Nat.le_refl _, Nat.le_refl _⟩) (by rw [List.append_nil]; exact hP) (by rw [List.append_nil]; exact hD) hS hA (fun r2 v1 H locs h2 hP hD hS => ?_)
  rw [List.append_nil] at hP hD
  replace hP : va_P D vwCl (cvU cI cO o us rg g ga h a lb u1 ++ mdU cI hm bm v1) H := hP
  replace hD : va_D A (cvU cI cO o us rg g ga h a lb u1 ++ mdU cI hm bm v1) := hD
  refine lv_icmp_eq (tgt := 922) hx hb dL_law_903 (by decide) (fun c9 => ?_) (fun c9 => absurd (by rw [h1.1, h2.1]) c9)
  exact K u1 v1 _ _ ls (RF_step hx4 hn4 he hG kd_oEc h1.2 h2.2) hP hD hS hl

set_option maxHeartbeats 4000000 in
set_option maxRecDepth 100000 in
theorem lc_28 (F : CallFix p m c cL_law 4 s args WL RL) (hC : CT D cI cO s) (hA : ∀ q, s.heap.size ≤ q → A q) (hX : va_X b L xs s s.heap) (hbl : b < s.heap.size) (hbA : ¬ A b) (hc9 : c0 < 900) (hj : j + 4 ≤ L) (hL : L ≤ 2048) (hF : RF c0 u v) (hP : va_P D vwCl (cvU cI cO o us rg g ga h a lb u ++ mdU cI hm bm v) H) (hD : va_D A (cvU cI cO o us rg g ga h a lb u ++ mdU cI hm bm v)) (hS : va_S A s.heap H locs) (hl : lv_has ls 4 [(0, .ref b), (1, .ref o), (2, .ref hm), (3, .int (nI j))]) (K : ∀ (u : CV) (v : MV) (H : Heap) (locs : List Loc) (ls : Array Slot), RF (c0 + 1) u v → va_P D vwCl (cvU cI cO o us rg g ga h a lb u ++ mdU cI hm bm v) H → va_D A (cvU cI cO o us rg g ga h a lb u ++ mdU cI hm bm v) → va_S A s.heap H locs → lv_has ls 4 [(0, .ref b), (1, .ref o), (2, .ref hm), (3, .int (nI j))] → W p l e room_1 s m args below meth c H locs 600000 7302250 Q (F0 m 922 ls [])) : W p l e room_1 s m args below meth c H locs 600000 7302250 Q (F0 m 908 ls []) := by
  have hx := F.1
  have hb := F.2.1
  have hown := F.2.2.2.1
  obtain ⟨⟨e0, e1, e2⟩, S, B, nx, sz, G⟩ := u
  obtain ⟨w, past, er, bf, tk, sv, hs⟩ := v
  have hF0 := hF
  obtain ⟨x, n, hx4, hn4, hnx, hsz, hsv, he, hR, hG⟩ := hF
  replace hnx : nx = nI x := hnx
  replace hsz : sz = nI n := hsz
  replace hsv : sv = nI n := hsv
  subst hnx
  subst hsz
  subst hsv
  replace he : er 0 = e0 ∧ er 1 = e1 ∧ er 2 = e2 := he
  replace hR : RC c0 S w := hR
  replace hG : ∀ i, i < n → RC c0 (G ((x + 4 - n + i) % 4)) (fun k => past (470 * i + k)) := hG
  replace hP : va_P D vwCl (([(o, .inr (2, [.ref (h), .ref (us), .ref (lb), .int e0, .int e1, .int e2]))] ++ (usS cI cO us rg g ga ((nI (x))) ((nI (n))) G ++ (stW cI h a S ++ ([(lb, .inl (cI, 96, .inl B))])))) ++ mdU cI hm bm (w, past, er, bf, tk, nI n, hs)) H := hP
  replace hD : va_D A (([(o, .inr (2, [.ref (h), .ref (us), .ref (lb), .int e0, .int e1, .int e2]))] ++ (usS cI cO us rg g ga ((nI (x))) ((nI (n))) G ++ (stW cI h a S ++ ([(lb, .inl (cI, 96, .inl B))])))) ++ mdU cI hm bm (w, past, er, bf, tk, nI n, hs)) := hD
  refine lv_aload_n hx hb dL_law_908 rfl (lv_at hl 1 rfl) ?_
  have hPc := va_pl0 hP
  have hDc := va_dl hD
  refine goRl (kV (As := []) (rest := []) F (c_X2_digest l D cI cO o us rg g ga h a lb e0 e1 e2 G S B w c0 hR x n hx4 hn4 hc9) ywX2_digest qw419 qw420 qw421 ⟨rfl, rfl⟩ ⟨Nat.le_of_ble_eq_true rfl, Nat.le_of_ble_eq_true rfl⟩ (preV (preR hPc hC) hC hPc (ci := 2) (q0 := 0) rfl rfl rfl) rfl hl.1 rfl (Nat.le_of_ble_eq_true rfl) dL_law_909 ⟨Nat.le_refl _, Nat.le_refl _⟩) (fun r1 h1 => ?_)
  replace hP : va_P D vwCl (([(o, .inr (2, [.ref (h), .ref (us), .ref (lb), .int e0, .int e1, .int e2]))] ++ (usS cI cO us rg g ga ((nI (x))) ((nI (n))) G ++ (stW cI h a S ++ ([(lb, .inl (cI, 96, .inl B))])))) ++ mdW cI hm bm w past er bf tk (nI n) hs) H := hP
  replace hD : va_D A (([(o, .inr (2, [.ref (h), .ref (us), .ref (lb), .int e0, .int e1, .int e2]))] ++ (usS cI cO us rg g ga ((nI (x))) ((nI (n))) G ++ (stW cI h a S ++ ([(lb, .inl (cI, 96, .inl B))])))) ++ mdW cI hm bm w past er bf tk (nI n) hs) := hD
  refine lv_aload_n hx hb dL_law_912 rfl (lv_at hl 2 rfl) ?_
  have hPm := va_pr0 hP
  have hDm := va_dr hD
  refine goWl (pre := ([(o, .inr (2, [.ref (h), .ref (us), .ref (lb), .int e0, .int e1, .int e2]))] ++ (usS cI cO us rg g ga ((nI (x))) ((nI (n))) G ++ (stW cI h a S ++ ([(lb, .inl (cI, 96, .inl B))]))))) (wc := mdW cI hm bm w past er bf tk (nI n) hs) (suf := []) (kV (As := []) (rest := [.long r1]) F (c_X3_digest l D cI cO _ hm bm w past er bf tk (nI n) hs c0 hR.wf n hc9 hn4 rfl ) ywX3_digest qw658 qw659 qw660 ⟨rfl, rfl⟩ ⟨Nat.le_of_ble_eq_true rfl, Nat.le_of_ble_eq_true rfl⟩ (preV (preW hPm hC hDm) hC hPm (ci := 3) (q0 := 0) rfl rfl rfl) rfl hl.1 rfl (Nat.le_of_ble_eq_true rfl) dL_law_913 ⟨Nat.le_refl _, Nat.le_refl _⟩) (by rw [List.append_nil]; exact hP) (by rw [List.append_nil]; exact hD) hS hA (fun r2 v1 H locs h2 hP hD hS => ?_)
  rw [List.append_nil] at hP hD
  replace hP : va_P D vwCl (cvU cI cO o us rg g ga h a lb ((e0, e1, e2), S, B, nI x, nI n, G) ++ mdU cI hm bm (w, past, er, bf, tk, nI n, v1)) H := hP
  replace hD : va_D A (cvU cI cO o us rg g ga h a lb ((e0, e1, e2), S, B, nI x, nI n, G) ++ mdU cI hm bm (w, past, er, bf, tk, nI n, v1)) := hD
  refine W.lcmp hx hb dL_law_916 ?_
  refine lv_if_eq (tgt := 922) hx hb dL_law_917 (by decide) (fun c9 => ?_) (fun c9 => absurd ((lg_cmp_eq _ _).mpr (by rw [h1, h2, dg_eq he.1 he.2.1 he.2.2])) c9)
  exact K ((e0, e1, e2), S, B, nI x, nI n, G) (w, past, er, bf, tk, nI n, v1) _ _ ls (RF_hash hF0) hP hD hS hl
end LC
