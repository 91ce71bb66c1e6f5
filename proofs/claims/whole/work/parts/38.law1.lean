section LC
variable {p : Program} {l : Launch} {e : Env} {s : State} {m : MethodId} {args : Array Value} {below : List Frame} {meth : Method} {c : Code} {Q : State → Prop} {D : va_G} {cI cO : ClassId} {A : Nat → Prop} {b L : Nat} {xs : Nat → Int32} {o us rg : Nat} {g : Nat → Nat} {ga : Nat → Nat → Nat} {h : Nat} {a : Nat → Nat} {lb hm : Nat} {bm : Nat → Nat} {c0 j : Nat} {u : CV} {v : MV} {H : Heap} {locs : List Loc} {ls : Array Slot}
set_option maxHeartbeats 4000000 in
set_option maxRecDepth 100000 in
theorem lc_0 (F : CallFix p m c cL_law 4 s args WL RL) (hC : CT D cI cO s) (hA : ∀ q, s.heap.size ≤ q → A q) (hX : va_X b L xs s s.heap) (hbl : b < s.heap.size) (hbA : ¬ A b) (hc9 : c0 < 900) (hj : j + 4 ≤ L) (hL : L ≤ 2048) (hF : RF c0 u v) (hP : va_P D vwCl (cvU cI cO o us rg g ga h a lb u ++ mdU cI hm bm v) H) (hD : va_D A (cvU cI cO o us rg g ga h a lb u ++ mdU cI hm bm v)) (hS : va_S A s.heap H locs) (hl : lv_has ls 4 [(0, .ref b), (1, .ref o), (2, .ref hm), (3, .int (nI j))]) (K : ∀ (u : CV) (v : MV) (H : Heap) (locs : List Loc) (ls : Array Slot), RF (c0 + 1) u v → va_P D vwCl (cvU cI cO o us rg g ga h a lb u ++ mdU cI hm bm v) H → va_D A (cvU cI cO o us rg g ga h a lb u ++ mdU cI hm bm v) → va_S A s.heap H locs → lv_has ls 4 [(0, .ref b), (1, .ref o), (2, .ref hm), (3, .int (nI j))] → W p l e room_1 s m args below meth c H locs 600000 7302250 Q (F0 m 922 ls [])) : W p l e room_1 s m args below meth c H locs 600000 7302250 Q (F0 m 164 ls []) := by
  have hx := F.1
  have hb := F.2.1
  have hown := F.2.2.2.1
  obtain ⟨⟨e0, e1, e2⟩, S, B, nx, sz, G⟩ := u
  obtain ⟨w, past, er, bf, tk, sv, hs⟩ := v
  have hF0 := hF
  obtain ⟨x, n, hx4, hn4, hnx, hsz, hsv, he, hR, hG⟩ := hF
  replace hnx : nx = nI x := hnx
  replace hsz : sz = nI n := hsz
  replace hsv : sv = nI n := hsv
  subst hnx
  subst hsz
  subst hsv
  replace he : er 0 = e0 ∧ er 1 = e1 ∧ er 2 = e2 := he
  replace hR : RC c0 S w := hR
  replace hG : ∀ i, i < n → RC c0 (G ((x + 4 - n + i) % 4)) (fun k => past (470 * i + k)) := hG
  replace hP : va_P D vwCl (([(o, .inr (2, [.ref (h), .ref (us), .ref (lb), .int e0, .int e1, .int e2]))] ++ (usS cI cO us rg g ga ((nI (x))) ((nI (n))) G ++ (stW cI h a S ++ ([(lb, .inl (cI, 96, .inl B))])))) ++ mdU cI hm bm (w, past, er, bf, tk, nI n, hs)) H := hP
  replace hD : va_D A (([(o, .inr (2, [.ref (h), .ref (us), .ref (lb), .int e0, .int e1, .int e2]))] ++ (usS cI cO us rg g ga ((nI (x))) ((nI (n))) G ++ (stW cI h a S ++ ([(lb, .inl (cI, 96, .inl B))])))) ++ mdU cI hm bm (w, past, er, bf, tk, nI n, hs)) := hD
  refine lv_aload_n hx hb dL_law_164 rfl (lv_at hl 1 rfl) ?_
  refine lv_aload_n hx hb dL_law_165 rfl (lv_at hl 0 rfl) ?_
  refine lv_iload_n hx hb dL_law_166 rfl (lv_at hl 3 rfl) ?_
  refine lv_iconst (v := (nI (1))) hx hb dL_law_167 (by decide) ?_
  refine n_iadd hx hb dL_law_168 ?_
  refine va_sld hx hb hX hbl hbA hS (vp_in_nI (by omega) (by omega)) dL_law_169 ?_
  refine w_cv (y := xs (j + 1)) (congrArg xs (nI_clamp (by omega))) ?_
  have hPc := va_pl0 hP
  have hDc := va_dl hD
  refine goWi (pre := []) (wc := [(o, .inr (2, [.ref (h), .ref (us), .ref (lb), .int e0, .int e1, .int e2]))] ++ (usS cI cO us rg g ga ((nI (x))) ((nI (n))) G ++ (stW cI h a S ++ ([(lb, .inl (cI, 96, .inl B))])))) (suf := mdU cI hm bm (w, past, er, bf, tk, nI n, hs)) (kV (As := [.int (xs (j + 1))]) (rest := []) F (c_X2_addLinkset l D cI cO _ o us rg g ga h a lb e0 e1 e2 G S B w c0 hR x n hx4 hn4 hc9 (xs (j + 1))) ywX2_addLinkset qw137 qw138 qw139 ⟨rfl, rfl⟩ ⟨Nat.le_of_ble_eq_true rfl, Nat.le_of_ble_eq_true rfl⟩ (preV (preW hPc hC hDc) hC hPc (ci := 2) (q0 := 0) rfl rfl rfl) rfl hl.1 rfl (Nat.le_of_ble_eq_true rfl) dL_law_170 ⟨Nat.le_refl _, Nat.le_refl _⟩) (by rw [List.nil_append]; exact hP) (by rw [List.nil_append]; exact hD) hS hA (fun r1 u1 H locs h1 hP hD hS => ?_)
  replace hP : va_P D vwCl (cvU cI cO o us rg g ga h a lb u1 ++ mdW cI hm bm w past er bf tk (nI n) hs) H := hP
  replace hD : va_D A (cvU cI cO o us rg g ga h a lb u1 ++ mdW cI hm bm w past er bf tk (nI n) hs) := hD
  refine lv_aload_n hx hb dL_law_173 rfl (lv_at hl 2 rfl) ?_
  refine lv_aload_n hx hb dL_law_174 rfl (lv_at hl 0 rfl) ?_
  refine lv_iload_n hx hb dL_law_175 rfl (lv_at hl 3 rfl) ?_
  refine lv_iconst (v := (nI (1))) hx hb dL_law_176 (by decide) ?_
  refine n_iadd hx hb dL_law_177 ?_
  refine va_sld hx hb hX hbl hbA hS (vp_in_nI (by omega) (by omega)) dL_law_178 ?_
  refine w_cv (y := xs (j + 1)) (congrArg xs (nI_clamp (by omega))) ?_
  have hPm := va_pr0 hP
  have hDm := va_dr hD
  refine goWi (pre := cvU cI cO o us rg g ga h a lb u1) (wc := mdW cI hm bm w past er bf tk (nI n) hs) (suf := []) (kV (As := [.int (xs (j + 1))]) (rest := [.int r1]) F (c_X3_addLinkset l D cI cO _ hm bm w past er bf tk (nI n) hs c0 hR.wf n hc9 hn4 rfl (xs (j + 1))) ywX3_addLinkset qw486 qw487 qw488 ⟨rfl, rfl⟩ ⟨Nat.le_of_ble_eq_true rfl, Nat.le_of_ble_eq_true rfl⟩ (preV (preW hPm hC hDm) hC hPm (ci := 3) (q0 := 0) rfl rfl rfl) rfl hl.1 rfl (Nat.le_of_ble_eq_true rfl) dL_law_179 ⟨Nat.le_refl _, Nat.le_refl _⟩) (by rw [List.append_nil]; exact hP) (by rw [List.append_nil]; exact hD) hS hA (fun r2 v1 H locs h2 hP hD hS => ?_)
  rw [List.append_nil] at hP hD
  replace hP : va_P D vwCl (cvU cI cO o us rg g ga h a lb u1 ++ mdU cI hm bm v1) H := hP
  replace hD : va_D A (cvU cI cO o us rg g ga h a lb u1 ++ mdU cI hm bm v1) := hD
  refine lv_icmp_eq (tgt := 922) hx hb dL_law_182 (by decide) (fun c9 => ?_) (fun c9 => absurd (by rw [h1.1, h2.1]) c9)
  exact K u1 v1 _ _ ls (RF_step hx4 hn4 he hG kd_oAdd h1.2 h2.2) hP hD hS hl

set_option maxHeartbeats 4000000 in
set_option maxRecDepth 100000 in
theorem lc_1 (F : CallFix p m c cL_law 4 s args WL RL) (hC : CT D cI cO s) (hA : ∀ q, s.heap.size ≤ q → A q) (hX : va_X b L xs s s.heap) (hbl : b < s.heap.size) (hbA : ¬ A b) (hc9 : c0 < 900) (hj : j + 4 ≤ L) (hL : L ≤ 2048) (hF : RF c0 u v) (hP : va_P D vwCl (cvU cI cO o us rg g ga h a lb u ++ mdU cI hm bm v) H) (hD : va_D A (cvU cI cO o us rg g ga h a lb u ++ mdU cI hm bm v)) (hS : va_S A s.heap H locs) (hl : lv_has ls 4 [(0, .ref b), (1, .ref o), (2, .ref hm), (3, .int (nI j))]) (K : ∀ (u : CV) (v : MV) (H : Heap) (locs : List Loc) (ls : Array Slot), RF (c0 + 1) u v → va_P D vwCl (cvU cI cO o us rg g ga h a lb u ++ mdU cI hm bm v) H → va_D A (cvU cI cO o us rg g ga h a lb u ++ mdU cI hm bm v) → va_S A s.heap H locs → lv_has ls 4 [(0, .ref b), (1, .ref o), (2, .ref hm), (3, .int (nI j))] → W p l e room_1 s m args below meth c H locs 600000 7302250 Q (F0 m 922 ls [])) : W p l e room_1 s m args below meth c H locs 600000 7302250 Q (F0 m 187 ls []) := by
  have hx := F.1
  have hb := F.2.1
  have hown := F.2.2.2.1
  obtain ⟨⟨e0, e1, e2⟩, S, B, nx, sz, G⟩ := u
  obtain ⟨w, past, er, bf, tk, sv, hs⟩ := v
  have hF0 := hF
  obtain ⟨x, n, hx4, hn4, hnx, hsz, hsv, he, hR, hG⟩ := hF
  replace hnx : nx = nI x := hnx
  replace hsz : sz = nI n := hsz
  replace hsv : sv = nI n := hsv
  subst hnx
  subst hsz
  subst hsv
  replace he : er 0 = e0 ∧ er 1 = e1 ∧ er 2 = e2 := he
  replace hR : RC c0 S w := hR
  replace hG : ∀ i, i < n → RC c0 (G ((x + 4 - n + i) % 4)) (fun k => past (470 * i + k)) := hG
  replace hP : va_P D vwCl (([(o, .inr (2, [.ref (h), .ref (us), .ref (lb), .int e0, .int e1, .int e2]))] ++ (usS cI cO us rg g ga ((nI (x))) ((nI (n))) G ++ (stW cI h a S ++ ([(lb, .inl (cI, 96, .inl B))])))) ++ mdU cI hm bm (w, past, er, bf, tk, nI n, hs)) H := hP
  replace hD : va_D A (([(o, .inr (2, [.ref (h), .ref (us), .ref (lb), .int e0, .int e1, .int e2]))] ++ (usS cI cO us rg g ga ((nI (x))) ((nI (n))) G ++ (stW cI h a S ++ ([(lb, .inl (cI, 96, .inl B))])))) ++ mdU cI hm bm (w, past, er, bf, tk, nI n, hs)) := hD
  refine lv_aload_n hx hb dL_law_187 rfl (lv_at hl 1 rfl) ?_
  refine lv_aload_n hx hb dL_law_188 rfl (lv_at hl 0 rfl) ?_
  refine lv_iload_n hx hb dL_law_189 rfl (lv_at hl 3 rfl) ?_
  refine lv_iconst (v := (nI (1))) hx hb dL_law_190 (by decide) ?_
  refine n_iadd hx hb dL_law_191 ?_
  refine va_sld hx hb hX hbl hbA hS (vp_in_nI (by omega) (by omega)) dL_law_192 ?_
  refine w_cv (y := xs (j + 1)) (congrArg xs (nI_clamp (by omega))) ?_
  refine lv_aload_n hx hb dL_law_193 rfl (lv_at hl 0 rfl) ?_
  refine lv_iload_n hx hb dL_law_194 rfl (lv_at hl 3 rfl) ?_
  refine lv_iconst (v := (nI (2))) hx hb dL_law_195 (by decide) ?_
  refine n_iadd hx hb dL_law_196 ?_
  refine va_sld hx hb hX hbl hbA hS (vp_in_nI (by omega) (by omega)) dL_law_197 ?_
  refine w_cv (y := xs (j + 2)) (congrArg xs (nI_clamp (by omega))) ?_
  have hPc := va_pl0 hP
  have hDc := va_dl hD
  refine goWi (pre := []) (wc := [(o, .inr (2, [.ref (h), .ref (us), .ref (lb), .int e0, .int e1, .int e2]))] ++ (usS cI cO us rg g ga ((nI (x))) ((nI (n))) G ++ (stW cI h a S ++ ([(lb, .inl (cI, 96, .inl B))])))) (suf := mdU cI hm bm (w, past, er, bf, tk, nI n, hs)) (kV (As := [.int (xs (j + 1)), .int (xs (j + 2))]) (rest := []) F (c_X2_failLink l D cI cO _ o us rg g ga h a lb e0 e1 e2 G S B w c0 hR x n hx4 hn4 hc9 (xs (j + 1)) (xs (j + 2))) ywX2_failLink qw171 qw172 qw173 ⟨rfl, rfl⟩ ⟨Nat.le_of_ble_eq_true rfl, Nat.le_of_ble_eq_true rfl⟩ (preV (preW hPc hC hDc) hC hPc (ci := 2) (q0 := 0) rfl rfl rfl) rfl hl.1 rfl (Nat.le_of_ble_eq_true rfl) dL_law_198 ⟨Nat.le_refl _, Nat.le_refl _⟩) (by rw [List.nil_append]; exact hP) (by rw [List.nil_append]; exact hD) hS hA (fun r1 u1 H locs h1 hP hD hS => ?_)
  replace hP : va_P D vwCl (cvU cI cO o us rg g ga h a lb u1 ++ mdW cI hm bm w past er bf tk (nI n) hs) H := hP
  replace hD : va_D A (cvU cI cO o us rg g ga h a lb u1 ++ mdW cI hm bm w past er bf tk (nI n) hs) := hD
  refine lv_aload_n hx hb dL_law_201 rfl (lv_at hl 2 rfl) ?_
  refine lv_aload_n hx hb dL_law_202 rfl (lv_at hl 0 rfl) ?_
  refine lv_iload_n hx hb dL_law_203 rfl (lv_at hl 3 rfl) ?_
  refine lv_iconst (v := (nI (1))) hx hb dL_law_204 (by decide) ?_
  refine n_iadd hx hb dL_law_205 ?_
  refine va_sld hx hb hX hbl hbA hS (vp_in_nI (by omega) (by omega)) dL_law_206 ?_
  refine w_cv (y := xs (j + 1)) (congrArg xs (nI_clamp (by omega))) ?_
  refine lv_aload_n hx hb dL_law_207 rfl (lv_at hl 0 rfl) ?_
  refine lv_iload_n hx hb dL_law_208 rfl (lv_at hl 3 rfl) ?_
  refine lv_iconst (v := (nI (2))) hx hb dL_law_209 (by decide) ?_
  refine n_iadd hx hb dL_law_210 ?_
  refine va_sld hx hb hX hbl hbA hS (vp_in_nI (by omega) (by omega)) dL_law_211 ?_
  refine w_cv (y := xs (j + 2)) (congrArg xs (nI_clamp (by omega))) ?_
  have hPm := va_pr0 hP
  have hDm := va_dr hD
  refine goWi (pre := cvU cI cO o us rg g ga h a lb u1) (wc := mdW cI hm bm w past er bf tk (nI n) hs) (suf := []) (kV (As := [.int (xs (j + 1)), .int (xs (j + 2))]) (rest := [.int r1]) F (c_X3_failLink l D cI cO _ hm bm w past er bf tk (nI n) hs c0 hR.wf n hc9 hn4 rfl (xs (j + 1)) (xs (j + 2))) ywX3_failLink qw497 qw498 qw499 ⟨rfl, rfl⟩ ⟨Nat.le_of_ble_eq_true rfl, Nat.le_of_ble_eq_true rfl⟩ (preV (preW hPm hC hDm) hC hPm (ci := 3) (q0 := 0) rfl rfl rfl) rfl hl.1 rfl (Nat.le_of_ble_eq_true rfl) dL_law_212 ⟨Nat.le_refl _, Nat.le_refl _⟩) (by rw [List.append_nil]; exact hP) (by rw [List.append_nil]; exact hD) hS hA (fun r2 v1 H locs h2 hP hD hS => ?_)
  rw [List.append_nil] at hP hD
  replace hP : va_P D vwCl (cvU cI cO o us rg g ga h a lb u1 ++ mdU cI hm bm v1) H := hP
  replace hD : va_D A (cvU cI cO o us rg g ga h a lb u1 ++ mdU cI hm bm v1) := hD
  refine lv_icmp_eq (tgt := 922) hx hb dL_law_215 (by decide) (fun c9 => ?_) (fun c9 => absurd (by rw [h1.1, h2.1]) c9)
  exact K u1 v1 _ _ ls (RF_step hx4 hn4 he hG kd_oFail h1.2 h2.2) hP hD hS hl

set_option maxHeartbeats 4000000 in
set_option maxRecDepth 100000 in
theorem lc_2 (F : CallFix p m c cL_law 4 s args WL RL) (hC : CT D cI cO s) (hA : ∀ q, s.heap.size ≤ q → A q) (hX : va_X b L xs s s.heap) (hbl : b < s.heap.size) (hbA : ¬ A b) (hc9 : c0 < 900) (hj : j + 4 ≤ L) (hL : L ≤ 2048) (hF : RF c0 u v) (hP : va_P D vwCl (cvU cI cO o us rg g ga h a lb u ++ mdU cI hm bm v) H) (hD : va_D A (cvU cI cO o us rg g ga h a lb u ++ mdU cI hm bm v)) (hS : va_S A s.heap H locs) (hl : lv_has ls 4 [(0, .ref b), (1, .ref o), (2, .ref hm), (3, .int (nI j))]) (K : ∀ (u : CV) (v : MV) (H : Heap) (locs : List Loc) (ls : Array Slot), RF (c0 + 1) u v → va_P D vwCl (cvU cI cO o us rg g ga h a lb u ++ mdU cI hm bm v) H → va_D A (cvU cI cO o us rg g ga h a lb u ++ mdU cI hm bm v) → va_S A s.heap H locs → lv_has ls 4 [(0, .ref b), (1, .ref o), (2, .ref hm), (3, .int (nI j))] → W p l e room_1 s m args below meth c H locs 600000 7302250 Q (F0 m 922 ls [])) : W p l e room_1 s m args below meth c H locs 600000 7302250 Q (F0 m 220 ls []) := by
  have hx := F.1
  have hb := F.2.1
  have hown := F.2.2.2.1
  obtain ⟨⟨e0, e1, e2⟩, S, B, nx, sz, G⟩ := u
  obtain ⟨w, past, er, bf, tk, sv, hs⟩ := v
  have hF0 := hF
  obtain ⟨x, n, hx4, hn4, hnx, hsz, hsv, he, hR, hG⟩ := hF
  replace hnx : nx = nI x := hnx
  replace hsz : sz = nI n := hsz
  replace hsv : sv = nI n := hsv
  subst hnx
  subst hsz
  subst hsv
  replace he : er 0 = e0 ∧ er 1 = e1 ∧ er 2 = e2 := he
  replace hR : RC c0 S w := hR
  replace hG : ∀ i, i < n → RC c0 (G ((x + 4 - n + i) % 4)) (fun k => past (470 * i + k)) := hG
  replace hP : va_P D vwCl (([(o, .inr (2, [.ref (h), .ref (us), .ref (lb), .int e0, .int e1, .int e2]))] ++ (usS cI cO us rg g ga ((nI (x))) ((nI (n))) G ++ (stW cI h a S ++ ([(lb, .inl (cI, 96, .inl B))])))) ++ mdU cI hm bm (w, past, er, bf, tk, nI n, hs)) H := hP
  replace hD : va_D A (([(o, .inr (2, [.ref (h), .ref (us), .ref (lb), .int e0, .int e1, .int e2]))] ++ (usS cI cO us rg g ga ((nI (x))) ((nI (n))) G ++ (stW cI h a S ++ ([(lb, .inl (cI, 96, .inl B))])))) ++ mdU cI hm bm (w, past, er, bf, tk, nI n, hs)) := hD
  refine lv_aload_n hx hb dL_law_220 rfl (lv_at hl 1 rfl) ?_
  refine lv_aload_n hx hb dL_law_221 rfl (lv_at hl 0 rfl) ?_
  refine lv_iload_n hx hb dL_law_222 rfl (lv_at hl 3 rfl) ?_
  refine lv_iconst (v := (nI (1))) hx hb dL_law_223 (by decide) ?_
  refine n_iadd hx hb dL_law_224 ?_
  refine va_sld hx hb hX hbl hbA hS (vp_in_nI (by omega) (by omega)) dL_law_225 ?_
  refine w_cv (y := xs (j + 1)) (congrArg xs (nI_clamp (by omega))) ?_
  refine lv_aload_n hx hb dL_law_226 rfl (lv_at hl 0 rfl) ?_
  refine lv_iload_n hx hb dL_law_227 rfl (lv_at hl 3 rfl) ?_
  refine lv_iconst (v := (nI (2))) hx hb dL_law_228 (by decide) ?_
  refine n_iadd hx hb dL_law_229 ?_
  refine va_sld hx hb hX hbl hbA hS (vp_in_nI (by omega) (by omega)) dL_law_230 ?_
  refine w_cv (y := xs (j + 2)) (congrArg xs (nI_clamp (by omega))) ?_
  have hPc := va_pl0 hP
  have hDc := va_dl hD
  refine goWi (pre := []) (wc := [(o, .inr (2, [.ref (h), .ref (us), .ref (lb), .int e0, .int e1, .int e2]))] ++ (usS cI cO us rg g ga ((nI (x))) ((nI (n))) G ++ (stW cI h a S ++ ([(lb, .inl (cI, 96, .inl B))])))) (suf := mdU cI hm bm (w, past, er, bf, tk, nI n, hs)) (kV (As := [.int (xs (j + 1)), .int (xs (j + 2))]) (rest := []) F (c_X2_restoreLink l D cI cO _ o us rg g ga h a lb e0 e1 e2 G S B w c0 hR x n hx4 hn4 hc9 (xs (j + 1)) (xs (j + 2))) ywX2_restoreLink qw236 qw237 qw238 ⟨rfl, rfl⟩ ⟨Nat.le_of_ble_eq_true rfl, Nat.le_of_ble_eq_true rfl⟩ (preV (preW hPc hC hDc) hC hPc (ci := 2) (q0 := 0) rfl rfl rfl) rfl hl.1 rfl (Nat.le_of_ble_eq_true rfl) dL_law_231 ⟨Nat.le_refl _, Nat.le_refl _⟩) (by rw [List.nil_append]; exact hP) (by rw [List.nil_append]; exact hD) hS hA (fun r1 u1 H locs h1 hP hD hS => ?_)
  replace hP : va_P D vwCl (cvU cI cO o us rg g ga h a lb u1 ++ mdW cI hm bm w past er bf tk (nI n) hs) H := hP
  replace hD : va_D A (cvU cI cO o us rg g ga h a lb u1 ++ mdW cI hm bm w past er bf tk (nI n) hs) := hD
  refine lv_aload_n hx hb dL_law_234 rfl (lv_at hl 2 rfl) ?_
  refine lv_aload_n hx hb dL_law_235 rfl (lv_at hl 0 rfl) ?_
  refine lv_iload_n hx hb dL_law_236 rfl (lv_at hl 3 rfl) ?_
  refine lv_iconst (v := (nI (1))) hx hb dL_law_237 (by decide) ?_
  refine n_iadd hx hb dL_law_238 ?_
  refine va_sld hx hb hX hbl hbA hS (vp_in_nI (by omega) (by omega)) dL_law_239 ?_
  refine w_cv (y := xs (j + 1)) (congrArg xs (nI_clamp (by omega))) ?_
  refine lv_aload_n hx hb dL_law_240 rfl (lv_at hl 0 rfl) ?_
  refine lv_iload_n hx hb dL_law_241 rfl (lv_at hl 3 rfl) ?_
  refine lv_iconst (v := (nI (2))) hx hb dL_law_242 (by decide) ?_
  refine n_iadd hx hb dL_law_243 ?_
  refine va_sld hx hb hX hbl hbA hS (vp_in_nI (by omega) (by omega)) dL_law_244 ?_
  refine w_cv (y := xs (j + 2)) (congrArg xs (nI_clamp (by omega))) ?_
  have hPm := va_pr0 hP
  have hDm := va_dr hD
  refine goWi (pre := cvU cI cO o us rg g ga h a lb u1) (wc := mdW cI hm bm w past er bf tk (nI n) hs) (suf := []) (kV (As := [.int (xs (j + 1)), .int (xs (j + 2))]) (rest := [.int r1]) F (c_X3_restoreLink l D cI cO _ hm bm w past er bf tk (nI n) hs c0 hR.wf n hc9 hn4 rfl (xs (j + 1)) (xs (j + 2))) ywX3_restoreLink qw532 qw533 qw534 ⟨rfl, rfl⟩ ⟨Nat.le_of_ble_eq_true rfl, Nat.le_of_ble_eq_true rfl⟩ (preV (preW hPm hC hDm) hC hPm (ci := 3) (q0 := 0) rfl rfl rfl) rfl hl.1 rfl (Nat.le_of_ble_eq_true rfl) dL_law_245 ⟨Nat.le_refl _, Nat.le_refl _⟩) (by rw [List.append_nil]; exact hP) (by rw [List.append_nil]; exact hD) hS hA (fun r2 v1 H locs h2 hP hD hS => ?_)
  rw [List.append_nil] at hP hD
  replace hP : va_P D vwCl (cvU cI cO o us rg g ga h a lb u1 ++ mdU cI hm bm v1) H := hP
  replace hD : va_D A (cvU cI cO o us rg g ga h a lb u1 ++ mdU cI hm bm v1) := hD
  refine lv_icmp_eq (tgt := 922) hx hb dL_law_248 (by decide) (fun c9 => ?_) (fun c9 => absurd (by rw [h1.1, h2.1]) c9)
  exact K u1 v1 _ _ ls (RF_step hx4 hn4 he hG kd_oRest h1.2 h2.2) hP hD hS hl

set_option maxHeartbeats 4000000 in
set_option maxRecDepth 100000 in
theorem lc_3 (F : CallFix p m c cL_law 4 s args WL RL) (hC : CT D cI cO s) (hA : ∀ q, s.heap.size ≤ q → A q) (hX : va_X b L xs s s.heap) (hbl : b < s.heap.size) (hbA : ¬ A b) (hc9 : c0 < 900) (hj : j + 4 ≤ L) (hL : L ≤ 2048) (hF : RF c0 u v) (hP : va_P D vwCl (cvU cI cO o us rg g ga h a lb u ++ mdU cI hm bm v) H) (hD : va_D A (cvU cI cO o us rg g ga h a lb u ++ mdU cI hm bm v)) (hS : va_S A s.heap H locs) (hl : lv_has ls 4 [(0, .ref b), (1, .ref o), (2, .ref hm), (3, .int (nI j))]) (K : ∀ (u : CV) (v : MV) (H : Heap) (locs : List Loc) (ls : Array Slot), RF (c0 + 1) u v → va_P D vwCl (cvU cI cO o us rg g ga h a lb u ++ mdU cI hm bm v) H → va_D A (cvU cI cO o us rg g ga h a lb u ++ mdU cI hm bm v) → va_S A s.heap H locs → lv_has ls 4 [(0, .ref b), (1, .ref o), (2, .ref hm), (3, .int (nI j))] → W p l e room_1 s m args below meth c H locs 600000 7302250 Q (F0 m 922 ls [])) : W p l e room_1 s m args below meth c H locs 600000 7302250 Q (F0 m 253 ls []) := by
  have hx := F.1
  have hb := F.2.1
  have hown := F.2.2.2.1
  obtain ⟨⟨e0, e1, e2⟩, S, B, nx, sz, G⟩ := u
  obtain ⟨w, past, er, bf, tk, sv, hs⟩ := v
  have hF0 := hF
  obtain ⟨x, n, hx4, hn4, hnx, hsz, hsv, he, hR, hG⟩ := hF
  replace hnx : nx = nI x := hnx
  replace hsz : sz = nI n := hsz
  replace hsv : sv = nI n := hsv
  subst hnx
  subst hsz
  subst hsv
  replace he : er 0 = e0 ∧ er 1 = e1 ∧ er 2 = e2 := he
  replace hR : RC c0 S w := hR
  replace hG : ∀ i, i < n → RC c0 (G ((x + 4 - n + i) % 4)) (fun k => past (470 * i + k)) := hG
  replace hP : va_P D vwCl (([(o, .inr (2, [.ref (h), .ref (us), .ref (lb), .int e0, .int e1, .int e2]))] ++ (usS cI cO us rg g ga ((nI (x))) ((nI (n))) G ++ (stW cI h a S ++ ([(lb, .inl (cI, 96, .inl B))])))) ++ mdU cI hm bm (w, past, er, bf, tk, nI n, hs)) H := hP
  replace hD : va_D A (([(o, .inr (2, [.ref (h), .ref (us), .ref (lb), .int e0, .int e1, .int e2]))] ++ (usS cI cO us rg g ga ((nI (x))) ((nI (n))) G ++ (stW cI h a S ++ ([(lb, .inl (cI, 96, .inl B))])))) ++ mdU cI hm bm (w, past, er, bf, tk, nI n, hs)) := hD
  refine lv_aload_n hx hb dL_law_253 rfl (lv_at hl 1 rfl) ?_
  refine lv_aload_n hx hb dL_law_254 rfl (lv_at hl 0 rfl) ?_
  refine lv_iload_n hx hb dL_law_255 rfl (lv_at hl 3 rfl) ?_
  refine lv_iconst (v := (nI (1))) hx hb dL_law_256 (by decide) ?_
  refine n_iadd hx hb dL_law_257 ?_
  refine va_sld hx hb hX hbl hbA hS (vp_in_nI (by omega) (by omega)) dL_law_258 ?_
  refine w_cv (y := xs (j + 1)) (congrArg xs (nI_clamp (by omega))) ?_
  refine lv_aload_n hx hb dL_law_259 rfl (lv_at hl 0 rfl) ?_
  refine lv_iload_n hx hb dL_law_260 rfl (lv_at hl 3 rfl) ?_
  refine lv_iconst (v := (nI (2))) hx hb dL_law_261 (by decide) ?_
  refine n_iadd hx hb dL_law_262 ?_
  refine va_sld hx hb hX hbl hbA hS (vp_in_nI (by omega) (by omega)) dL_law_263 ?_
  refine w_cv (y := xs (j + 2)) (congrArg xs (nI_clamp (by omega))) ?_
  refine lv_aload_n hx hb dL_law_264 rfl (lv_at hl 0 rfl) ?_
  refine lv_iload_n hx hb dL_law_265 rfl (lv_at hl 3 rfl) ?_
  refine lv_iconst (v := (nI (3))) hx hb dL_law_266 (by decide) ?_
  refine n_iadd hx hb dL_law_267 ?_
  refine va_sld hx hb hX hbl hbA hS (vp_in_nI (by omega) (by omega)) dL_law_268 ?_
  refine w_cv (y := xs (j + 3)) (congrArg xs (nI_clamp (by omega))) ?_
  have hPc := va_pl0 hP
  have hDc := va_dl hD
  refine goWi (pre := []) (wc := [(o, .inr (2, [.ref (h), .ref (us), .ref (lb), .int e0, .int e1, .int e2]))] ++ (usS cI cO us rg g ga ((nI (x))) ((nI (n))) G ++ (stW cI h a S ++ ([(lb, .inl (cI, 96, .inl B))])))) (suf := mdU cI hm bm (w, past, er, bf, tk, nI n, hs)) (kV (As := [.int (xs (j + 1)), .int (xs (j + 2)), .int (xs (j + 3))]) (rest := []) F (c_X2_acknowledge l D cI cO _ o us rg g ga h a lb e0 e1 e2 G S B w c0 hR x n hx4 hn4 hc9 (xs (j + 1)) (xs (j + 2)) (xs (j + 3))) ywX2_acknowledge qw252 qw253 qw254 ⟨rfl, rfl⟩ ⟨Nat.le_of_ble_eq_true rfl, Nat.le_of_ble_eq_true rfl⟩ (preV (preW hPc hC hDc) hC hPc (ci := 2) (q0 := 0) rfl rfl rfl) rfl hl.1 rfl (Nat.le_of_ble_eq_true rfl) dL_law_269 ⟨Nat.le_refl _, Nat.le_refl _⟩) (by rw [List.nil_append]; exact hP) (by rw [List.nil_append]; exact hD) hS hA (fun r1 u1 H locs h1 hP hD hS => ?_)
  replace hP : va_P D vwCl (cvU cI cO o us rg g ga h a lb u1 ++ mdW cI hm bm w past er bf tk (nI n) hs) H := hP
  replace hD : va_D A (cvU cI cO o us rg g ga h a lb u1 ++ mdW cI hm bm w past er bf tk (nI n) hs) := hD
  refine lv_aload_n hx hb dL_law_272 rfl (lv_at hl 2 rfl) ?_
  refine lv_aload_n hx hb dL_law_273 rfl (lv_at hl 0 rfl) ?_
  refine lv_iload_n hx hb dL_law_274 rfl (lv_at hl 3 rfl) ?_
  refine lv_iconst (v := (nI (1))) hx hb dL_law_275 (by decide) ?_
  refine n_iadd hx hb dL_law_276 ?_
  refine va_sld hx hb hX hbl hbA hS (vp_in_nI (by omega) (by omega)) dL_law_277 ?_
  refine w_cv (y := xs (j + 1)) (congrArg xs (nI_clamp (by omega))) ?_
  refine lv_aload_n hx hb dL_law_278 rfl (lv_at hl 0 rfl) ?_
  refine lv_iload_n hx hb dL_law_279 rfl (lv_at hl 3 rfl) ?_
  refine lv_iconst (v := (nI (2))) hx hb dL_law_280 (by decide) ?_
  refine n_iadd hx hb dL_law_281 ?_
  refine va_sld hx hb hX hbl hbA hS (vp_in_nI (by omega) (by omega)) dL_law_282 ?_
  refine w_cv (y := xs (j + 2)) (congrArg xs (nI_clamp (by omega))) ?_
  refine lv_aload_n hx hb dL_law_283 rfl (lv_at hl 0 rfl) ?_
  refine lv_iload_n hx hb dL_law_284 rfl (lv_at hl 3 rfl) ?_
  refine lv_iconst (v := (nI (3))) hx hb dL_law_285 (by decide) ?_
  refine n_iadd hx hb dL_law_286 ?_
  refine va_sld hx hb hX hbl hbA hS (vp_in_nI (by omega) (by omega)) dL_law_287 ?_
  refine w_cv (y := xs (j + 3)) (congrArg xs (nI_clamp (by omega))) ?_
  have hPm := va_pr0 hP
  have hDm := va_dr hD
  refine goWi (pre := cvU cI cO o us rg g ga h a lb u1) (wc := mdW cI hm bm w past er bf tk (nI n) hs) (suf := []) (kV (As := [.int (xs (j + 1)), .int (xs (j + 2)), .int (xs (j + 3))]) (rest := [.int r1]) F (c_X3_acknowledge l D cI cO _ hm bm w past er bf tk (nI n) hs c0 hR.wf n hc9 hn4 rfl (xs (j + 1)) (xs (j + 2)) (xs (j + 3))) ywX3_acknowledge qw544 qw545 qw546 ⟨rfl, rfl⟩ ⟨Nat.le_of_ble_eq_true rfl, Nat.le_of_ble_eq_true rfl⟩ (preV (preW hPm hC hDm) hC hPm (ci := 3) (q0 := 0) rfl rfl rfl) rfl hl.1 rfl (Nat.le_of_ble_eq_true rfl) dL_law_288 ⟨Nat.le_refl _, Nat.le_refl _⟩) (by rw [List.append_nil]; exact hP) (by rw [List.append_nil]; exact hD) hS hA (fun r2 v1 H locs h2 hP hD hS => ?_)
  rw [List.append_nil] at hP hD
  replace hP : va_P D vwCl (cvU cI cO o us rg g ga h a lb u1 ++ mdU cI hm bm v1) H := hP
  replace hD : va_D A (cvU cI cO o us rg g ga h a lb u1 ++ mdU cI hm bm v1) := hD
  refine lv_icmp_eq (tgt := 922) hx hb dL_law_291 (by decide) (fun c9 => ?_) (fun c9 => absurd (by rw [h1.1, h2.1]) c9)
  exact K u1 v1 _ _ ls (RF_step hx4 hn4 he hG kd_oAck h1.2 h2.2) hP hD hS hl

set_option maxHeartbeats 4000000 in
set_option maxRecDepth 100000 in
theorem lc_4 (F : CallFix p m c cL_law 4 s args WL RL) (hC : CT D cI cO s) (hA : ∀ q, s.heap.size ≤ q → A q) (hX : va_X b L xs s s.heap) (hbl : b < s.heap.size) (hbA : ¬ A b) (hc9 : c0 < 900) (hj : j + 4 ≤ L) (hL : L ≤ 2048) (hF : RF c0 u v) (hP : va_P D vwCl (cvU cI cO o us rg g ga h a lb u ++ mdU cI hm bm v) H) (hD : va_D A (cvU cI cO o us rg g ga h a lb u ++ mdU cI hm bm v)) (hS : va_S A s.heap H locs) (hl : lv_has ls 4 [(0, .ref b), (1, .ref o), (2, .ref hm), (3, .int (nI j))]) (K : ∀ (u : CV) (v : MV) (H : Heap) (locs : List Loc) (ls : Array Slot), RF (c0 + 1) u v → va_P D vwCl (cvU cI cO o us rg g ga h a lb u ++ mdU cI hm bm v) H → va_D A (cvU cI cO o us rg g ga h a lb u ++ mdU cI hm bm v) → va_S A s.heap H locs → lv_has ls 4 [(0, .ref b), (1, .ref o), (2, .ref hm), (3, .int (nI j))] → W p l e room_1 s m args below meth c H locs 600000 7302250 Q (F0 m 922 ls [])) : W p l e room_1 s m args below meth c H locs 600000 7302250 Q (F0 m 296 ls []) := by
  have hx := F.1
  have hb := F.2.1
  have hown := F.2.2.2.1
  obtain ⟨⟨e0, e1, e2⟩, S, B, nx, sz, G⟩ := u
  obtain ⟨w, past, er, bf, tk, sv, hs⟩ := v
  have hF0 := hF
  obtain ⟨x, n, hx4, hn4, hnx, hsz, hsv, he, hR, hG⟩ := hF
  replace hnx : nx = nI x := hnx
  replace hsz : sz = nI n := hsz
  replace hsv : sv = nI n := hsv
  subst hnx
  subst hsz
  subst hsv
  replace he : er 0 = e0 ∧ er 1 = e1 ∧ er 2 = e2 := he
  replace hR : RC c0 S w := hR
  replace hG : ∀ i, i < n → RC c0 (G ((x + 4 - n + i) % 4)) (fun k => past (470 * i + k)) := hG
  replace hP : va_P D vwCl (([(o, .inr (2, [.ref (h), .ref (us), .ref (lb), .int e0, .int e1, .int e2]))] ++ (usS cI cO us rg g ga ((nI (x))) ((nI (n))) G ++ (stW cI h a S ++ ([(lb, .inl (cI, 96, .inl B))])))) ++ mdU cI hm bm (w, past, er, bf, tk, nI n, hs)) H := hP
  replace hD : va_D A (([(o, .inr (2, [.ref (h), .ref (us), .ref (lb), .int e0, .int e1, .int e2]))] ++ (usS cI cO us rg g ga ((nI (x))) ((nI (n))) G ++ (stW cI h a S ++ ([(lb, .inl (cI, 96, .inl B))])))) ++ mdU cI hm bm (w, past, er, bf, tk, nI n, hs)) := hD
  refine lv_aload_n hx hb dL_law_296 rfl (lv_at hl 1 rfl) ?_
  refine lv_aload_n hx hb dL_law_297 rfl (lv_at hl 0 rfl) ?_
  refine lv_iload_n hx hb dL_law_298 rfl (lv_at hl 3 rfl) ?_
  refine lv_iconst (v := (nI (1))) hx hb dL_law_299 (by decide) ?_
  refine n_iadd hx hb dL_law_300 ?_
  refine va_sld hx hb hX hbl hbA hS (vp_in_nI (by omega) (by omega)) dL_law_301 ?_
  refine w_cv (y := xs (j + 1)) (congrArg xs (nI_clamp (by omega))) ?_
  refine lv_aload_n hx hb dL_law_302 rfl (lv_at hl 0 rfl) ?_
  refine lv_iload_n hx hb dL_law_303 rfl (lv_at hl 3 rfl) ?_
  refine lv_iconst (v := (nI (2))) hx hb dL_law_304 (by decide) ?_
  refine n_iadd hx hb dL_law_305 ?_
  refine va_sld hx hb hX hbl hbA hS (vp_in_nI (by omega) (by omega)) dL_law_306 ?_
  refine w_cv (y := xs (j + 2)) (congrArg xs (nI_clamp (by omega))) ?_
  have hPc := va_pl0 hP
  have hDc := va_dl hD
  refine goWi (pre := []) (wc := [(o, .inr (2, [.ref (h), .ref (us), .ref (lb), .int e0, .int e1, .int e2]))] ++ (usS cI cO us rg g ga ((nI (x))) ((nI (n))) G ++ (stW cI h a S ++ ([(lb, .inl (cI, 96, .inl B))])))) (suf := mdU cI hm bm (w, past, er, bf, tk, nI n, hs)) (kV (As := [.int (xs (j + 1)), .int (xs (j + 2))]) (rest := []) F (c_X2_queueLength l D cI cO _ o us rg g ga h a lb e0 e1 e2 G S B w c0 hR x n hx4 hn4 hc9 (xs (j + 1)) (xs (j + 2))) ywX2_queueLength qw271 qw272 qw273 ⟨rfl, rfl⟩ ⟨Nat.le_of_ble_eq_true rfl, Nat.le_of_ble_eq_true rfl⟩ (preV (preW hPc hC hDc) hC hPc (ci := 2) (q0 := 0) rfl rfl rfl) rfl hl.1 rfl (Nat.le_of_ble_eq_true rfl) dL_law_307 ⟨Nat.le_refl _, Nat.le_refl _⟩) (by rw [List.nil_append]; exact hP) (by rw [List.nil_append]; exact hD) hS hA (fun r1 u1 H locs h1 hP hD hS => ?_)
  replace hP : va_P D vwCl (cvU cI cO o us rg g ga h a lb u1 ++ mdW cI hm bm w past er bf tk (nI n) hs) H := hP
  replace hD : va_D A (cvU cI cO o us rg g ga h a lb u1 ++ mdW cI hm bm w past er bf tk (nI n) hs) := hD
  refine lv_aload_n hx hb dL_law_310 rfl (lv_at hl 2 rfl) ?_
  refine lv_aload_n hx hb dL_law_311 rfl (lv_at hl 0 rfl) ?_
  refine lv_iload_n hx hb dL_law_312 rfl (lv_at hl 3 rfl) ?_
  refine lv_iconst (v := (nI (1))) hx hb dL_law_313 (by decide) ?_
  refine n_iadd hx hb dL_law_314 ?_
  refine va_sld hx hb hX hbl hbA hS (vp_in_nI (by omega) (by omega)) dL_law_315 ?_
  refine w_cv (y := xs (j + 1)) (congrArg xs (nI_clamp (by omega))) ?_
  refine lv_aload_n hx hb dL_law_316 rfl (lv_at hl 0 rfl) ?_
  refine lv_iload_n hx hb dL_law_317 rfl (lv_at hl 3 rfl) ?_
  refine lv_iconst (v := (nI (2))) hx hb dL_law_318 (by decide) ?_
  refine n_iadd hx hb dL_law_319 ?_
  refine va_sld hx hb hX hbl hbA hS (vp_in_nI (by omega) (by omega)) dL_law_320 ?_
  refine w_cv (y := xs (j + 2)) (congrArg xs (nI_clamp (by omega))) ?_
  have hPm := va_pr0 hP
  have hDm := va_dr hD
  refine goWi (pre := cvU cI cO o us rg g ga h a lb u1) (wc := mdW cI hm bm w past er bf tk (nI n) hs) (suf := []) (kV (As := [.int (xs (j + 1)), .int (xs (j + 2))]) (rest := [.int r1]) F (c_X3_queueLength l D cI cO _ hm bm w past er bf tk (nI n) hs c0 hR.wf n hc9 hn4 rfl (xs (j + 1)) (xs (j + 2))) ywX3_queueLength qw552 qw553 qw554 ⟨rfl, rfl⟩ ⟨Nat.le_of_ble_eq_true rfl, Nat.le_of_ble_eq_true rfl⟩ (preV (preW hPm hC hDm) hC hPm (ci := 3) (q0 := 0) rfl rfl rfl) rfl hl.1 rfl (Nat.le_of_ble_eq_true rfl) dL_law_321 ⟨Nat.le_refl _, Nat.le_refl _⟩) (by rw [List.append_nil]; exact hP) (by rw [List.append_nil]; exact hD) hS hA (fun r2 v1 H locs h2 hP hD hS => ?_)
  rw [List.append_nil] at hP hD
  replace hP : va_P D vwCl (cvU cI cO o us rg g ga h a lb u1 ++ mdU cI hm bm v1) H := hP
  replace hD : va_D A (cvU cI cO o us rg g ga h a lb u1 ++ mdU cI hm bm v1) := hD
  refine lv_icmp_eq (tgt := 922) hx hb dL_law_324 (by decide) (fun c9 => ?_) (fun c9 => absurd (by rw [h1.1, h2.1]) c9)
  exact K u1 v1 _ _ ls (RF_step hx4 hn4 he hG kd_oQl h1.2 h2.2) hP hD hS hl

set_option maxHeartbeats 4000000 in
set_option maxRecDepth 100000 in
theorem lc_5 (F : CallFix p m c cL_law 4 s args WL RL) (hC : CT D cI cO s) (hA : ∀ q, s.heap.size ≤ q → A q) (hX : va_X b L xs s s.heap) (hbl : b < s.heap.size) (hbA : ¬ A b) (hc9 : c0 < 900) (hj : j + 4 ≤ L) (hL : L ≤ 2048) (hF : RF c0 u v) (hP : va_P D vwCl (cvU cI cO o us rg g ga h a lb u ++ mdU cI hm bm v) H) (hD : va_D A (cvU cI cO o us rg g ga h a lb u ++ mdU cI hm bm v)) (hS : va_S A s.heap H locs) (hl : lv_has ls 4 [(0, .ref b), (1, .ref o), (2, .ref hm), (3, .int (nI j))]) (K : ∀ (u : CV) (v : MV) (H : Heap) (locs : List Loc) (ls : Array Slot), RF (c0 + 1) u v → va_P D vwCl (cvU cI cO o us rg g ga h a lb u ++ mdU cI hm bm v) H → va_D A (cvU cI cO o us rg g ga h a lb u ++ mdU cI hm bm v) → va_S A s.heap H locs → lv_has ls 4 [(0, .ref b), (1, .ref o), (2, .ref hm), (3, .int (nI j))] → W p l e room_1 s m args below meth c H locs 600000 7302250 Q (F0 m 922 ls [])) : W p l e room_1 s m args below meth c H locs 600000 7302250 Q (F0 m 329 ls []) := by
  have hx := F.1
  have hb := F.2.1
  have hown := F.2.2.2.1
  obtain ⟨⟨e0, e1, e2⟩, S, B, nx, sz, G⟩ := u
  obtain ⟨w, past, er, bf, tk, sv, hs⟩ := v
  have hF0 := hF
  obtain ⟨x, n, hx4, hn4, hnx, hsz, hsv, he, hR, hG⟩ := hF
  replace hnx : nx = nI x := hnx
  replace hsz : sz = nI n := hsz
  replace hsv : sv = nI n := hsv
  subst hnx
  subst hsz
  subst hsv
  replace he : er 0 = e0 ∧ er 1 = e1 ∧ er 2 = e2 := he
  replace hR : RC c0 S w := hR
  replace hG : ∀ i, i < n → RC c0 (G ((x + 4 - n + i) % 4)) (fun k => past (470 * i + k)) := hG
  replace hP : va_P D vwCl (([(o, .inr (2, [.ref (h), .ref (us), .ref (lb), .int e0, .int e1, .int e2]))] ++ (usS cI cO us rg g ga ((nI (x))) ((nI (n))) G ++ (stW cI h a S ++ ([(lb, .inl (cI, 96, .inl B))])))) ++ mdU cI hm bm (w, past, er, bf, tk, nI n, hs)) H := hP
  replace hD : va_D A (([(o, .inr (2, [.ref (h), .ref (us), .ref (lb), .int e0, .int e1, .int e2]))] ++ (usS cI cO us rg g ga ((nI (x))) ((nI (n))) G ++ (stW cI h a S ++ ([(lb, .inl (cI, 96, .inl B))])))) ++ mdU cI hm bm (w, past, er, bf, tk, nI n, hs)) := hD
  refine lv_aload_n hx hb dL_law_329 rfl (lv_at hl 1 rfl) ?_
  refine lv_aload_n hx hb dL_law_330 rfl (lv_at hl 0 rfl) ?_
  refine lv_iload_n hx hb dL_law_331 rfl (lv_at hl 3 rfl) ?_
  refine lv_iconst (v := (nI (1))) hx hb dL_law_332 (by decide) ?_
  refine n_iadd hx hb dL_law_333 ?_
  refine va_sld hx hb hX hbl hbA hS (vp_in_nI (by omega) (by omega)) dL_law_334 ?_
  refine w_cv (y := xs (j + 1)) (congrArg xs (nI_clamp (by omega))) ?_
  refine lv_aload_n hx hb dL_law_335 rfl (lv_at hl 0 rfl) ?_
  refine lv_iload_n hx hb dL_law_336 rfl (lv_at hl 3 rfl) ?_
  refine lv_iconst (v := (nI (2))) hx hb dL_law_337 (by decide) ?_
  refine n_iadd hx hb dL_law_338 ?_
  refine va_sld hx hb hX hbl hbA hS (vp_in_nI (by omega) (by omega)) dL_law_339 ?_
  refine w_cv (y := xs (j + 2)) (congrArg xs (nI_clamp (by omega))) ?_
  refine lv_aload_n hx hb dL_law_340 rfl (lv_at hl 0 rfl) ?_
  refine lv_iload_n hx hb dL_law_341 rfl (lv_at hl 3 rfl) ?_
  refine lv_iconst (v := (nI (3))) hx hb dL_law_342 (by decide) ?_
  refine n_iadd hx hb dL_law_343 ?_
  refine va_sld hx hb hX hbl hbA hS (vp_in_nI (by omega) (by omega)) dL_law_344 ?_
  refine w_cv (y := xs (j + 3)) (congrArg xs (nI_clamp (by omega))) ?_
  have hPc := va_pl0 hP
  have hDc := va_dl hD
  refine goWi (pre := []) (wc := [(o, .inr (2, [.ref (h), .ref (us), .ref (lb), .int e0, .int e1, .int e2]))] ++ (usS cI cO us rg g ga ((nI (x))) ((nI (n))) G ++ (stW cI h a S ++ ([(lb, .inl (cI, 96, .inl B))])))) (suf := mdU cI hm bm (w, past, er, bf, tk, nI n, hs)) (kV (As := [.int (xs (j + 1)), .int (xs (j + 2)), .int (xs (j + 3))]) (rest := []) F (c_X2_queued l D cI cO _ o us rg g ga h a lb e0 e1 e2 G S B w c0 hR x n hx4 hn4 hc9 (xs (j + 1)) (xs (j + 2)) (xs (j + 3))) ywX2_queued qw275 qw276 qw277 ⟨rfl, rfl⟩ ⟨Nat.le_of_ble_eq_true rfl, Nat.le_of_ble_eq_true rfl⟩ (preV (preW hPc hC hDc) hC hPc (ci := 2) (q0 := 0) rfl rfl rfl) rfl hl.1 rfl (Nat.le_of_ble_eq_true rfl) dL_law_345 ⟨Nat.le_refl _, Nat.le_refl _⟩) (by rw [List.nil_append]; exact hP) (by rw [List.nil_append]; exact hD) hS hA (fun r1 u1 H locs h1 hP hD hS => ?_)
  replace hP : va_P D vwCl (cvU cI cO o us rg g ga h a lb u1 ++ mdW cI hm bm w past er bf tk (nI n) hs) H := hP
  replace hD : va_D A (cvU cI cO o us rg g ga h a lb u1 ++ mdW cI hm bm w past er bf tk (nI n) hs) := hD
  refine lv_aload_n hx hb dL_law_348 rfl (lv_at hl 2 rfl) ?_
  refine lv_aload_n hx hb dL_law_349 rfl (lv_at hl 0 rfl) ?_
  refine lv_iload_n hx hb dL_law_350 rfl (lv_at hl 3 rfl) ?_
  refine lv_iconst (v := (nI (1))) hx hb dL_law_351 (by decide) ?_
  refine n_iadd hx hb dL_law_352 ?_
  refine va_sld hx hb hX hbl hbA hS (vp_in_nI (by omega) (by omega)) dL_law_353 ?_
  refine w_cv (y := xs (j + 1)) (congrArg xs (nI_clamp (by omega))) ?_
  refine lv_aload_n hx hb dL_law_354 rfl (lv_at hl 0 rfl) ?_
  refine lv_iload_n hx hb dL_law_355 rfl (lv_at hl 3 rfl) ?_
  refine lv_iconst (v := (nI (2))) hx hb dL_law_356 (by decide) ?_
  refine n_iadd hx hb dL_law_357 ?_
  refine va_sld hx hb hX hbl hbA hS (vp_in_nI (by omega) (by omega)) dL_law_358 ?_
  refine w_cv (y := xs (j + 2)) (congrArg xs (nI_clamp (by omega))) ?_
  refine lv_aload_n hx hb dL_law_359 rfl (lv_at hl 0 rfl) ?_
  refine lv_iload_n hx hb dL_law_360 rfl (lv_at hl 3 rfl) ?_
  refine lv_iconst (v := (nI (3))) hx hb dL_law_361 (by decide) ?_
  refine n_iadd hx hb dL_law_362 ?_
  refine va_sld hx hb hX hbl hbA hS (vp_in_nI (by omega) (by omega)) dL_law_363 ?_
  refine w_cv (y := xs (j + 3)) (congrArg xs (nI_clamp (by omega))) ?_
  have hPm := va_pr0 hP
  have hDm := va_dr hD
  refine goWi (pre := cvU cI cO o us rg g ga h a lb u1) (wc := mdW cI hm bm w past er bf tk (nI n) hs) (suf := []) (kV (As := [.int (xs (j + 1)), .int (xs (j + 2)), .int (xs (j + 3))]) (rest := [.int r1]) F (c_X3_queued l D cI cO _ hm bm w past er bf tk (nI n) hs c0 hR.wf n hc9 hn4 rfl (xs (j + 1)) (xs (j + 2)) (xs (j + 3))) ywX3_queued qw556 qw557 qw558 ⟨rfl, rfl⟩ ⟨Nat.le_of_ble_eq_true rfl, Nat.le_of_ble_eq_true rfl⟩ (preV (preW hPm hC hDm) hC hPm (ci := 3) (q0 := 0) rfl rfl rfl) rfl hl.1 rfl (Nat.le_of_ble_eq_true rfl) dL_law_364 ⟨Nat.le_refl _, Nat.le_refl _⟩) (by rw [List.append_nil]; exact hP) (by rw [List.append_nil]; exact hD) hS hA (fun r2 v1 H locs h2 hP hD hS => ?_)
  rw [List.append_nil] at hP hD
  replace hP : va_P D vwCl (cvU cI cO o us rg g ga h a lb u1 ++ mdU cI hm bm v1) H := hP
  replace hD : va_D A (cvU cI cO o us rg g ga h a lb u1 ++ mdU cI hm bm v1) := hD
  refine lv_icmp_eq (tgt := 922) hx hb dL_law_367 (by decide) (fun c9 => ?_) (fun c9 => absurd (by rw [h1.1, h2.1]) c9)
  exact K u1 v1 _ _ ls (RF_step hx4 hn4 he hG kd_oQd h1.2 h2.2) hP hD hS hl

set_option maxHeartbeats 4000000 in
set_option maxRecDepth 100000 in
theorem lc_6 (F : CallFix p m c cL_law 4 s args WL RL) (hC : CT D cI cO s) (hA : ∀ q, s.heap.size ≤ q → A q) (hX : va_X b L xs s s.heap) (hbl : b < s.heap.size) (hbA : ¬ A b) (hc9 : c0 < 900) (hj : j + 4 ≤ L) (hL : L ≤ 2048) (hF : RF c0 u v) (hP : va_P D vwCl (cvU cI cO o us rg g ga h a lb u ++ mdU cI hm bm v) H) (hD : va_D A (cvU cI cO o us rg g ga h a lb u ++ mdU cI hm bm v)) (hS : va_S A s.heap H locs) (hl : lv_has ls 4 [(0, .ref b), (1, .ref o), (2, .ref hm), (3, .int (nI j))]) (K : ∀ (u : CV) (v : MV) (H : Heap) (locs : List Loc) (ls : Array Slot), RF (c0 + 1) u v → va_P D vwCl (cvU cI cO o us rg g ga h a lb u ++ mdU cI hm bm v) H → va_D A (cvU cI cO o us rg g ga h a lb u ++ mdU cI hm bm v) → va_S A s.heap H locs → lv_has ls 4 [(0, .ref b), (1, .ref o), (2, .ref hm), (3, .int (nI j))] → W p l e room_1 s m args below meth c H locs 600000 7302250 Q (F0 m 922 ls [])) : W p l e room_1 s m args below meth c H locs 600000 7302250 Q (F0 m 372 ls []) := by
  have hx := F.1
  have hb := F.2.1
  have hown := F.2.2.2.1
  obtain ⟨⟨e0, e1, e2⟩, S, B, nx, sz, G⟩ := u
  obtain ⟨w, past, er, bf, tk, sv, hs⟩ := v
  have hF0 := hF
  obtain ⟨x, n, hx4, hn4, hnx, hsz, hsv, he, hR, hG⟩ := hF
  replace hnx : nx = nI x := hnx
  replace hsz : sz = nI n := hsz
  replace hsv : sv = nI n := hsv
  subst hnx
  subst hsz
  subst hsv
  replace he : er 0 = e0 ∧ er 1 = e1 ∧ er 2 = e2 := he
  replace hR : RC c0 S w := hR
  replace hG : ∀ i, i < n → RC c0 (G ((x + 4 - n + i) % 4)) (fun k => past (470 * i + k)) := hG
  replace hP : va_P D vwCl (([(o, .inr (2, [.ref (h), .ref (us), .ref (lb), .int e0, .int e1, .int e2]))] ++ (usS cI cO us rg g ga ((nI (x))) ((nI (n))) G ++ (stW cI h a S ++ ([(lb, .inl (cI, 96, .inl B))])))) ++ mdU cI hm bm (w, past, er, bf, tk, nI n, hs)) H := hP
  replace hD : va_D A (([(o, .inr (2, [.ref (h), .ref (us), .ref (lb), .int e0, .int e1, .int e2]))] ++ (usS cI cO us rg g ga ((nI (x))) ((nI (n))) G ++ (stW cI h a S ++ ([(lb, .inl (cI, 96, .inl B))])))) ++ mdU cI hm bm (w, past, er, bf, tk, nI n, hs)) := hD
  refine lv_aload_n hx hb dL_law_372 rfl (lv_at hl 1 rfl) ?_
  refine lv_aload_n hx hb dL_law_373 rfl (lv_at hl 0 rfl) ?_
  refine lv_iload_n hx hb dL_law_374 rfl (lv_at hl 3 rfl) ?_
  refine lv_iconst (v := (nI (1))) hx hb dL_law_375 (by decide) ?_
  refine n_iadd hx hb dL_law_376 ?_
  refine va_sld hx hb hX hbl hbA hS (vp_in_nI (by omega) (by omega)) dL_law_377 ?_
  refine w_cv (y := xs (j + 1)) (congrArg xs (nI_clamp (by omega))) ?_
  refine lv_aload_n hx hb dL_law_378 rfl (lv_at hl 0 rfl) ?_
  refine lv_iload_n hx hb dL_law_379 rfl (lv_at hl 3 rfl) ?_
  refine lv_iconst (v := (nI (2))) hx hb dL_law_380 (by decide) ?_
  refine n_iadd hx hb dL_law_381 ?_
  refine va_sld hx hb hX hbl hbA hS (vp_in_nI (by omega) (by omega)) dL_law_382 ?_
  refine w_cv (y := xs (j + 2)) (congrArg xs (nI_clamp (by omega))) ?_
  have hPc := va_pl0 hP
  have hDc := va_dl hD
  refine goWi (pre := []) (wc := [(o, .inr (2, [.ref (h), .ref (us), .ref (lb), .int e0, .int e1, .int e2]))] ++ (usS cI cO us rg g ga ((nI (x))) ((nI (n))) G ++ (stW cI h a S ++ ([(lb, .inl (cI, 96, .inl B))])))) (suf := mdU cI hm bm (w, past, er, bf, tk, nI n, hs)) (kV (As := [.int (xs (j + 1)), .int (xs (j + 2))]) (rest := []) F (c_X2_congestion l D cI cO _ o us rg g ga h a lb e0 e1 e2 G S B w c0 hR x n hx4 hn4 hc9 (xs (j + 1)) (xs (j + 2))) ywX2_congestion qw280 qw281 qw282 ⟨rfl, rfl⟩ ⟨Nat.le_of_ble_eq_true rfl, Nat.le_of_ble_eq_true rfl⟩ (preV (preW hPc hC hDc) hC hPc (ci := 2) (q0 := 0) rfl rfl rfl) rfl hl.1 rfl (Nat.le_of_ble_eq_true rfl) dL_law_383 ⟨Nat.le_refl _, Nat.le_refl _⟩) (by rw [List.nil_append]; exact hP) (by rw [List.nil_append]; exact hD) hS hA (fun r1 u1 H locs h1 hP hD hS => ?_)
  replace hP : va_P D vwCl (cvU cI cO o us rg g ga h a lb u1 ++ mdW cI hm bm w past er bf tk (nI n) hs) H := hP
  replace hD : va_D A (cvU cI cO o us rg g ga h a lb u1 ++ mdW cI hm bm w past er bf tk (nI n) hs) := hD
  refine lv_aload_n hx hb dL_law_386 rfl (lv_at hl 2 rfl) ?_
  refine lv_aload_n hx hb dL_law_387 rfl (lv_at hl 0 rfl) ?_
  refine lv_iload_n hx hb dL_law_388 rfl (lv_at hl 3 rfl) ?_
  refine lv_iconst (v := (nI (1))) hx hb dL_law_389 (by decide) ?_
  refine n_iadd hx hb dL_law_390 ?_
  refine va_sld hx hb hX hbl hbA hS (vp_in_nI (by omega) (by omega)) dL_law_391 ?_
  refine w_cv (y := xs (j + 1)) (congrArg xs (nI_clamp (by omega))) ?_
  refine lv_aload_n hx hb dL_law_392 rfl (lv_at hl 0 rfl) ?_
  refine lv_iload_n hx hb dL_law_393 rfl (lv_at hl 3 rfl) ?_
  refine lv_iconst (v := (nI (2))) hx hb dL_law_394 (by decide) ?_
  refine n_iadd hx hb dL_law_395 ?_
  refine va_sld hx hb hX hbl hbA hS (vp_in_nI (by omega) (by omega)) dL_law_396 ?_
  refine w_cv (y := xs (j + 2)) (congrArg xs (nI_clamp (by omega))) ?_
  have hPm := va_pr0 hP
  have hDm := va_dr hD
  refine goWi (pre := cvU cI cO o us rg g ga h a lb u1) (wc := mdW cI hm bm w past er bf tk (nI n) hs) (suf := []) (kV (As := [.int (xs (j + 1)), .int (xs (j + 2))]) (rest := [.int r1]) F (c_X3_congestion l D cI cO _ hm bm w past er bf tk (nI n) hs c0 hR.wf n hc9 hn4 rfl (xs (j + 1)) (xs (j + 2))) ywX3_congestion qw560 qw561 qw562 ⟨rfl, rfl⟩ ⟨Nat.le_of_ble_eq_true rfl, Nat.le_of_ble_eq_true rfl⟩ (preV (preW hPm hC hDm) hC hPm (ci := 3) (q0 := 0) rfl rfl rfl) rfl hl.1 rfl (Nat.le_of_ble_eq_true rfl) dL_law_397 ⟨Nat.le_refl _, Nat.le_refl _⟩) (by rw [List.append_nil]; exact hP) (by rw [List.append_nil]; exact hD) hS hA (fun r2 v1 H locs h2 hP hD hS => ?_)
  rw [List.append_nil] at hP hD
  replace hP : va_P D vwCl (cvU cI cO o us rg g ga h a lb u1 ++ mdU cI hm bm v1) H := hP
  replace hD : va_D A (cvU cI cO o us rg g ga h a lb u1 ++ mdU cI hm bm v1) := hD
  refine lv_icmp_eq (tgt := 922) hx hb dL_law_400 (by decide) (fun c9 => ?_) (fun c9 => absurd (by rw [h1.1, h2.1]) c9)
  exact K u1 v1 _ _ ls (RF_step hx4 hn4 he hG kd_oCg h1.2 h2.2) hP hD hS hl

set_option maxHeartbeats 4000000 in
set_option maxRecDepth 100000 in
theorem lc_7 (F : CallFix p m c cL_law 4 s args WL RL) (hC : CT D cI cO s) (hA : ∀ q, s.heap.size ≤ q → A q) (hX : va_X b L xs s s.heap) (hbl : b < s.heap.size) (hbA : ¬ A b) (hc9 : c0 < 900) (hj : j + 4 ≤ L) (hL : L ≤ 2048) (hF : RF c0 u v) (hP : va_P D vwCl (cvU cI cO o us rg g ga h a lb u ++ mdU cI hm bm v) H) (hD : va_D A (cvU cI cO o us rg g ga h a lb u ++ mdU cI hm bm v)) (hS : va_S A s.heap H locs) (hl : lv_has ls 4 [(0, .ref b), (1, .ref o), (2, .ref hm), (3, .int (nI j))]) (K : ∀ (u : CV) (v : MV) (H : Heap) (locs : List Loc) (ls : Array Slot), RF (c0 + 1) u v → va_P D vwCl (cvU cI cO o us rg g ga h a lb u ++ mdU cI hm bm v) H → va_D A (cvU cI cO o us rg g ga h a lb u ++ mdU cI hm bm v) → va_S A s.heap H locs → lv_has ls 4 [(0, .ref b), (1, .ref o), (2, .ref hm), (3, .int (nI j))] → W p l e room_1 s m args below meth c H locs 600000 7302250 Q (F0 m 922 ls [])) : W p l e room_1 s m args below meth c H locs 600000 7302250 Q (F0 m 405 ls []) := by
  have hx := F.1
  have hb := F.2.1
  have hown := F.2.2.2.1
  obtain ⟨⟨e0, e1, e2⟩, S, B, nx, sz, G⟩ := u
  obtain ⟨w, past, er, bf, tk, sv, hs⟩ := v
  have hF0 := hF
  obtain ⟨x, n, hx4, hn4, hnx, hsz, hsv, he, hR, hG⟩ := hF
  replace hnx : nx = nI x := hnx
  replace hsz : sz = nI n := hsz
  replace hsv : sv = nI n := hsv
  subst hnx
  subst hsz
  subst hsv
  replace he : er 0 = e0 ∧ er 1 = e1 ∧ er 2 = e2 := he
  replace hR : RC c0 S w := hR
  replace hG : ∀ i, i < n → RC c0 (G ((x + 4 - n + i) % 4)) (fun k => past (470 * i + k)) := hG
  replace hP : va_P D vwCl (([(o, .inr (2, [.ref (h), .ref (us), .ref (lb), .int e0, .int e1, .int e2]))] ++ (usS cI cO us rg g ga ((nI (x))) ((nI (n))) G ++ (stW cI h a S ++ ([(lb, .inl (cI, 96, .inl B))])))) ++ mdU cI hm bm (w, past, er, bf, tk, nI n, hs)) H := hP
  replace hD : va_D A (([(o, .inr (2, [.ref (h), .ref (us), .ref (lb), .int e0, .int e1, .int e2]))] ++ (usS cI cO us rg g ga ((nI (x))) ((nI (n))) G ++ (stW cI h a S ++ ([(lb, .inl (cI, 96, .inl B))])))) ++ mdU cI hm bm (w, past, er, bf, tk, nI n, hs)) := hD
  refine lv_aload_n hx hb dL_law_405 rfl (lv_at hl 1 rfl) ?_
  refine lv_aload_n hx hb dL_law_406 rfl (lv_at hl 0 rfl) ?_
  refine lv_iload_n hx hb dL_law_407 rfl (lv_at hl 3 rfl) ?_
  refine lv_iconst (v := (nI (1))) hx hb dL_law_408 (by decide) ?_
  refine n_iadd hx hb dL_law_409 ?_
  refine va_sld hx hb hX hbl hbA hS (vp_in_nI (by omega) (by omega)) dL_law_410 ?_
  refine w_cv (y := xs (j + 1)) (congrArg xs (nI_clamp (by omega))) ?_
  refine lv_aload_n hx hb dL_law_411 rfl (lv_at hl 0 rfl) ?_
  refine lv_iload_n hx hb dL_law_412 rfl (lv_at hl 3 rfl) ?_
  refine lv_iconst (v := (nI (2))) hx hb dL_law_413 (by decide) ?_
  refine n_iadd hx hb dL_law_414 ?_
  refine va_sld hx hb hX hbl hbA hS (vp_in_nI (by omega) (by omega)) dL_law_415 ?_
  refine w_cv (y := xs (j + 2)) (congrArg xs (nI_clamp (by omega))) ?_
  have hPc := va_pl0 hP
  have hDc := va_dl hD
  refine goWi (pre := []) (wc := [(o, .inr (2, [.ref (h), .ref (us), .ref (lb), .int e0, .int e1, .int e2]))] ++ (usS cI cO us rg g ga ((nI (x))) ((nI (n))) G ++ (stW cI h a S ++ ([(lb, .inl (cI, 96, .inl B))])))) (suf := mdU cI hm bm (w, past, er, bf, tk, nI n, hs)) (kV (As := [.int (xs (j + 1)), .int (xs (j + 2))]) (rest := []) F (c_X2_isActive l D cI cO _ o us rg g ga h a lb e0 e1 e2 G S B w c0 hR x n hx4 hn4 hc9 (xs (j + 1)) (xs (j + 2))) ywX2_isActive qw288 qw289 qw290 ⟨rfl, rfl⟩ ⟨Nat.le_of_ble_eq_true rfl, Nat.le_of_ble_eq_true rfl⟩ (preV (preW hPc hC hDc) hC hPc (ci := 2) (q0 := 0) rfl rfl rfl) rfl hl.1 rfl (Nat.le_of_ble_eq_true rfl) dL_law_416 ⟨Nat.le_refl _, Nat.le_refl _⟩) (by rw [List.nil_append]; exact hP) (by rw [List.nil_append]; exact hD) hS hA (fun r1 u1 H locs h1 hP hD hS => ?_)
  replace hP : va_P D vwCl (cvU cI cO o us rg g ga h a lb u1 ++ mdW cI hm bm w past er bf tk (nI n) hs) H := hP
  replace hD : va_D A (cvU cI cO o us rg g ga h a lb u1 ++ mdW cI hm bm w past er bf tk (nI n) hs) := hD
  refine lv_aload_n hx hb dL_law_419 rfl (lv_at hl 2 rfl) ?_
  refine lv_aload_n hx hb dL_law_420 rfl (lv_at hl 0 rfl) ?_
  refine lv_iload_n hx hb dL_law_421 rfl (lv_at hl 3 rfl) ?_
  refine lv_iconst (v := (nI (1))) hx hb dL_law_422 (by decide) ?_
  refine n_iadd hx hb dL_law_423 ?_
  refine va_sld hx hb hX hbl hbA hS (vp_in_nI (by omega) (by omega)) dL_law_424 ?_
  refine w_cv (y := xs (j + 1)) (congrArg xs (nI_clamp (by omega))) ?_
  refine lv_aload_n hx hb dL_law_425 rfl (lv_at hl 0 rfl) ?_
  refine lv_iload_n hx hb dL_law_426 rfl (lv_at hl 3 rfl) ?_
  refine lv_iconst (v := (nI (2))) hx hb dL_law_427 (by decide) ?_
  refine n_iadd hx hb dL_law_428 ?_
  refine va_sld hx hb hX hbl hbA hS (vp_in_nI (by omega) (by omega)) dL_law_429 ?_
  refine w_cv (y := xs (j + 2)) (congrArg xs (nI_clamp (by omega))) ?_
  have hPm := va_pr0 hP
  have hDm := va_dr hD
  refine goWi (pre := cvU cI cO o us rg g ga h a lb u1) (wc := mdW cI hm bm w past er bf tk (nI n) hs) (suf := []) (kV (As := [.int (xs (j + 1)), .int (xs (j + 2))]) (rest := [.int r1]) F (c_X3_isActive l D cI cO _ hm bm w past er bf tk (nI n) hs c0 hR.wf n hc9 hn4 rfl (xs (j + 1)) (xs (j + 2))) ywX3_isActive qw568 qw569 qw570 ⟨rfl, rfl⟩ ⟨Nat.le_of_ble_eq_true rfl, Nat.le_of_ble_eq_true rfl⟩ (preV (preW hPm hC hDm) hC hPm (ci := 3) (q0 := 0) rfl rfl rfl) rfl hl.1 rfl (Nat.le_of_ble_eq_true rfl) dL_law_430 ⟨Nat.le_refl _, Nat.le_refl _⟩) (by rw [List.append_nil]; exact hP) (by rw [List.append_nil]; exact hD) hS hA (fun r2 v1 H locs h2 hP hD hS => ?_)
  rw [List.append_nil] at hP hD
  replace hP : va_P D vwCl (cvU cI cO o us rg g ga h a lb u1 ++ mdU cI hm bm v1) H := hP
  replace hD : va_D A (cvU cI cO o us rg g ga h a lb u1 ++ mdU cI hm bm v1) := hD
  refine lv_icmp_eq (tgt := 922) hx hb dL_law_433 (by decide) (fun c9 => ?_) (fun c9 => absurd (by rw [h1.1, h2.1]) c9)
  exact K u1 v1 _ _ ls (RF_step hx4 hn4 he hG kd_oAc h1.2 h2.2) hP hD hS hl

set_option maxHeartbeats 4000000 in
set_option maxRecDepth 100000 in
theorem lc_8 (F : CallFix p m c cL_law 4 s args WL RL) (hC : CT D cI cO s) (hA : ∀ q, s.heap.size ≤ q → A q) (hX : va_X b L xs s s.heap) (hbl : b < s.heap.size) (hbA : ¬ A b) (hc9 : c0 < 900) (hj : j + 4 ≤ L) (hL : L ≤ 2048) (hF : RF c0 u v) (hP : va_P D vwCl (cvU cI cO o us rg g ga h a lb u ++ mdU cI hm bm v) H) (hD : va_D A (cvU cI cO o us rg g ga h a lb u ++ mdU cI hm bm v)) (hS : va_S A s.heap H locs) (hl : lv_has ls 4 [(0, .ref b), (1, .ref o), (2, .ref hm), (3, .int (nI j))]) (K : ∀ (u : CV) (v : MV) (H : Heap) (locs : List Loc) (ls : Array Slot), RF (c0 + 1) u v → va_P D vwCl (cvU cI cO o us rg g ga h a lb u ++ mdU cI hm bm v) H → va_D A (cvU cI cO o us rg g ga h a lb u ++ mdU cI hm bm v) → va_S A s.heap H locs → lv_has ls 4 [(0, .ref b), (1, .ref o), (2, .ref hm), (3, .int (nI j))] → W p l e room_1 s m args below meth c H locs 600000 7302250 Q (F0 m 922 ls [])) : W p l e room_1 s m args below meth c H locs 600000 7302250 Q (F0 m 438 ls []) := by
  have hx := F.1
  have hb := F.2.1
  have hown := F.2.2.2.1
  obtain ⟨⟨e0, e1, e2⟩, S, B, nx, sz, G⟩ := u
  obtain ⟨w, past, er, bf, tk, sv, hs⟩ := v
  have hF0 := hF
  obtain ⟨x, n, hx4, hn4, hnx, hsz, hsv, he, hR, hG⟩ := hF
  replace hnx : nx = nI x := hnx
  replace hsz : sz = nI n := hsz
  replace hsv : sv = nI n := hsv
  subst hnx
  subst hsz
  subst hsv
  replace he : er 0 = e0 ∧ er 1 = e1 ∧ er 2 = e2 := he
  replace hR : RC c0 S w := hR
  replace hG : ∀ i, i < n → RC c0 (G ((x + 4 - n + i) % 4)) (fun k => past (470 * i + k)) := hG
  replace hP : va_P D vwCl (([(o, .inr (2, [.ref (h), .ref (us), .ref (lb), .int e0, .int e1, .int e2]))] ++ (usS cI cO us rg g ga ((nI (x))) ((nI (n))) G ++ (stW cI h a S ++ ([(lb, .inl (cI, 96, .inl B))])))) ++ mdU cI hm bm (w, past, er, bf, tk, nI n, hs)) H := hP
  replace hD : va_D A (([(o, .inr (2, [.ref (h), .ref (us), .ref (lb), .int e0, .int e1, .int e2]))] ++ (usS cI cO us rg g ga ((nI (x))) ((nI (n))) G ++ (stW cI h a S ++ ([(lb, .inl (cI, 96, .inl B))])))) ++ mdU cI hm bm (w, past, er, bf, tk, nI n, hs)) := hD
  refine lv_aload_n hx hb dL_law_438 rfl (lv_at hl 1 rfl) ?_
  refine lv_aload_n hx hb dL_law_439 rfl (lv_at hl 0 rfl) ?_
  refine lv_iload_n hx hb dL_law_440 rfl (lv_at hl 3 rfl) ?_
  refine lv_iconst (v := (nI (1))) hx hb dL_law_441 (by decide) ?_
  refine n_iadd hx hb dL_law_442 ?_
  refine va_sld hx hb hX hbl hbA hS (vp_in_nI (by omega) (by omega)) dL_law_443 ?_
  refine w_cv (y := xs (j + 1)) (congrArg xs (nI_clamp (by omega))) ?_
  refine lv_aload_n hx hb dL_law_444 rfl (lv_at hl 0 rfl) ?_
  refine lv_iload_n hx hb dL_law_445 rfl (lv_at hl 3 rfl) ?_
  refine lv_iconst (v := (nI (2))) hx hb dL_law_446 (by decide) ?_
  refine n_iadd hx hb dL_law_447 ?_
  refine va_sld hx hb hX hbl hbA hS (vp_in_nI (by omega) (by omega)) dL_law_448 ?_
  refine w_cv (y := xs (j + 2)) (congrArg xs (nI_clamp (by omega))) ?_
  refine lv_aload_n hx hb dL_law_449 rfl (lv_at hl 0 rfl) ?_
  refine lv_iload_n hx hb dL_law_450 rfl (lv_at hl 3 rfl) ?_
  refine lv_iconst (v := (nI (3))) hx hb dL_law_451 (by decide) ?_
  refine n_iadd hx hb dL_law_452 ?_
  refine va_sld hx hb hX hbl hbA hS (vp_in_nI (by omega) (by omega)) dL_law_453 ?_
  refine w_cv (y := xs (j + 3)) (congrArg xs (nI_clamp (by omega))) ?_
  have hPc := va_pl0 hP
  have hDc := va_dl hD
  refine goWi (pre := []) (wc := [(o, .inr (2, [.ref (h), .ref (us), .ref (lb), .int e0, .int e1, .int e2]))] ++ (usS cI cO us rg g ga ((nI (x))) ((nI (n))) G ++ (stW cI h a S ++ ([(lb, .inl (cI, 96, .inl B))])))) (suf := mdU cI hm bm (w, past, er, bf, tk, nI n, hs)) (kV (As := [.int (xs (j + 1)), .int (xs (j + 2)), .int (xs (j + 3))]) (rest := []) F (c_X2_addRoute l D cI cO _ o us rg g ga h a lb e0 e1 e2 G S B w c0 hR x n hx4 hn4 hc9 (xs (j + 1)) (xs (j + 2)) (xs (j + 3))) ywX2_addRoute qw292 qw293 qw294 ⟨rfl, rfl⟩ ⟨Nat.le_of_ble_eq_true rfl, Nat.le_of_ble_eq_true rfl⟩ (preV (preW hPc hC hDc) hC hPc (ci := 2) (q0 := 0) rfl rfl rfl) rfl hl.1 rfl (Nat.le_of_ble_eq_true rfl) dL_law_454 ⟨Nat.le_refl _, Nat.le_refl _⟩) (by rw [List.nil_append]; exact hP) (by rw [List.nil_append]; exact hD) hS hA (fun r1 u1 H locs h1 hP hD hS => ?_)
  replace hP : va_P D vwCl (cvU cI cO o us rg g ga h a lb u1 ++ mdW cI hm bm w past er bf tk (nI n) hs) H := hP
  replace hD : va_D A (cvU cI cO o us rg g ga h a lb u1 ++ mdW cI hm bm w past er bf tk (nI n) hs) := hD
  refine lv_aload_n hx hb dL_law_457 rfl (lv_at hl 2 rfl) ?_
  refine lv_aload_n hx hb dL_law_458 rfl (lv_at hl 0 rfl) ?_
  refine lv_iload_n hx hb dL_law_459 rfl (lv_at hl 3 rfl) ?_
  refine lv_iconst (v := (nI (1))) hx hb dL_law_460 (by decide) ?_
  refine n_iadd hx hb dL_law_461 ?_
  refine va_sld hx hb hX hbl hbA hS (vp_in_nI (by omega) (by omega)) dL_law_462 ?_
  refine w_cv (y := xs (j + 1)) (congrArg xs (nI_clamp (by omega))) ?_
  refine lv_aload_n hx hb dL_law_463 rfl (lv_at hl 0 rfl) ?_
  refine lv_iload_n hx hb dL_law_464 rfl (lv_at hl 3 rfl) ?_
  refine lv_iconst (v := (nI (2))) hx hb dL_law_465 (by decide) ?_
  refine n_iadd hx hb dL_law_466 ?_
  refine va_sld hx hb hX hbl hbA hS (vp_in_nI (by omega) (by omega)) dL_law_467 ?_
  refine w_cv (y := xs (j + 2)) (congrArg xs (nI_clamp (by omega))) ?_
  refine lv_aload_n hx hb dL_law_468 rfl (lv_at hl 0 rfl) ?_
  refine lv_iload_n hx hb dL_law_469 rfl (lv_at hl 3 rfl) ?_
  refine lv_iconst (v := (nI (3))) hx hb dL_law_470 (by decide) ?_
  refine n_iadd hx hb dL_law_471 ?_
  refine va_sld hx hb hX hbl hbA hS (vp_in_nI (by omega) (by omega)) dL_law_472 ?_
  refine w_cv (y := xs (j + 3)) (congrArg xs (nI_clamp (by omega))) ?_
  have hPm := va_pr0 hP
  have hDm := va_dr hD
  refine goWi (pre := cvU cI cO o us rg g ga h a lb u1) (wc := mdW cI hm bm w past er bf tk (nI n) hs) (suf := []) (kV (As := [.int (xs (j + 1)), .int (xs (j + 2)), .int (xs (j + 3))]) (rest := [.int r1]) F (c_X3_addRoute l D cI cO _ hm bm w past er bf tk (nI n) hs c0 hR.wf n hc9 hn4 rfl (xs (j + 1)) (xs (j + 2)) (xs (j + 3))) ywX3_addRoute qw572 qw573 qw574 ⟨rfl, rfl⟩ ⟨Nat.le_of_ble_eq_true rfl, Nat.le_of_ble_eq_true rfl⟩ (preV (preW hPm hC hDm) hC hPm (ci := 3) (q0 := 0) rfl rfl rfl) rfl hl.1 rfl (Nat.le_of_ble_eq_true rfl) dL_law_473 ⟨Nat.le_refl _, Nat.le_refl _⟩) (by rw [List.append_nil]; exact hP) (by rw [List.append_nil]; exact hD) hS hA (fun r2 v1 H locs h2 hP hD hS => ?_)
  rw [List.append_nil] at hP hD
  replace hP : va_P D vwCl (cvU cI cO o us rg g ga h a lb u1 ++ mdU cI hm bm v1) H := hP
  replace hD : va_D A (cvU cI cO o us rg g ga h a lb u1 ++ mdU cI hm bm v1) := hD
  refine lv_icmp_eq (tgt := 922) hx hb dL_law_476 (by decide) (fun c9 => ?_) (fun c9 => absurd (by rw [h1.1, h2.1]) c9)
  exact K u1 v1 _ _ ls (RF_step hx4 hn4 he hG kd_oAr h1.2 h2.2) hP hD hS hl

set_option maxHeartbeats 4000000 in
set_option maxRecDepth 100000 in
theorem lc_9 (F : CallFix p m c cL_law 4 s args WL RL) (hC : CT D cI cO s) (hA : ∀ q, s.heap.size ≤ q → A q) (hX : va_X b L xs s s.heap) (hbl : b < s.heap.size) (hbA : ¬ A b) (hc9 : c0 < 900) (hj : j + 4 ≤ L) (hL : L ≤ 2048) (hF : RF c0 u v) (hP : va_P D vwCl (cvU cI cO o us rg g ga h a lb u ++ mdU cI hm bm v) H) (hD : va_D A (cvU cI cO o us rg g ga h a lb u ++ mdU cI hm bm v)) (hS : va_S A s.heap H locs) (hl : lv_has ls 4 [(0, .ref b), (1, .ref o), (2, .ref hm), (3, .int (nI j))]) (K : ∀ (u : CV) (v : MV) (H : Heap) (locs : List Loc) (ls : Array Slot), RF (c0 + 1) u v → va_P D vwCl (cvU cI cO o us rg g ga h a lb u ++ mdU cI hm bm v) H → va_D A (cvU cI cO o us rg g ga h a lb u ++ mdU cI hm bm v) → va_S A s.heap H locs → lv_has ls 4 [(0, .ref b), (1, .ref o), (2, .ref hm), (3, .int (nI j))] → W p l e room_1 s m args below meth c H locs 600000 7302250 Q (F0 m 922 ls [])) : W p l e room_1 s m args below meth c H locs 600000 7302250 Q (F0 m 481 ls []) := by
  have hx := F.1
  have hb := F.2.1
  have hown := F.2.2.2.1
  obtain ⟨⟨e0, e1, e2⟩, S, B, nx, sz, G⟩ := u
  obtain ⟨w, past, er, bf, tk, sv, hs⟩ := v
  have hF0 := hF
  obtain ⟨x, n, hx4, hn4, hnx, hsz, hsv, he, hR, hG⟩ := hF
  replace hnx : nx = nI x := hnx
  replace hsz : sz = nI n := hsz
  replace hsv : sv = nI n := hsv
  subst hnx
  subst hsz
  subst hsv
  replace he : er 0 = e0 ∧ er 1 = e1 ∧ er 2 = e2 := he
  replace hR : RC c0 S w := hR
  replace hG : ∀ i, i < n → RC c0 (G ((x + 4 - n + i) % 4)) (fun k => past (470 * i + k)) := hG
  replace hP : va_P D vwCl (([(o, .inr (2, [.ref (h), .ref (us), .ref (lb), .int e0, .int e1, .int e2]))] ++ (usS cI cO us rg g ga ((nI (x))) ((nI (n))) G ++ (stW cI h a S ++ ([(lb, .inl (cI, 96, .inl B))])))) ++ mdU cI hm bm (w, past, er, bf, tk, nI n, hs)) H := hP
  replace hD : va_D A (([(o, .inr (2, [.ref (h), .ref (us), .ref (lb), .int e0, .int e1, .int e2]))] ++ (usS cI cO us rg g ga ((nI (x))) ((nI (n))) G ++ (stW cI h a S ++ ([(lb, .inl (cI, 96, .inl B))])))) ++ mdU cI hm bm (w, past, er, bf, tk, nI n, hs)) := hD
  refine lv_aload_n hx hb dL_law_481 rfl (lv_at hl 1 rfl) ?_
  refine lv_aload_n hx hb dL_law_482 rfl (lv_at hl 0 rfl) ?_
  refine lv_iload_n hx hb dL_law_483 rfl (lv_at hl 3 rfl) ?_
  refine lv_iconst (v := (nI (1))) hx hb dL_law_484 (by decide) ?_
  refine n_iadd hx hb dL_law_485 ?_
  refine va_sld hx hb hX hbl hbA hS (vp_in_nI (by omega) (by omega)) dL_law_486 ?_
  refine w_cv (y := xs (j + 1)) (congrArg xs (nI_clamp (by omega))) ?_
  refine lv_aload_n hx hb dL_law_487 rfl (lv_at hl 0 rfl) ?_
  refine lv_iload_n hx hb dL_law_488 rfl (lv_at hl 3 rfl) ?_
  refine lv_iconst (v := (nI (2))) hx hb dL_law_489 (by decide) ?_
  refine n_iadd hx hb dL_law_490 ?_
  refine va_sld hx hb hX hbl hbA hS (vp_in_nI (by omega) (by omega)) dL_law_491 ?_
  refine w_cv (y := xs (j + 2)) (congrArg xs (nI_clamp (by omega))) ?_
  have hPc := va_pl0 hP
  have hDc := va_dl hD
  refine goWi (pre := []) (wc := [(o, .inr (2, [.ref (h), .ref (us), .ref (lb), .int e0, .int e1, .int e2]))] ++ (usS cI cO us rg g ga ((nI (x))) ((nI (n))) G ++ (stW cI h a S ++ ([(lb, .inl (cI, 96, .inl B))])))) (suf := mdU cI hm bm (w, past, er, bf, tk, nI n, hs)) (kV (As := [.int (xs (j + 1)), .int (xs (j + 2))]) (rest := []) F (c_X2_removeRoute l D cI cO _ o us rg g ga h a lb e0 e1 e2 G S B w c0 hR x n hx4 hn4 hc9 (xs (j + 1)) (xs (j + 2))) ywX2_removeRoute qw304 qw305 qw306 ⟨rfl, rfl⟩ ⟨Nat.le_of_ble_eq_true rfl, Nat.le_of_ble_eq_true rfl⟩ (preV (preW hPc hC hDc) hC hPc (ci := 2) (q0 := 0) rfl rfl rfl) rfl hl.1 rfl (Nat.le_of_ble_eq_true rfl) dL_law_492 ⟨Nat.le_refl _, Nat.le_refl _⟩) (by rw [List.nil_append]; exact hP) (by rw [List.nil_append]; exact hD) hS hA (fun r1 u1 H locs h1 hP hD hS => ?_)
  replace hP : va_P D vwCl (cvU cI cO o us rg g ga h a lb u1 ++ mdW cI hm bm w past er bf tk (nI n) hs) H := hP
  replace hD : va_D A (cvU cI cO o us rg g ga h a lb u1 ++ mdW cI hm bm w past er bf tk (nI n) hs) := hD
  refine lv_aload_n hx hb dL_law_495 rfl (lv_at hl 2 rfl) ?_
  refine lv_aload_n hx hb dL_law_496 rfl (lv_at hl 0 rfl) ?_
  refine lv_iload_n hx hb dL_law_497 rfl (lv_at hl 3 rfl) ?_
  refine lv_iconst (v := (nI (1))) hx hb dL_law_498 (by decide) ?_
  refine n_iadd hx hb dL_law_499 ?_
  refine va_sld hx hb hX hbl hbA hS (vp_in_nI (by omega) (by omega)) dL_law_500 ?_
  refine w_cv (y := xs (j + 1)) (congrArg xs (nI_clamp (by omega))) ?_
  refine lv_aload_n hx hb dL_law_501 rfl (lv_at hl 0 rfl) ?_
  refine lv_iload_n hx hb dL_law_502 rfl (lv_at hl 3 rfl) ?_
  refine lv_iconst (v := (nI (2))) hx hb dL_law_503 (by decide) ?_
  refine n_iadd hx hb dL_law_504 ?_
  refine va_sld hx hb hX hbl hbA hS (vp_in_nI (by omega) (by omega)) dL_law_505 ?_
  refine w_cv (y := xs (j + 2)) (congrArg xs (nI_clamp (by omega))) ?_
  have hPm := va_pr0 hP
  have hDm := va_dr hD
  refine goWi (pre := cvU cI cO o us rg g ga h a lb u1) (wc := mdW cI hm bm w past er bf tk (nI n) hs) (suf := []) (kV (As := [.int (xs (j + 1)), .int (xs (j + 2))]) (rest := [.int r1]) F (c_X3_removeRoute l D cI cO _ hm bm w past er bf tk (nI n) hs c0 hR.wf n hc9 hn4 rfl (xs (j + 1)) (xs (j + 2))) ywX3_removeRoute qw579 qw580 qw581 ⟨rfl, rfl⟩ ⟨Nat.le_of_ble_eq_true rfl, Nat.le_of_ble_eq_true rfl⟩ (preV (preW hPm hC hDm) hC hPm (ci := 3) (q0 := 0) rfl rfl rfl) rfl hl.1 rfl (Nat.le_of_ble_eq_true rfl) dL_law_506 ⟨Nat.le_refl _, Nat.le_refl _⟩) (by rw [List.append_nil]; exact hP) (by rw [List.append_nil]; exact hD) hS hA (fun r2 v1 H locs h2 hP hD hS => ?_)
  rw [List.append_nil] at hP hD
  replace hP : va_P D vwCl (cvU cI cO o us rg g ga h a lb u1 ++ mdU cI hm bm v1) H := hP
  replace hD : va_D A (cvU cI cO o us rg g ga h a lb u1 ++ mdU cI hm bm v1) := hD
  refine lv_icmp_eq (tgt := 922) hx hb dL_law_509 (by decide) (fun c9 => ?_) (fun c9 => absurd (by rw [h1.1, h2.1]) c9)
  exact K u1 v1 _ _ ls (RF_step hx4 hn4 he hG kd_oRr h1.2 h2.2) hP hD hS hl
end LC
