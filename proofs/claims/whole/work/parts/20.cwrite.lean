theorem ofWF {l : Launch} {y : MethodName} {ws ws' : List Cond} {rm : Room} {Pc : Array Value → State → Prop} {Qc : Array Value → State → Outcome → State → Prop} {mc ms : Nat} {free : Addr → Prop} {cc : ByteArray} {maxL : Nat} {ret : Option FieldType}
    (hy : plainFor y = true) (hw : ws = Cond.code y cc maxL ret :: ws')
    (body : ∀ p e s m args below meth c s₁, BodyLoose p l y (headSpec ws rm) cc maxL ret e s m args below meth c s₁ → c.maxLocals = maxL → Pc args s →
      W p l e (headSpec ws rm).room s m args below meth c s.heap [] 0 0 (MQ below Qc args s mc ms free) (entryFrame m args maxL)) : Met l y ws rm Pc Qc mc ms free := by
  refine MetFree.of_bodySF (code := cc) (maxLocals := maxL) (ret := ret) hy ?_ ?_
  · intro args s m h hn
    obtain ⟨meth, c, h1, h2, h3, h4, h5, h6, -, -⟩ := Cond.code_spec hn (atoms_spec (ws := ws) h _ (by rw [hw]; exact List.mem_cons_self))
    exact ⟨meth, c, h1, h2, h3, h4, h5, h6⟩
  · intro p e s m args below meth c s₁ B hml hP _
    have hh0 : s₁.heap = s.heap := by rw [B.state]; rfl
    obtain ⟨t, a1, o, b1, b2, b3⟩ := body p e s m args below meth c s₁ B hml hP s₁ hh0 (Stand.of_body B)
    exact ⟨t, o, a1, b1, b2, ⟨b3.1, b3.2⟩⟩
theorem rdF_int {l : Launch} {y : MethodName} {cc : ByteArray} {maxL : Nat} {rm : Room} {vs : List Value} {ws : va_W} {D : va_G} {cI cO : ClassId} {post : Int32 → Prop} (hy : plainFor y = true) (hlen : (lg_sl vs).length ≤ maxL)
    (body : ∀ (p : Program) (e : Env) (s : State) (m : MethodId) (args : Array Value) (below : List Frame) (meth : Method) (c : Code) (Q : State → Prop) (ls : Array Slot), CallFix p m c cc maxL s args WL y.cls → va_P D vwCl ws s.heap → CT D cI cO s →
      (∀ (r : Int32) (pc : Nat) (ls : Array Slot), post r → decode cc pc = .ok (.ireturn, 1) → W p l e rm s m args below meth c s.heap [] 0 0 Q (F0 m pc ls [.int r])) → lv_has ls maxL (lv_args 0 vs) → W p l e rm s m args below meth c s.heap [] 0 0 Q (F0 m 0 ls [])) :
    Met l y (Cond.code y cc maxL (some .int) :: WL) rm (va_Pc vs (PR D cI cO ws)) (vp_Si post) 0 0 (fun _ => False) := by
  refine ofWF (cc := cc) (maxL := maxL) (ret := some .int) hy rfl ?_
  intro p e s m args below meth c s₁ B hml hv
  obtain ⟨hargs, hP, hC⟩ := hv
  have hts := atoms_spec (ws := Cond.code y cc maxL (some .int) :: WL) B.pre
  have hl := lv_entry vs hlen
  have hlocks := B.notSynchronized
  rw [show entryFrame m args maxL = F0 m 0 ((lg_sl vs ++ List.replicate (maxL - (lg_sl vs).length) Slot.unset).toArray) [] from by rw [hargs]; exact lg_entry_eq m vs maxL]
  exact body p e s m args below meth c _ _ ⟨B.exec, B.bytes, hml, findClass_of_methodNamed B.named, fun w h => hts w (List.mem_cons_of_mem _ h)⟩ hP hC (fun r pc ls hr hd => W.iret (v := r) B.exec B.bytes B.returns (fun t ht _ => ⟨r, rfl, hr, ht⟩) (fun _ h => by cases h) hd) hl
set_option maxHeartbeats 4000000 in
set_option maxRecDepth 100000 in
theorem c_J9_floorDiv_7cf53 (l : Launch) (D : va_G) (cI cO : ClassId) (x y : Nat) (hx_ : x < 2 ^ 31) (hy0 : 0 < y) (hy_ : y < 2 ^ 31) : Met l yJ9_floorDiv_7cf53 (Cond.code yJ9_floorDiv_7cf53 cJ9_floorDiv_7cf53 3 (some .int) :: WL) ({ frames := 0, cells := 0, slots := 0, locals := 0 } : Room) (va_Pc [.int (nI (x)), .int (nI (y))] (PR D cI cO ([]))) (vp_Si (fun r => r = nI (x / y))) 0 0 (fun _ => False) := by
  refine rdF_int (by decide +kernel) (Nat.le_of_ble_eq_true rfl) ?_
  intro p e s m args below meth c Q ls F hP hC hret hl
  have hx := F.1
  have hb := F.2.1
  have hml := F.2.2.1
  have hown := F.2.2.2.1
  have hts := F.2.2.2.2
  replace hl : lv_has ls 3 [(0, .int (nI (x))), (1, .int (nI (y)))] := hl
  refine lv_iload_n hx hb dJ9_floorDiv_7cf53_0 rfl (lv_at hl 0 rfl) ?_
  refine lv_iload_n hx hb dJ9_floorDiv_7cf53_1 rfl (lv_at hl 1 rfl) ?_
  refine n_idiv hx hb dJ9_floorDiv_7cf53_2 (by omega) (by omega) (by omega) ?_
  refine lv_istore_n (lv' := [(2, .int (nI (x / y))), (0, .int (nI (x))), (1, .int (nI (y)))]) hx hb dJ9_floorDiv_7cf53_3 rfl hl (by decide) rfl (fun ls hl => ?_)
  refine lv_iload_n hx hb dJ9_floorDiv_7cf53_4 rfl (lv_at hl 1 rfl) ?_
  refine lv_iload_n hx hb dJ9_floorDiv_7cf53_5 rfl (lv_at hl 2 rfl) ?_
  refine lv_ixor hx hb dJ9_floorDiv_7cf53_6 ?_
  refine lv_if_ge (tgt := 21) hx hb dJ9_floorDiv_7cf53_7 (by decide)  (fun c_7 => ?_) (fun c_7 => ?_)
  · refine lv_iload_n hx hb dJ9_floorDiv_7cf53_21 rfl (lv_at hl 0 rfl) ?_
    exact hret _ _ ls (rfl) dJ9_floorDiv_7cf53_22
  · exact absurd (xor0 hx_ hy_) c_7

set_option maxHeartbeats 4000000 in
set_option maxRecDepth 100000 in
theorem c_J9_floorMod_7cf53 (l : Launch) (D : va_G) (cI cO : ClassId) (x y : Nat) (hx_ : x < 2 ^ 31) (hy0 : 0 < y) (hy_ : y < 2 ^ 31) : Met l yJ9_floorMod_7cf53 (Cond.code yJ9_floorMod_7cf53 cJ9_floorMod_7cf53 3 (some .int) :: WL) ({ frames := 0, cells := 0, slots := 0, locals := 0 } : Room) (va_Pc [.int (nI (x)), .int (nI (y))] (PR D cI cO ([]))) (vp_Si (fun r => r = nI (x % y))) 0 0 (fun _ => False) := by
  refine rdF_int (by decide +kernel) (Nat.le_of_ble_eq_true rfl) ?_
  intro p e s m args below meth c Q ls F hP hC hret hl
  have hx := F.1
  have hb := F.2.1
  have hml := F.2.2.1
  have hown := F.2.2.2.1
  have hts := F.2.2.2.2
  replace hl : lv_has ls 3 [(0, .int (nI (x))), (1, .int (nI (y)))] := hl
  refine lv_iload_n hx hb dJ9_floorMod_7cf53_0 rfl (lv_at hl 0 rfl) ?_
  refine lv_iload_n hx hb dJ9_floorMod_7cf53_1 rfl (lv_at hl 1 rfl) ?_
  refine n_irem hx hb dJ9_floorMod_7cf53_2 (by omega) (by omega) (by omega) ?_
  refine lv_istore_n (lv' := [(2, .int (nI (x % y))), (0, .int (nI (x))), (1, .int (nI (y)))]) hx hb dJ9_floorMod_7cf53_3 rfl hl (by decide) rfl (fun ls hl => ?_)
  refine lv_iload_n hx hb dJ9_floorMod_7cf53_4 rfl (lv_at hl 1 rfl) ?_
  refine lv_iload_n hx hb dJ9_floorMod_7cf53_5 rfl (lv_at hl 2 rfl) ?_
  refine lv_ixor hx hb dJ9_floorMod_7cf53_6 ?_
  refine lv_if_ge (tgt := 18) hx hb dJ9_floorMod_7cf53_7 (by decide)  (fun c_7 => ?_) (fun c_7 => ?_)
  · refine lv_iload_n hx hb dJ9_floorMod_7cf53_18 rfl (lv_at hl 0 rfl) ?_
    exact hret _ _ ls (rfl) dJ9_floorMod_7cf53_19
  · exact absurd (xor0 hx_ hy_) c_7

set_option maxHeartbeats 4000000 in
set_option maxRecDepth 100000 in
theorem c_X2_numberOf (l : Launch) (D : va_G) (cI cO : ClassId) (x : Nat) (hx_ : x < 2 ^ 31) : Met l yX2_numberOf (Cond.code yX2_numberOf cX2_numberOf 1 (some .int) :: WL) ({ frames := 1, cells := 0, slots := 0, locals := 22 } : Room) (va_Pc [.int (nI (x))] (PR D cI cO ([]))) (vp_Si (fun r => r = nI (x / 96))) 0 0 (fun _ => False) := by
  refine rd_int (by decide) (Nat.le_of_ble_eq_true rfl) ?_
  intro p e s m args below meth c Q ls F hP hC hret hl
  have hx := F.1
  have hb := F.2.1
  have hml := F.2.2.1
  have hown := F.2.2.2.1
  have hts := F.2.2.2.2
  replace hl : lv_has ls 1 [(0, .int (nI (x)))] := hl
  refine lv_iload_n hx hb dX2_numberOf_0 rfl (lv_at hl 0 rfl) ?_
  refine lv_bipush (v := (nI (96))) hx hb dX2_numberOf_1 (by decide) ?_
  refine goR (kS (As := [.int (nI (x)), .int (nI (96))]) (rest := []) F (c_J9_floorDiv_7cf53 l D cI cO (x) (96) (by omega) (by omega) (by omega)) ywJ9_floorDiv_7cf53 qw268 qw269  ⟨rfl, rfl⟩ ⟨Nat.le_of_ble_eq_true rfl, Nat.le_of_ble_eq_true rfl⟩ (preR (fun k q h => by simp at h) hC) rfl hl.1 rfl (Nat.le_of_ble_eq_true rfl) dX2_numberOf_3 ⟨Nat.zero_le _, Nat.zero_le _⟩) (fun r_3 h_3 => ?_)
  subst h_3
  exact hret _ _ ls (rfl) dX2_numberOf_6

set_option maxHeartbeats 4000000 in
set_option maxRecDepth 100000 in
theorem c_X2_streamOf (l : Launch) (D : va_G) (cI cO : ClassId) (x : Nat) (hx_ : x < 2 ^ 31) : Met l yX2_streamOf (Cond.code yX2_streamOf cX2_streamOf 1 (some .int) :: WL) ({ frames := 1, cells := 0, slots := 0, locals := 22 } : Room) (va_Pc [.int (nI (x))] (PR D cI cO ([]))) (vp_Si (fun r => r = nI (x % 96))) 0 0 (fun _ => False) := by
  refine rd_int (by decide) (Nat.le_of_ble_eq_true rfl) ?_
  intro p e s m args below meth c Q ls F hP hC hret hl
  have hx := F.1
  have hb := F.2.1
  have hml := F.2.2.1
  have hown := F.2.2.2.1
  have hts := F.2.2.2.2
  replace hl : lv_has ls 1 [(0, .int (nI (x)))] := hl
  refine lv_iload_n hx hb dX2_streamOf_0 rfl (lv_at hl 0 rfl) ?_
  refine lv_bipush (v := (nI (96))) hx hb dX2_streamOf_1 (by decide) ?_
  refine goR (kS (As := [.int (nI (x)), .int (nI (96))]) (rest := []) F (c_J9_floorMod_7cf53 l D cI cO (x) (96) (by omega) (by omega) (by omega)) ywJ9_floorMod_7cf53 qw205 qw206  ⟨rfl, rfl⟩ ⟨Nat.le_of_ble_eq_true rfl, Nat.le_of_ble_eq_true rfl⟩ (preR (fun k q h => by simp at h) hC) rfl hl.1 rfl (Nat.le_of_ble_eq_true rfl) dX2_streamOf_3 ⟨Nat.zero_le _, Nat.zero_le _⟩) (fun r_3 h_3 => ?_)
  subst h_3
  exact hret _ _ ls (rfl) dX2_streamOf_6

set_option maxHeartbeats 4000000 in
set_option maxRecDepth 100000 in
theorem c_X0_dispatch (l : Launch) (D : va_G) (cI cO : ClassId) (sz : Nat) (h : Nat) (a : Nat → Nat) (S : Nat → Nat → Int32) (w : Nat → Int32) (c0 : Nat) (hR : RC c0 S w)  (b_ k : Nat) (hc : c0 < 1000) (hb_ : b_ < sn w) (hk : k < 96) : Met l yX0_dispatch (Cond.code yX0_dispatch cX0_dispatch 4 none :: WL) ({ frames := 4, cells := 0, slots := 0, locals := 90 } : Room) (va_Pc [.ref (h), .int (nI (b_ * 96 + k))] (PW D cI cO (stW cI h a S) sz)) (va_Qv (fun (u : Nat → Nat → Int32) => RC c0 u (dsp w (128 * b_ + k)) ∧ (∀ q, q ≠ 5 → q ≠ 7 → q ≠ 12 → q ≠ 13 → u q = S q) ∧ (∀ v, v < 16 → ac w v = 0 → ∀ j, j < 10 → u 13 (v * 10 + j) = S 13 (v * 10 + j))) (QB D (stW cI h a S) sz (fun (u : Nat → Nat → Int32) => stW cI h a u)) (va_A (stW cI h a S) sz)) 0 0 (va_A (stW cI h a S) sz) := by
  refine wr_void (by decide) (Nat.le_of_ble_eq_true rfl) ?_
  intro p e s m args below meth c Q ls A F hP hC hD hA hret hl
  have hx := F.1
  have hb := F.2.1
  have hml := F.2.2.1
  have hown := F.2.2.2.1
  have hts := F.2.2.2.2
  replace hl : lv_has ls 4 [(0, .ref (h)), (1, .int (nI (b_ * 96 + k)))] := hl
  have hS : va_S A s.heap s.heap [] := va_S.rf
  have hn4 := hR.wf.n.2
  have hsn := hR.wf.e.2
  refine lv_aload_n hx hb dX0_dispatch_0 rfl (lv_at hl 0 rfl) ?_
  refine lv_iload_n hx hb dX0_dispatch_1 rfl (lv_at hl 1 rfl) ?_
  refine goR (kSN (As := [.int (nI (b_ * 96 + k))]) (rest := [.ref (h)]) F (c_X2_streamOf l D cI cO (b_ * 96 + k) (by omega)) ywX2_streamOf (nk10 hC) qw203  ⟨rfl, rfl⟩ ⟨Nat.le_of_ble_eq_true rfl, Nat.le_of_ble_eq_true rfl⟩ (preR (fun k q h => by simp at h) hC) rfl hl.1 rfl (Nat.le_of_ble_eq_true rfl) dX0_dispatch_2 ⟨Nat.zero_le _, Nat.zero_le _⟩) (fun r_2 h_2 => ?_)
  subst h_2
  refine w_cv (y := (nI (k))) (congrArg nI (by omega)) ?_
  refine goR (kV (As := [.int (nI (k))]) (rest := []) F (c_X0_linkOfStream l D cI cO h a S w c0 hR (k) (by omega)) ywX0_linkOfStream qw208 qw210 qs11 ⟨rfl, rfl⟩ ⟨Nat.le_of_ble_eq_true rfl, Nat.le_of_ble_eq_true rfl⟩ (preV (preR hP hC) hC hP (ci := 0) (q0 := 0) rfl rfl rfl) rfl hl.1 rfl (Nat.le_of_ble_eq_true rfl) dX0_dispatch_5 ⟨Nat.zero_le _, Nat.zero_le _⟩) (fun r_5 h_5 => ?_)
  subst h_5
  refine lv_istore_n (lv' := [(2, .int (lk w k)), (0, .ref (h)), (1, .int (nI (b_ * 96 + k)))]) hx hb dX0_dispatch_8 rfl hl (by decide) rfl (fun ls hl => ?_)
  refine lv_iload_n hx hb dX0_dispatch_9 rfl (lv_at hl 0 rfl) ?_
  refine lv_iconst (v := (-1)) hx hb dX0_dispatch_10 (by decide) ?_
  refine lv_icmp_ne (tgt := 25) hx hb dX0_dispatch_11 (by decide)  (fun c_11 => ?_) (fun c_11 => ?_)
  · obtain ⟨v_, hp16, hpn, hpa, hlk⟩ := lk_some hR.wf hk c_11
    rw [hlk] at hl
    have hl10 := (hR.wf.l v_ hp16).2
    refine lv_aload_n hx hb dX0_dispatch_25 rfl (lv_at hl 1 rfl) ?_
    refine gt0 hx hb hts hown hC.1 hP 0 rfl 12 (by decide) qw47 rfl dX0_dispatch_26 ?_
    refine lv_iload_n hx hb dX0_dispatch_29 rfl (lv_at hl 0 rfl) ?_
    refine n_iald hx hb hC.1 hP 3 0 rfl rfl (by omega) (by decide) dX0_dispatch_30 ?_
    refine w_cv (y := (nI (le w v_))) (hR.l v_ hp16) ?_
    refine lv_istore_n (lv' := [(3, .int (nI (le w v_))), (2, .int (nI (v_))), (0, .ref (h)), (1, .int (nI (b_ * 96 + k)))]) hx hb dX0_dispatch_31 rfl hl (by decide) rfl (fun ls hl => ?_)
    refine lv_iload_n hx hb dX0_dispatch_32 rfl (lv_at hl 0 rfl) ?_
    refine lv_bipush (v := (nI (10))) hx hb dX0_dispatch_33 (by decide) ?_
    refine n_icmp_lt (tgt := 49) hx hb dX0_dispatch_35 (by decide) (by omega) (by omega) (fun c_35 => ?_) (fun c_35 => ?_)
    · refine lv_aload_n hx hb dX0_dispatch_49 rfl (lv_at hl 2 rfl) ?_
      refine gt0 hx hb hts hown hC.1 hP 0 rfl 13 (by decide) qw49 rfl dX0_dispatch_50 ?_
      refine lv_iload_n hx hb dX0_dispatch_53 rfl (lv_at hl 1 rfl) ?_
      refine lv_bipush (v := (nI (10))) hx hb dX0_dispatch_54 (by decide) ?_
      refine n_imul hx hb dX0_dispatch_56  ?_
      refine lv_iload_n hx hb dX0_dispatch_57 rfl (lv_at hl 0 rfl) ?_
      refine n_iadd hx hb dX0_dispatch_58  ?_
      refine lv_iload_n hx hb dX0_dispatch_59 rfl (lv_at hl 3 rfl) ?_
      refine n_iast hx hb hC.1 hP hD hS 4 0 rfl rfl (by omega) (by decide) dX0_dispatch_60 (fun H locs hP hD hS => ?_)
      obtain ⟨S_1, hS_1⟩ : ∃ z : Nat → Nat → Int32, z = va_up S 13 (upd (S 13) ((v_ * 10) + (le w v_)) (nI (b_ * 96 + k))) := ⟨_, rfl⟩
      replace hP : va_P D vwCl (stW cI h a S_1) H := by rw [hS_1]; exact hP
      replace hD : va_D A (stW cI h a S_1) := by rw [hS_1]; exact hD
      refine lv_aload_n hx hb dX0_dispatch_61 rfl (lv_at hl 2 rfl) ?_
      refine gt0 hx hb hts hown hC.1 hP 0 rfl 12 (by decide) qw47 rfl dX0_dispatch_62 ?_
      refine lv_iload_n hx hb dX0_dispatch_65 rfl (lv_at hl 1 rfl) ?_
      refine lv_iload_n hx hb dX0_dispatch_66 rfl (lv_at hl 0 rfl) ?_
      refine lv_iconst (v := (nI (1))) hx hb dX0_dispatch_67 (by decide) ?_
      refine n_iadd hx hb dX0_dispatch_68  ?_
      refine n_iast hx hb hC.1 hP hD hS 3 0 rfl rfl (by omega) (by decide) dX0_dispatch_69 (fun H locs hP hD hS => ?_)
      obtain ⟨S_2, hS_2⟩ : ∃ z : Nat → Nat → Int32, z = va_up S_1 12 (upd (S_1 12) (v_) (nI ((le w v_) + 1))) := ⟨_, rfl⟩
      replace hP : va_P D vwCl (stW cI h a S_2) H := by rw [hS_2]; exact hP
      replace hD : va_D A (stW cI h a S_2) := by rw [hS_2]; exact hD
      exact hret (S_2) _ ls _ _ (by subst hS_2; subst hS_1; exact ⟨by rw [dsp_3 (k := k) (by omega) hlk hp16 (by omega)]; exact RC_app hp16 hpn (by omega) hb_ hk hc hR, fun q _ _ h12 h13 => by rw [sup_ne h12, sup_ne h13], fun v hv hva j hj => by rw [sup_ne (by decide), sup_eq, pk_un (fun e9 => by have e8 : v = v_ := (by omega); subst e8; omega)]⟩) hP hD hS dX0_dispatch_70
    · refine lv_aload_n hx hb dX0_dispatch_38 rfl (lv_at hl 2 rfl) ?_
      refine lv_dup hx hb dX0_dispatch_39 rfl ?_
      refine gt0 hx hb hts hown hC.1 hP 0 rfl 7 (by decide) qw39 rfl dX0_dispatch_40 ?_
      refine lv_iconst (v := (nI (1))) hx hb dX0_dispatch_43 (by decide) ?_
      refine lv_iadd hx hb dX0_dispatch_44  ?_
      refine pt0 (ty := .int) hx hb hts hown hC.1 hP hD hS 0 rfl 7 (by decide) qw39 rfl (by decide +kernel) rfl rfl (Nat.le_of_ble_eq_true rfl) dX0_dispatch_45 (fun H locs hP hD hS => ?_)
      obtain ⟨S_3, hS_3⟩ : ∃ z : Nat → Nat → Int32, z = va_up S 7 (fun _ => ((S 7 0) + (nI (1)))) := ⟨_, rfl⟩
      replace hP : va_P D vwCl (stW cI h a S_3) H := by rw [hS_3]; exact hP
      replace hD : va_D A (stW cI h a S_3) := by rw [hS_3]; exact hD
      exact hret (S_3) _ ls _ _ (by subst hS_3; exact ⟨by rw [dsp_2 (k := k) (by omega) hlk hp16 (by omega)]; exact RC_inc7 hR, fun q _ h7 _ _ => sup_ne h7, fun _ _ _ _ _ => by rw [sup_ne (by decide)]⟩) hP hD hS dX0_dispatch_48
  · refine lv_aload_n hx hb dX0_dispatch_14 rfl (lv_at hl 1 rfl) ?_
    refine lv_dup hx hb dX0_dispatch_15 rfl ?_
    refine gt0 hx hb hts hown hC.1 hP 0 rfl 5 (by decide) qw35 rfl dX0_dispatch_16 ?_
    refine lv_iconst (v := (nI (1))) hx hb dX0_dispatch_19 (by decide) ?_
    refine lv_iadd hx hb dX0_dispatch_20  ?_
    refine pt0 (ty := .int) hx hb hts hown hC.1 hP hD hS 0 rfl 5 (by decide) qw35 rfl (by decide +kernel) rfl rfl (Nat.le_of_ble_eq_true rfl) dX0_dispatch_21 (fun H locs hP hD hS => ?_)
    obtain ⟨S_4, hS_4⟩ : ∃ z : Nat → Nat → Int32, z = va_up S 5 (fun _ => ((S 5 0) + (nI (1)))) := ⟨_, rfl⟩
    replace hP : va_P D vwCl (stW cI h a S_4) H := by rw [hS_4]; exact hP
    replace hD : va_D A (stW cI h a S_4) := by rw [hS_4]; exact hD
    exact hret (S_4) _ ls _ _ (by subst hS_4; exact ⟨by rw [dsp_1 (k := k) (by omega) c_11]; exact RC_inc5 hR, fun q h5 _ _ _ => sup_ne h5, fun _ _ _ _ _ => by rw [sup_ne (by decide)]⟩) hP hD hS dX0_dispatch_24

set_option maxHeartbeats 4000000 in
set_option maxRecDepth 100000 in
theorem c_X0_hold (l : Launch) (D : va_G) (cI cO : ClassId) (sz : Nat) (h : Nat) (a : Nat → Nat) (S : Nat → Nat → Int32) (w : Nat → Int32) (c0 : Nat) (hR : RC c0 S w)  (b_ k : Nat) (hc : c0 < 1000) (hb_ : b_ < sn w) (hk : k < 96) : Met l yX0_hold (Cond.code yX0_hold cX0_hold 2 none :: WL) ({ frames := 0, cells := 0, slots := 0, locals := 0 } : Room) (va_Pc [.ref (h), .int (nI (b_ * 96 + k))] (PW D cI cO (stW cI h a S) sz)) (va_Qv (fun (u : Nat → Nat → Int32) => RC c0 u (hld w (128 * b_ + k))) (QB D (stW cI h a S) sz (fun (u : Nat → Nat → Int32) => stW cI h a u)) (va_A (stW cI h a S) sz)) 0 0 (va_A (stW cI h a S) sz) := by
  refine wr_void (by decide) (Nat.le_of_ble_eq_true rfl) ?_
  intro p e s m args below meth c Q ls A F hP hC hD hA hret hl
  have hx := F.1
  have hb := F.2.1
  have hml := F.2.2.1
  have hown := F.2.2.2.1
  have hts := F.2.2.2.2
  replace hl : lv_has ls 2 [(0, .ref (h)), (1, .int (nI (b_ * 96 + k)))] := hl
  have hS : va_S A s.heap s.heap [] := va_S.rf
  have hn4 := hR.wf.n.2
  have hh24 := hR.wf.h.2
  refine lv_aload_n hx hb dX0_hold_0 rfl (lv_at hl 0 rfl) ?_
  refine gt0 hx hb hts hown hC.1 hP 0 rfl 9 (by decide) qw43 rfl dX0_hold_1 ?_
  refine w_cv (y := (nI (he w))) hR.h ?_
  refine lv_bipush (v := (nI (24))) hx hb dX0_hold_4 (by decide) ?_
  refine n_icmp_lt (tgt := 20) hx hb dX0_hold_6 (by decide) (by omega) (by omega) (fun c_6 => ?_) (fun c_6 => ?_)
  · refine lv_aload_n hx hb dX0_hold_20 rfl (lv_at hl 0 rfl) ?_
    refine gt0 hx hb hts hown hC.1 hP 0 rfl 18 (by decide) qw57 rfl dX0_hold_21 ?_
    refine lv_aload_n hx hb dX0_hold_24 rfl (lv_at hl 0 rfl) ?_
    refine gt0 hx hb hts hown hC.1 hP 0 rfl 9 (by decide) qw43 rfl dX0_hold_25 ?_
    refine w_cv (y := (nI (he w))) hR.h ?_
    refine lv_iload_n hx hb dX0_hold_28 rfl (lv_at hl 1 rfl) ?_
    refine n_iast hx hb hC.1 hP hD hS 9 0 rfl rfl (by omega) (by decide) dX0_hold_29 (fun H locs hP hD hS => ?_)
    obtain ⟨S_1, hS_1⟩ : ∃ z : Nat → Nat → Int32, z = va_up S 18 (upd (S 18) (he w) (nI (b_ * 96 + k))) := ⟨_, rfl⟩
    replace hP : va_P D vwCl (stW cI h a S_1) H := by rw [hS_1]; exact hP
    replace hD : va_D A (stW cI h a S_1) := by rw [hS_1]; exact hD
    refine lv_aload_n hx hb dX0_hold_30 rfl (lv_at hl 0 rfl) ?_
    refine lv_dup hx hb dX0_hold_31 rfl ?_
    refine gt0 hx hb hts hown hC.1 hP 0 rfl 9 (by decide) qw43 rfl dX0_hold_32 ?_
    refine w_cv (y := (nI (he w))) (by rw [hS_1, sup_ne (by decide)]; exact hR.h) ?_
    refine lv_iconst (v := (nI (1))) hx hb dX0_hold_35 (by decide) ?_
    refine n_iadd hx hb dX0_hold_36  ?_
    refine pt0 (ty := .int) hx hb hts hown hC.1 hP hD hS 0 rfl 9 (by decide) qw43 rfl (by decide +kernel) rfl rfl (Nat.le_of_ble_eq_true rfl) dX0_hold_37 (fun H locs hP hD hS => ?_)
    obtain ⟨S_2, hS_2⟩ : ∃ z : Nat → Nat → Int32, z = va_up S_1 9 (fun _ => (nI ((he w) + 1))) := ⟨_, rfl⟩
    replace hP : va_P D vwCl (stW cI h a S_2) H := by rw [hS_2]; exact hP
    replace hD : va_D A (stW cI h a S_2) := by rw [hS_2]; exact hD
    exact hret (S_2) _ ls _ _ (by subst hS_2; subst hS_1; unfold hld; rw [if_neg (by omega)]; exact RC_hold (by omega) hb_ hk hc hR) hP hD hS dX0_hold_40
  · refine lv_aload_n hx hb dX0_hold_9 rfl (lv_at hl 0 rfl) ?_
    refine lv_dup hx hb dX0_hold_10 rfl ?_
    refine gt0 hx hb hts hown hC.1 hP 0 rfl 7 (by decide) qw39 rfl dX0_hold_11 ?_
    refine lv_iconst (v := (nI (1))) hx hb dX0_hold_14 (by decide) ?_
    refine lv_iadd hx hb dX0_hold_15  ?_
    refine pt0 (ty := .int) hx hb hts hown hC.1 hP hD hS 0 rfl 7 (by decide) qw39 rfl (by decide +kernel) rfl rfl (Nat.le_of_ble_eq_true rfl) dX0_hold_16 (fun H locs hP hD hS => ?_)
    obtain ⟨S_3, hS_3⟩ : ∃ z : Nat → Nat → Int32, z = va_up S 7 (fun _ => ((S 7 0) + (nI (1)))) := ⟨_, rfl⟩
    replace hP : va_P D vwCl (stW cI h a S_3) H := by rw [hS_3]; exact hP
    replace hD : va_D A (stW cI h a S_3) := by rw [hS_3]; exact hD
    exact hret (S_3) _ ls _ _ (by subst hS_3; unfold hld; rw [if_pos (by omega)]; exact RC_inc7 hR) hP hD hS dX0_hold_19

set_option maxHeartbeats 4000000 in
set_option maxRecDepth 100000 in
theorem c_X0_accept (l : Launch) (D : va_G) (cI cO : ClassId) (sz : Nat) (h : Nat) (a : Nat → Nat) (S : Nat → Nat → Int32) (w : Nat → Int32) (c0 : Nat) (hR : RC c0 S w)  (d_ s_ q_ : Nat) (hc : c0 < 900) (hd6 : d_ < 6) (hs16 : s_ < 16) (hq4 : q_ < 4) : Met l yX0_accept (Cond.code yX0_accept cX0_accept 8 (some .int) :: WL) ({ frames := 5, cells := 0, slots := 0, locals := 113 } : Room) (va_Pc [.ref (h), .int (nI (d_)), .int (nI (s_)), .int (nI (q_))] (PW D cI cO (stW cI h a S) sz)) (va_Qi (fun (r : Int32) (u : Nat → Nat → Int32) => r = nI (sn w) ∧ RC (c0 + 1) u (sndR w (d_ * 16 + s_) q_)) (QB D (stW cI h a S) sz (fun (u : Nat → Nat → Int32) => stW cI h a u)) (va_A (stW cI h a S) sz)) 0 0 (va_A (stW cI h a S) sz) := by
  refine wr_int (by decide) (Nat.le_of_ble_eq_true rfl) ?_
  intro p e s m args below meth c Q ls A F hP hC hD hA hret hl
  have hx := F.1
  have hb := F.2.1
  have hml := F.2.2.1
  have hown := F.2.2.2.1
  have hts := F.2.2.2.2
  replace hl : lv_has ls 8 [(0, .ref (h)), (1, .int (nI (d_))), (2, .int (nI (s_))), (3, .int (nI (q_)))] := hl
  have hS : va_S A s.heap s.heap [] := va_S.rf
  have hn4 := hR.wf.n.2
  have hsn := hR.wf.e.2
  have hk_ : d_ * 16 + s_ < 96 := by omega
  refine lv_aload_n hx hb dX0_accept_0 rfl (lv_at hl 0 rfl) ?_
  refine gt0 hx hb hts hown hC.1 hP 0 rfl 2 (by decide) qw30 rfl dX0_accept_1 ?_
  refine w_cv (y := (nI (sn w))) hR.e ?_
  refine lv_istore (lv' := [(4, .int (nI (sn w))), (0, .ref (h)), (1, .int (nI (d_))), (2, .int (nI (s_))), (3, .int (nI (q_)))]) hx hb dX0_accept_4 hl (by decide) rfl (fun ls hl => ?_)
  refine lv_aload_n hx hb dX0_accept_6 rfl (lv_at hl 1 rfl) ?_
  refine lv_dup hx hb dX0_accept_7 rfl ?_
  refine gt0 hx hb hts hown hC.1 hP 0 rfl 2 (by decide) qw30 rfl dX0_accept_8 ?_
  refine w_cv (y := (nI (sn w))) hR.e ?_
  refine lv_iconst (v := (nI (1))) hx hb dX0_accept_11 (by decide) ?_
  refine n_iadd hx hb dX0_accept_12  ?_
  refine pt0 (ty := .int) hx hb hts hown hC.1 hP hD hS 0 rfl 2 (by decide) qw30 rfl (by decide +kernel) rfl rfl (Nat.le_of_ble_eq_true rfl) dX0_accept_13 (fun H locs hP hD hS => ?_)
  obtain ⟨S_1, hS_1⟩ : ∃ z : Nat → Nat → Int32, z = va_up S 2 (fun _ => (nI ((sn w) + 1))) := ⟨_, rfl⟩
  replace hP : va_P D vwCl (stW cI h a S_1) H := by rw [hS_1]; exact hP
  replace hD : va_D A (stW cI h a S_1) := by rw [hS_1]; exact hD
  obtain ⟨w1, hw1⟩ : ∃ z : Nat → Int32, z = upd w 464 (nI (sn w + 1)) := ⟨_, rfl⟩
  have hR1 : RC (c0 + 1) S_1 w1 := by rw [hS_1, hw1]; exact RC_sent (by omega) hR
  have hs1 : sn w1 = sn w + 1 := by rw [hw1]; unfold sn; rw [upd_eq, nv_nI (by unfold sn at hsn; omega)]
  have hc1 : c0 + 1 < 1000 := by omega
  refine lv_iload_n hx hb dX0_accept_16 rfl (lv_at hl 2 rfl) ?_
  refine lv_iload_n hx hb dX0_accept_17 rfl (lv_at hl 3 rfl) ?_
  refine goR (kSN (As := [.int (nI (d_)), .int (nI (s_))]) (rest := []) F (c_X2_streamPlace l D cI cO (d_) (s_)) ywX2_streamPlace (nk24 hC) qw339  ⟨rfl, rfl⟩ ⟨Nat.le_of_ble_eq_true rfl, Nat.le_of_ble_eq_true rfl⟩ (preR (fun k q h => by simp at h) hC) rfl hl.1 rfl (Nat.le_of_ble_eq_true rfl) dX0_accept_18 ⟨Nat.zero_le _, Nat.zero_le _⟩) (fun r_18 h_18 => ?_)
  subst h_18
  refine lv_istore (lv' := [(5, .int (nI (d_ * 16 + s_))), (4, .int (nI (sn w))), (0, .ref (h)), (1, .int (nI (d_))), (2, .int (nI (s_))), (3, .int (nI (q_)))]) hx hb dX0_accept_21 hl (by decide) rfl (fun ls hl => ?_)
  refine lv_iload hx hb dX0_accept_23 (lv_at hl 1 rfl) ?_
  refine lv_iload hx hb dX0_accept_25 (lv_at hl 0 rfl) ?_
  refine goR (kSN (As := [.int (nI (sn w)), .int (nI (d_ * 16 + s_))]) (rest := []) F (c_X2_messageOf l D cI cO (sn w) (d_ * 16 + s_)) ywX2_messageOf (nk25 hC) qw342  ⟨rfl, rfl⟩ ⟨Nat.le_of_ble_eq_true rfl, Nat.le_of_ble_eq_true rfl⟩ (preR (fun k q h => by simp at h) hC) rfl hl.1 rfl (Nat.le_of_ble_eq_true rfl) dX0_accept_27 ⟨Nat.zero_le _, Nat.zero_le _⟩) (fun r_27 h_27 => ?_)
  subst h_27
  refine lv_istore (lv' := [(6, .int (nI ((sn w) * 96 + (d_ * 16 + s_)))), (5, .int (nI (d_ * 16 + s_))), (4, .int (nI (sn w))), (0, .ref (h)), (1, .int (nI (d_))), (2, .int (nI (s_))), (3, .int (nI (q_)))]) hx hb dX0_accept_30 hl (by decide) rfl (fun ls hl => ?_)
  refine lv_aload_n hx hb dX0_accept_32 rfl (lv_at hl 3 rfl) ?_
  refine lv_iload hx hb dX0_accept_33 (lv_at hl 1 rfl) ?_
  refine goR (kV (As := [.int (nI (d_ * 16 + s_))]) (rest := []) F (c_X0_holds l D cI cO h a S_1 w1 (c0 + 1) hR1 (d_ * 16 + s_) hc1 (by omega)) ywX0_holds qw344 qw346 qs23 ⟨rfl, rfl⟩ ⟨Nat.le_of_ble_eq_true rfl, Nat.le_of_ble_eq_true rfl⟩ (preV (preR hP hC) hC hP (ci := 0) (q0 := 0) rfl rfl rfl) rfl hl.1 rfl (Nat.le_of_ble_eq_true rfl) dX0_accept_35 ⟨Nat.zero_le _, Nat.zero_le _⟩) (fun r_35 h_35 => ?_)
  rcases h_35 with ⟨rfl, h_35⟩ | ⟨rfl, h_35⟩
  · refine n_if_eq (tgt := 50) hx hb dX0_accept_38 (by decide) (by omega) (fun h => absurd h (by decide)) (fun _ => ?_)
    refine lv_aload_n hx hb dX0_accept_41 rfl (lv_at hl 3 rfl) ?_
    refine lv_iload hx hb dX0_accept_42 (lv_at hl 0 rfl) ?_
    refine goWv (pre := []) (wc := stW cI h a S_1) (suf := []) (kV (As := [.int (nI ((sn w) * 96 + (d_ * 16 + s_)))]) (rest := []) F (c_X0_hold l D cI cO _ h a S_1 w1 (c0 + 1) hR1 (sn w) (d_ * 16 + s_) hc1 (by omega) hk_) ywX0_hold qw348 qw350 qs24 ⟨rfl, rfl⟩ ⟨Nat.le_of_ble_eq_true rfl, Nat.le_of_ble_eq_true rfl⟩ (preV (preW hP hC hD) hC hP (ci := 0) (q0 := 0) rfl rfl rfl) rfl hl.1 rfl (Nat.le_of_ble_eq_true rfl) dX0_accept_44 ⟨Nat.zero_le _, Nat.zero_le _⟩) (by simpa only [List.append_assoc, List.nil_append, List.append_nil] using hP) (by simpa only [List.append_assoc, List.nil_append, List.append_nil] using hD) hS hA (fun T_1 H locs h_44 hP hD hS => ?_)
    replace hP : va_P D vwCl (stW cI h a T_1) H := by simpa only [List.append_assoc, List.nil_append, List.append_nil] using hP
    replace hD : va_D A (stW cI h a T_1) := by simpa only [List.append_assoc, List.nil_append, List.append_nil] using hD
    skip
    refine lv_iload hx hb dX0_accept_47 (lv_at hl 2 rfl) ?_
    exact hret _ (T_1) _ ls _ _ (⟨rfl, by unfold sndR sndX; rw [← hw1]; rw [if_pos h_35]; exact h_44⟩) hP hD hS dX0_accept_49
  · refine n_if_eq (tgt := 50) hx hb dX0_accept_38 (by decide) (by omega) (fun _ => ?_) (fun h => absurd h (by decide))
    refine lv_aload_n hx hb dX0_accept_50 rfl (lv_at hl 3 rfl) ?_
    refine lv_iload hx hb dX0_accept_51 (lv_at hl 1 rfl) ?_
    refine goR (kV (As := [.int (nI (d_ * 16 + s_))]) (rest := []) F (c_X0_linkOfStream l D cI cO h a S_1 w1 (c0 + 1) hR1 (d_ * 16 + s_) (by omega)) ywX0_linkOfStream qw208 qw210 qs11 ⟨rfl, rfl⟩ ⟨Nat.le_of_ble_eq_true rfl, Nat.le_of_ble_eq_true rfl⟩ (preV (preR hP hC) hC hP (ci := 0) (q0 := 0) rfl rfl rfl) rfl hl.1 rfl (Nat.le_of_ble_eq_true rfl) dX0_accept_53 ⟨Nat.zero_le _, Nat.zero_le _⟩) (fun r_53 h_53 => ?_)
    subst h_53
    refine lv_istore (lv' := [(7, .int (lk w1 (d_ * 16 + s_))), (6, .int (nI ((sn w) * 96 + (d_ * 16 + s_)))), (5, .int (nI (d_ * 16 + s_))), (4, .int (nI (sn w))), (0, .ref (h)), (1, .int (nI (d_))), (2, .int (nI (s_))), (3, .int (nI (q_)))]) hx hb dX0_accept_56 hl (by decide) rfl (fun ls hl => ?_)
    refine lv_iload hx hb dX0_accept_58 (lv_at hl 0 rfl) ?_
    refine lv_iconst (v := (-1)) hx hb dX0_accept_60 (by decide) ?_
    refine lv_icmp_eq (tgt := 87) hx hb dX0_accept_61 (by decide)  (fun c_61 => ?_) (fun c_61 => ?_)
    · refine lv_aload_n hx hb dX0_accept_87 rfl (lv_at hl 4 rfl) ?_
      refine lv_iload hx hb dX0_accept_88 (lv_at hl 1 rfl) ?_
      refine goWv (pre := []) (wc := stW cI h a S_1) (suf := []) (kV (As := [.int (nI ((sn w) * 96 + (d_ * 16 + s_)))]) (rest := []) F (c_X0_dispatch l D cI cO _ h a S_1 w1 (c0 + 1) hR1 (sn w) (d_ * 16 + s_) hc1 (by omega) hk_) ywX0_dispatch qw198 qw200 qs10 ⟨rfl, rfl⟩ ⟨Nat.le_of_ble_eq_true rfl, Nat.le_of_ble_eq_true rfl⟩ (preV (preW hP hC hD) hC hP (ci := 0) (q0 := 0) rfl rfl rfl) rfl hl.1 rfl (Nat.le_of_ble_eq_true rfl) dX0_accept_90 ⟨Nat.zero_le _, Nat.zero_le _⟩) (by simpa only [List.append_assoc, List.nil_append, List.append_nil] using hP) (by simpa only [List.append_assoc, List.nil_append, List.append_nil] using hD) hS hA (fun T_2 H locs h_90 hP hD hS => ?_)
      replace hP : va_P D vwCl (stW cI h a T_2) H := by simpa only [List.append_assoc, List.nil_append, List.append_nil] using hP
      replace hD : va_D A (stW cI h a T_2) := by simpa only [List.append_assoc, List.nil_append, List.append_nil] using hD
      obtain ⟨hR_90, hf_90, hg_90⟩ := h_90
      refine lv_iload hx hb dX0_accept_93 (lv_at hl 3 rfl) ?_
      exact hret _ (T_2) _ ls _ _ (⟨rfl, by unfold sndR sndX; rw [← hw1]; rw [if_neg (by omega), if_neg (fun e9 => by first | exact e9.1 c_61 | (have e8 := e9.2; rw [hlk, nv_nI (by omega)] at e8; omega))]; exact hR_90⟩) hP hD hS dX0_accept_95
    · obtain ⟨v_, hp16, hpn, hpa, hlk⟩ := lk_some hR1.wf hk_ c_61
      rw [hlk] at hl
      have hl3 : lvl (le w1 v_) ≤ 3 := by unfold lvl; (repeat' split) <;> omega
      refine lv_aload_n hx hb dX0_accept_64 rfl (lv_at hl 4 rfl) ?_
      refine lv_iload hx hb dX0_accept_65 (lv_at hl 0 rfl) ?_
      refine goR (kV (As := [.int (nI (v_))]) (rest := []) F (c_X0_congestionLevel l D cI cO h a S_1 w1 (c0 + 1) hR1 (v_) (by omega)) ywX0_congestionLevel qw352 qw286 qs20 ⟨rfl, rfl⟩ ⟨Nat.le_of_ble_eq_true rfl, Nat.le_of_ble_eq_true rfl⟩ (preV (preR hP hC) hC hP (ci := 0) (q0 := 0) rfl rfl rfl) rfl hl.1 rfl (Nat.le_of_ble_eq_true rfl) dX0_accept_67 ⟨Nat.zero_le _, Nat.zero_le _⟩) (fun r_67 h_67 => ?_)
      subst h_67
      refine lv_iload_n hx hb dX0_accept_70 rfl (lv_at hl 7 rfl) ?_
      refine n_icmp_le (tgt := 87) hx hb dX0_accept_71 (by decide) (by omega) (by omega) (fun c_71 => ?_) (fun c_71 => ?_)
      · refine lv_aload_n hx hb dX0_accept_87 rfl (lv_at hl 4 rfl) ?_
        refine lv_iload hx hb dX0_accept_88 (lv_at hl 1 rfl) ?_
        refine goWv (pre := []) (wc := stW cI h a S_1) (suf := []) (kV (As := [.int (nI ((sn w) * 96 + (d_ * 16 + s_)))]) (rest := []) F (c_X0_dispatch l D cI cO _ h a S_1 w1 (c0 + 1) hR1 (sn w) (d_ * 16 + s_) hc1 (by omega) hk_) ywX0_dispatch qw198 qw200 qs10 ⟨rfl, rfl⟩ ⟨Nat.le_of_ble_eq_true rfl, Nat.le_of_ble_eq_true rfl⟩ (preV (preW hP hC hD) hC hP (ci := 0) (q0 := 0) rfl rfl rfl) rfl hl.1 rfl (Nat.le_of_ble_eq_true rfl) dX0_accept_90 ⟨Nat.zero_le _, Nat.zero_le _⟩) (by simpa only [List.append_assoc, List.nil_append, List.append_nil] using hP) (by simpa only [List.append_assoc, List.nil_append, List.append_nil] using hD) hS hA (fun T_3 H locs h_90 hP hD hS => ?_)
        replace hP : va_P D vwCl (stW cI h a T_3) H := by simpa only [List.append_assoc, List.nil_append, List.append_nil] using hP
        replace hD : va_D A (stW cI h a T_3) := by simpa only [List.append_assoc, List.nil_append, List.append_nil] using hD
        obtain ⟨hR_90, hf_90, hg_90⟩ := h_90
        refine lv_iload hx hb dX0_accept_93 (lv_at hl 3 rfl) ?_
        exact hret _ (T_3) _ ls _ _ (⟨rfl, by unfold sndR sndX; rw [← hw1]; rw [if_neg (by omega), if_neg (fun e9 => by first | exact e9.1 c_61 | (have e8 := e9.2; rw [hlk, nv_nI (by omega)] at e8; omega))]; exact hR_90⟩) hP hD hS dX0_accept_95
      · refine lv_aload_n hx hb dX0_accept_74 rfl (lv_at hl 4 rfl) ?_
        refine lv_dup hx hb dX0_accept_75 rfl ?_
        refine gt0 hx hb hts hown hC.1 hP 0 rfl 6 (by decide) qw37 rfl dX0_accept_76 ?_
        refine lv_iconst (v := (nI (1))) hx hb dX0_accept_79 (by decide) ?_
        refine lv_iadd hx hb dX0_accept_80  ?_
        refine pt0 (ty := .int) hx hb hts hown hC.1 hP hD hS 0 rfl 6 (by decide) qw37 rfl (by decide +kernel) rfl rfl (Nat.le_of_ble_eq_true rfl) dX0_accept_81 (fun H locs hP hD hS => ?_)
        obtain ⟨S_2, hS_2⟩ : ∃ z : Nat → Nat → Int32, z = va_up S_1 6 (fun _ => ((S_1 6 0) + (nI (1)))) := ⟨_, rfl⟩
        replace hP : va_P D vwCl (stW cI h a S_2) H := by rw [hS_2]; exact hP
        replace hD : va_D A (stW cI h a S_2) := by rw [hS_2]; exact hD
        refine lv_iload hx hb dX0_accept_84 (lv_at hl 3 rfl) ?_
        exact hret _ (S_2) _ ls _ _ (⟨rfl, by unfold sndR sndX; rw [← hw1]; rw [if_neg (by omega), if_pos ⟨c_61, by rw [hlk, nv_nI (by omega)]; omega⟩, hS_2]; exact RC_inc6 hR1⟩) hP hD hS dX0_accept_86

set_option maxHeartbeats 4000000 in
set_option maxRecDepth 100000 in
theorem c_X0_deliver (l : Launch) (D : va_G) (cI cO : ClassId) (sz : Nat) (h : Nat) (a : Nat → Nat) (S : Nat → Nat → Int32) (w : Nat → Int32) (c0 : Nat) (hR : RC c0 S w)  (b_ k : Nat) (hc : c0 < 1000) (hb_ : b_ < sn w) (hk : k < 96) : Met l yX0_deliver (Cond.code yX0_deliver cX0_deliver 4 none :: WL) ({ frames := 2, cells := 0, slots := 0, locals := 42 } : Room) (va_Pc [.ref (h), .int (nI (b_ * 96 + k))] (PW D cI cO (stW cI h a S) sz)) (va_Qv (fun (u : Nat → Nat → Int32) => RC c0 u (dlv w (128 * b_ + k)) ∧ (∀ q, q ≠ 3 → q ≠ 4 → q ≠ 17 → u q = S q)) (QB D (stW cI h a S) sz (fun (u : Nat → Nat → Int32) => stW cI h a u)) (va_A (stW cI h a S) sz)) 0 0 (va_A (stW cI h a S) sz) := by
  refine wr_void (by decide) (Nat.le_of_ble_eq_true rfl) ?_
  intro p e s m args below meth c Q ls A F hP hC hD hA hret hl
  have hx := F.1
  have hb := F.2.1
  have hml := F.2.2.1
  have hown := F.2.2.2.1
  have hts := F.2.2.2.2
  replace hl : lv_has ls 4 [(0, .ref (h)), (1, .int (nI (b_ * 96 + k)))] := hl
  have hS : va_S A s.heap s.heap [] := va_S.rf
  have hn4 := hR.wf.n.2
  have hsn := hR.wf.e.2
  have hgi := grt_iff (hR.wf.g k hk) (by omega) hb_ hk
  refine lv_iload_n hx hb dX0_deliver_0 rfl (lv_at hl 1 rfl) ?_
  refine goR (kSN (As := [.int (nI (b_ * 96 + k))]) (rest := []) F (c_X2_streamOf l D cI cO (b_ * 96 + k) (by omega)) ywX2_streamOf (nk10 hC) qw203  ⟨rfl, rfl⟩ ⟨Nat.le_of_ble_eq_true rfl, Nat.le_of_ble_eq_true rfl⟩ (preR (fun k q h => by simp at h) hC) rfl hl.1 rfl (Nat.le_of_ble_eq_true rfl) dX0_deliver_1 ⟨Nat.zero_le _, Nat.zero_le _⟩) (fun r_1 h_1 => ?_)
  subst h_1
  refine w_cv (y := (nI (k))) (congrArg nI (by omega)) ?_
  refine lv_istore_n (lv' := [(2, .int (nI (k))), (0, .ref (h)), (1, .int (nI (b_ * 96 + k)))]) hx hb dX0_deliver_4 rfl hl (by decide) rfl (fun ls hl => ?_)
  refine lv_iload_n hx hb dX0_deliver_5 rfl (lv_at hl 2 rfl) ?_
  refine goR (kSN (As := [.int (nI (b_ * 96 + k))]) (rest := []) F (c_X2_numberOf l D cI cO (b_ * 96 + k) (by omega)) ywX2_numberOf (nk17 hC) qw266  ⟨rfl, rfl⟩ ⟨Nat.le_of_ble_eq_true rfl, Nat.le_of_ble_eq_true rfl⟩ (preR (fun k q h => by simp at h) hC) rfl hl.1 rfl (Nat.le_of_ble_eq_true rfl) dX0_deliver_6 ⟨Nat.zero_le _, Nat.zero_le _⟩) (fun r_6 h_6 => ?_)
  subst h_6
  refine w_cv (y := (nI (b_))) (congrArg nI (by omega)) ?_
  refine lv_istore_n (lv' := [(3, .int (nI (b_))), (2, .int (nI (k))), (0, .ref (h)), (1, .int (nI (b_ * 96 + k)))]) hx hb dX0_deliver_9 rfl hl (by decide) rfl (fun ls hl => ?_)
  refine lv_aload_n hx hb dX0_deliver_10 rfl (lv_at hl 2 rfl) ?_
  refine lv_dup hx hb dX0_deliver_11 rfl ?_
  refine gt0 hx hb hts hown hC.1 hP 0 rfl 3 (by decide) qw31 rfl dX0_deliver_12 ?_
  refine lv_iconst (v := (nI (1))) hx hb dX0_deliver_15 (by decide) ?_
  refine lv_iadd hx hb dX0_deliver_16  ?_
  refine pt0 (ty := .int) hx hb hts hown hC.1 hP hD hS 0 rfl 3 (by decide) qw31 rfl (by decide +kernel) rfl rfl (Nat.le_of_ble_eq_true rfl) dX0_deliver_17 (fun H locs hP hD hS => ?_)
  obtain ⟨S_1, hS_1⟩ : ∃ z : Nat → Nat → Int32, z = va_up S 3 (fun _ => ((S 3 0) + (nI (1)))) := ⟨_, rfl⟩
  replace hP : va_P D vwCl (stW cI h a S_1) H := by rw [hS_1]; exact hP
  replace hD : va_D A (stW cI h a S_1) := by rw [hS_1]; exact hD
  obtain ⟨w1, hw1⟩ : ∃ z : Nat → Int32, z = upd w 465 (w 465 + nI 1) := ⟨_, rfl⟩
  have hR1 : RC c0 S_1 w1 := by rw [hS_1, hw1]; exact RC_inc3 hR
  have hs1 : sn w1 = sn w := by rw [hw1]; unfold sn; rw [pk_un (by omega)]
  have hg1 : w1 (366 + k) = w (366 + k) := by rw [hw1, pk_un (by omega)]
  refine lv_iload_n hx hb dX0_deliver_20 rfl (lv_at hl 0 rfl) ?_
  refine lv_aload_n hx hb dX0_deliver_21 rfl (lv_at hl 2 rfl) ?_
  refine gt0 hx hb hts hown hC.1 hP 0 rfl 17 (by decide) qw56 rfl dX0_deliver_22 ?_
  refine lv_iload_n hx hb dX0_deliver_25 rfl (lv_at hl 1 rfl) ?_
  refine n_iald hx hb hC.1 hP 8 0 rfl rfl (by omega) (by decide) dX0_deliver_26 ?_
  refine w_cv (y := (trg (w (366 + k)))) (by rw [← hg1]; exact hR1.g k hk) ?_
  refine lv_icmp_ge (tgt := 43) hx hb dX0_deliver_27 (by decide)  (fun c_27 => ?_) (fun c_27 => ?_)
  · refine lv_aload_n hx hb dX0_deliver_43 rfl (lv_at hl 2 rfl) ?_
    refine gt0 hx hb hts hown hC.1 hP 0 rfl 17 (by decide) qw56 rfl dX0_deliver_44 ?_
    refine lv_iload_n hx hb dX0_deliver_47 rfl (lv_at hl 1 rfl) ?_
    refine lv_iload_n hx hb dX0_deliver_48 rfl (lv_at hl 0 rfl) ?_
    refine n_iast hx hb hC.1 hP hD hS 8 0 rfl rfl (by omega) (by decide) dX0_deliver_49 (fun H locs hP hD hS => ?_)
    obtain ⟨S_2, hS_2⟩ : ∃ z : Nat → Nat → Int32, z = va_up S_1 17 (upd (S_1 17) (k) (nI (b_))) := ⟨_, rfl⟩
    replace hP : va_P D vwCl (stW cI h a S_2) H := by rw [hS_2]; exact hP
    replace hD : va_D A (stW cI h a S_2) := by rw [hS_2]; exact hD
    exact hret (S_2) _ ls _ _ (by first | (subst hS_2; exact ⟨by rw [dlv_1 (k := k) (by omega) hk (hgi.mp (Int32.not_le.mp c_27)), ← hw1]; exact RC_inc4 hR1, fun q h3 h4 h17 => by rw [sup_ne h4, hS_1, sup_ne h3]⟩) | (subst hS_2; exact ⟨by rw [dlv_2 (k := k) (by omega) (fun e9 => Int32.not_lt.mpr c_27 (hgi.mpr e9)), ← hw1]; exact RC_grt (by omega) hk hc hR1, fun q h3 h4 h17 => by rw [sup_ne h17, hS_1, sup_ne h3]⟩)) hP hD hS dX0_deliver_50
  · refine lv_aload_n hx hb dX0_deliver_30 rfl (lv_at hl 2 rfl) ?_
    refine lv_dup hx hb dX0_deliver_31 rfl ?_
    refine gt0 hx hb hts hown hC.1 hP 0 rfl 4 (by decide) qw33 rfl dX0_deliver_32 ?_
    refine lv_iconst (v := (nI (1))) hx hb dX0_deliver_35 (by decide) ?_
    refine lv_iadd hx hb dX0_deliver_36  ?_
    refine pt0 (ty := .int) hx hb hts hown hC.1 hP hD hS 0 rfl 4 (by decide) qw33 rfl (by decide +kernel) rfl rfl (Nat.le_of_ble_eq_true rfl) dX0_deliver_37 (fun H locs hP hD hS => ?_)
    obtain ⟨S_3, hS_3⟩ : ∃ z : Nat → Nat → Int32, z = va_up S_1 4 (fun _ => ((S_1 4 0) + (nI (1)))) := ⟨_, rfl⟩
    replace hP : va_P D vwCl (stW cI h a S_3) H := by rw [hS_3]; exact hP
    replace hD : va_D A (stW cI h a S_3) := by rw [hS_3]; exact hD
    refine lv_goto (tgt := 50) hx hb dX0_deliver_40 (by decide) ?_
    exact hret (S_3) _ ls _ _ (by first | (subst hS_3; exact ⟨by rw [dlv_1 (k := k) (by omega) hk (hgi.mp (Int32.not_le.mp c_27)), ← hw1]; exact RC_inc4 hR1, fun q h3 h4 h17 => by rw [sup_ne h4, hS_1, sup_ne h3]⟩) | (subst hS_3; exact ⟨by rw [dlv_2 (k := k) (by omega) (fun e9 => Int32.not_lt.mpr c_27 (hgi.mpr e9)), ← hw1]; exact RC_grt (by omega) hk hc hR1, fun q h3 h4 h17 => by rw [sup_ne h17, hS_1, sup_ne h3]⟩)) hP hD hS dX0_deliver_50
