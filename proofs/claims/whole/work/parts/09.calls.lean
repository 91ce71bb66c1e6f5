/-! worlds side by side; calls by contract; numbers -/
theorem va_dl {A : Nat → Prop} {x y : va_W} (h : va_D A (x ++ y)) : va_D A x := by
  have key : ∀ (i : Nat) (p : Nat × va_E), x[i]? = some p → (x ++ y)[i]? = some p := fun i p hp => by
    rw [List.getElem?_append_left (List.getElem?_eq_some_iff.mp hp).1]; exact hp
  exact ⟨fun i j p q hi hj hpq => h.1 i j p q (key i p hi) (key j q hj) hpq, fun k q hk => h.2 k q (key k q hk)⟩
theorem va_dr {A : Nat → Prop} {x y : va_W} (h : va_D A (x ++ y)) : va_D A y := by
  have key : ∀ (i : Nat) (p : Nat × va_E), y[i]? = some p → (x ++ y)[x.length + i]? = some p := fun i p hp => by
    rw [List.getElem?_append_right (Nat.le_add_right _ _), Nat.add_sub_cancel_left]; exact hp
  exact ⟨fun i j p q hi hj hpq => Nat.add_left_cancel (h.1 _ _ p q (key i p hi) (key j q hj) hpq), fun k q hk => h.2 _ q (key k q hk)⟩
theorem va_dx {A : Nat → Prop} {x y : va_W} (h : va_D A (x ++ y)) (i j : Nat) (p q : Nat × va_E) (hi : x[i]? = some p) (hj : y[j]? = some q) : p.1 ≠ q.1 := by
  intro e
  have h1 := (List.getElem?_eq_some_iff.mp hi).1
  have a1 : (x ++ y)[i]? = some p := by rw [List.getElem?_append_left h1]; exact hi
  have a2 : (x ++ y)[x.length + j]? = some q := by rw [List.getElem?_append_right (Nat.le_add_right _ _), Nat.add_sub_cancel_left]; exact hj
  have := h.1 _ _ p q a1 a2 e
  omega
theorem va_pl0 {D : va_G} {cl : List vw_C} {x y : va_W} {H : Heap} (h : va_P D cl (x ++ y) H) : va_P D cl x H := fun i p hp => h i p (by rw [List.getElem?_append_left (List.getElem?_eq_some_iff.mp hp).1]; exact hp)
theorem va_pr0 {D : va_G} {cl : List vw_C} {x y : va_W} {H : Heap} (h : va_P D cl (x ++ y) H) : va_P D cl y H := fun i p hp => h (x.length + i) p (by rw [List.getElem?_append_right (Nat.le_add_right _ _), Nat.add_sub_cancel_left]; exact hp)
/-- the callee's cells stand between the rest's: behind the call the rest is as it was -/
theorem jn {A0 : Nat → Prop} {D : va_G} {cl : List vw_C} {pre wc w1 suf : va_W} {H H1 : Heap} (hP : va_P D cl (pre ++ (wc ++ suf)) H) (hD : va_D A0 (pre ++ (wc ++ suf)))
    (hk : ∀ q : Nat, q < H.size → ¬ va_A wc H.size q → H1[q]? = H[q]?) (hF : ∀ q, va_A wc H.size q → A0 q) (hP1 : va_P D cl w1 H1) (hD1 : va_D (va_A wc H.size) w1) : va_P D cl (pre ++ (w1 ++ suf)) H1 ∧ va_D A0 (pre ++ (w1 ++ suf)) := by
  have ap : ∀ (k : Nat) (q : Nat × va_E), pre[k]? = some q → q.1 < H.size ∧ ¬ va_A wc H.size q.1 := fun k q hq => by
    have hl := (va_pl0 hP k q hq).lt
    refine ⟨hl, fun h => ?_⟩
    rcases h with ⟨k2, e, h⟩ | h
    · exact va_dx hD k k2 q (q.1, e) hq (by rw [List.getElem?_append_left (List.getElem?_eq_some_iff.mp h).1]; exact h) rfl
    · omega
  have as : ∀ (k : Nat) (q : Nat × va_E), suf[k]? = some q → q.1 < H.size ∧ ¬ va_A wc H.size q.1 := fun k q hq => by
    have hl := (va_pr0 (va_pr0 hP) k q hq).lt
    refine ⟨hl, fun h => ?_⟩
    rcases h with ⟨k2, e, h⟩ | h
    · exact va_dx (va_dr hD) k2 k (q.1, e) q h hq rfl
    · omega
  refine ⟨va_P.app (fun k q hq => (va_pl0 hP k q hq).kept (hk q.1 (ap k q hq).1 (ap k q hq).2)) (va_P.app hP1 (fun k q hq => (va_pr0 (va_pr0 hP) k q hq).kept (hk q.1 (as k q hq).1 (as k q hq).2))), ?_⟩
  refine va_D.app (va_dl hD) (va_D.app (hD1.weaken (fun k q _ h => hF q.1 h)) (va_dr (va_dr hD)) (fun i j x y hx hy hxy => (as j y hy).2 (by rw [← hxy]; exact hD1.2 i x hx))) (fun i j x y hx hy hxy => ?_)
  by_cases hj : j < w1.length
  · rw [List.getElem?_append_left hj] at hy
    exact (ap i x hx).2 (by rw [hxy]; exact hD1.2 j y hy)
  · rw [List.getElem?_append_right (Nat.le_of_not_lt hj)] at hy
    have hy2 : (wc ++ suf)[wc.length + (j - w1.length)]? = some y := by rw [List.getElem?_append_right (Nat.le_add_right _ _), Nat.add_sub_cancel_left]; exact hy
    exact va_dx hD i _ x y hx hy2 hxy
section KC
variable {p : Program} {l : Launch} {e : Env} {R : Room} {s : State} {m : MethodId} {args : Array Value} {below : List Frame} {meth : Method} {c : Code} {H : Heap} {locs : List Loc} {cells slots : Nat} {Q : State → Prop} {cc : ByteArray} {pc nL : Nat} {ls : Array Slot} {rest st0 : List Value} {own : String}
variable {y : MethodName} {bytes : ByteArray} {maxL index n : Nat} {ret : Option FieldType} {rm : Room} {Pc : Array Value → State → Prop} {Qc : Array Value → State → Outcome → State → Prop} {free : Addr → Prop} {b : Addr} {As : List Value} {C host : String} {D : va_G} {cI cO : ClassId} {wc : va_W}
/-- what a call wants of the callee's name -/
abbrev YW (y : MethodName) (bytes : ByteArray) (maxL : Nat) (ret : Option FieldType) (n : Nat) : Prop := Cond.code y bytes maxL ret ∈ WL ∧ Cond.initialized y.cls ∈ WL ∧ y.cls ≠ "java/lang/invoke/MethodHandle" ∧ y.cls ≠ "java/lang/invoke/VarHandle" ∧ (parseMethodDescriptor y.desc).map (fun d => d.parameters.length) = some n
theorem blindR {vs : List Value} {ws : va_W} : FrameBlind (va_Pc vs (PR D cI cO ws)) := fun a U g mk q => ⟨q.1, q.2.1, q.2.2.same rfl⟩
theorem blindW {vs : List Value} {ws : va_W} {sz : Nat} : FrameBlind (va_Pc vs (PW D cI cO ws sz)) := fun a U g mk q => ⟨q.1, q.2.1, q.2.2.1, q.2.2.2.1.same rfl, q.2.2.2.2⟩
theorem preR {ws : va_W} (hP : va_P D vwCl ws H) (hC : CT D cI cO s) : PreS s H (va_Pc As (PR D cI cO ws)) As := ⟨blindR, fun U hU hW => ⟨rfl, by rw [hU]; exact hP, hC.warm hW⟩⟩
theorem preW {ws : va_W} {A : Nat → Prop} (hP : va_P D vwCl ws H) (hC : CT D cI cO s) (hD : va_D A ws) : PreS s H (va_Pc As (PW D cI cO ws H.size)) As := ⟨blindW, fun U hU hW => ⟨rfl, by rw [hU], by rw [hU]; exact hP, hC.warm hW, hD.weaken (fun _ _ _ _ => trivial)⟩⟩
theorem preV (h : PreS s H Pc (.ref b :: As)) {ws : va_W} {ci q0 : Nat} {q : vw_C} {fs : List Value} (hC : CT D cI cO s) (hP : va_P D vwCl ws H) (hc : vwCl[ci]? = some q) (he : ws[q0]? = some (b, .inr (ci, fs))) (hq : q.1 = C) : PreV s H C b Pc As := ⟨h.1, by rw [← hq]; exact va_recv hC.1 hP hc he, h.2⟩
theorem kV (F : CallFix p m c cc nL s args WL own) (hM : Met l y (Cond.code y bytes maxL ret :: WL) rm Pc Qc 0 0 free) (hY : YW y bytes maxL ret n) (q1 : Cond.methodLink own index y ∈ WL) (q2 : Cond.instanceMethod y ∈ WL) (q3 : Cond.selects C y y ∈ WL) (hr : rm.cells = 0 ∧ rm.slots = 0) (hR : rm.frames + 1 ≤ R.frames ∧ 8 + (maxL + 11) + rm.locals ≤ R.locals) (hp : PreV s H C b Pc As)
    (hn : As.length = n) (hsize : ls.size = nL) (hstack : st0 = As.reverse ++ .ref b :: rest) (hW : (rest.map fun v => v.category).sum ≤ 8) (hdg : decode cc pc = .ok (.invokevirtual index, 3)) (hf : cells ≤ R.cells ∧ slots ≤ R.slots) :
    va_Run p l e R s m args below meth c H locs cells slots 0 0 (F0 m pc ls st0) rest (Qc (Value.ref b :: As).toArray) free := by
  obtain ⟨y1, y2, y3⟩ := hY
  exact va_runV F hM ⟨callB_of n F.2.2.2.2 (WL_good2 y1) rfl hr.1 hr.2 (F.2.2.2.2 _ y2) (F.2.2.2.2 _ q1) y3 hR, F.2.2.2.2 _ q2, F.2.2.2.2 _ q3⟩ hp rfl hn hsize hstack (lv_room hW) hdg hf
theorem kS (F : CallFix p m c cc nL s args WL own) (hM : Met l y (Cond.code y bytes maxL ret :: WL) rm Pc Qc 0 0 free) (hY : YW y bytes maxL ret n) (q1 : Cond.methodLink own index y ∈ WL) (q2 : Cond.static y ∈ WL) (hr : rm.cells = 0 ∧ rm.slots = 0) (hR : rm.frames + 1 ≤ R.frames ∧ 8 + (maxL + 11) + rm.locals ≤ R.locals) (hp : PreS s H Pc As)
    (hn : As.length = n) (hsize : ls.size = nL) (hstack : st0 = As.reverse ++ rest) (hW : (rest.map fun v => v.category).sum ≤ 8) (hdg : decode cc pc = .ok (.invokestatic index, 3)) (hf : cells ≤ R.cells ∧ slots ≤ R.slots) :
    va_Run p l e R s m args below meth c H locs cells slots 0 0 (F0 m pc ls st0) rest (Qc As.toArray) free := by
  obtain ⟨y1, y2, y3⟩ := hY
  exact va_runS F hM ⟨callB_of n F.2.2.2.2 (WL_good2 y1) rfl hr.1 hr.2 (F.2.2.2.2 _ y2) (F.2.2.2.2 _ q1) y3 hR, F.2.2.2.2 _ q2⟩ hp rfl hn hsize hstack (lv_room hW) hdg hf
theorem kVN (F : CallFix p m c cc nL s args WL own) (hM : Met l y (Cond.code y bytes maxL ret :: WL) rm Pc Qc 0 0 free) (hY : YW y bytes maxL ret n) (q1 : va_Nw (.methodLinkNest own index y host) s) (q2 : Cond.instanceMethod y ∈ WL) (q3 : Cond.selects C y y ∈ WL) (hr : rm.cells = 0 ∧ rm.slots = 0) (hR : rm.frames + 1 ≤ R.frames ∧ 8 + (maxL + 11) + rm.locals ≤ R.locals) (hp : PreV s H C b Pc As)
    (hn : As.length = n) (hsize : ls.size = nL) (hstack : st0 = As.reverse ++ .ref b :: rest) (hW : (rest.map fun v => v.category).sum ≤ 8) (hdg : decode cc pc = .ok (.invokevirtual index, 3)) (hf : cells ≤ R.cells ∧ slots ≤ R.slots) :
    va_Run p l e R s m args below meth c H locs cells slots 0 0 (F0 m pc ls st0) rest (Qc (Value.ref b :: As).toArray) free := by
  obtain ⟨y1, y2, y3⟩ := hY
  exact va_runVN F hM ⟨va_cnB n F.2.2.2.2 (WL_good2 y1) rfl hr.1 hr.2 q1 (F.2.2.2.2 _ y2) y3 hR, F.2.2.2.2 _ q2, F.2.2.2.2 _ q3⟩ hp rfl hn hsize hstack (lv_room hW) hdg hf
theorem kSN (F : CallFix p m c cc nL s args WL own) (hM : Met l y (Cond.code y bytes maxL ret :: WL) rm Pc Qc 0 0 free) (hY : YW y bytes maxL ret n) (q1 : va_Nw (.methodLinkNest own index y host) s) (q2 : Cond.static y ∈ WL) (hr : rm.cells = 0 ∧ rm.slots = 0) (hR : rm.frames + 1 ≤ R.frames ∧ 8 + (maxL + 11) + rm.locals ≤ R.locals) (hp : PreS s H Pc As)
    (hn : As.length = n) (hsize : ls.size = nL) (hstack : st0 = As.reverse ++ rest) (hW : (rest.map fun v => v.category).sum ≤ 8) (hdg : decode cc pc = .ok (.invokestatic index, 3)) (hf : cells ≤ R.cells ∧ slots ≤ R.slots) :
    va_Run p l e R s m args below meth c H locs cells slots 0 0 (F0 m pc ls st0) rest (Qc As.toArray) free := by
  obtain ⟨y1, y2, y3⟩ := hY
  exact va_runSN F hM ⟨va_cnB n F.2.2.2.2 (WL_good2 y1) rfl hr.1 hr.2 q1 (F.2.2.2.2 _ y2) y3 hR, F.2.2.2.2 _ q2, trivial⟩ hp rfl hn hsize hstack (lv_room hW) hdg hf
theorem goR {post : Int32 → Prop} {a : Array Value} (hr : va_Run p l e R s m args below meth c H locs cells slots 0 0 (F0 m pc ls st0) rest (vp_Si post a) (fun _ => False))
    (kk : ∀ r : Int32, post r → W p l e R s m args below meth c H locs cells slots Q (F0 m (pc + 3) ls (.int r :: rest))) : W p l e R s m args below meth c H locs cells slots Q (F0 m pc ls st0) := by
  intro T hT X
  obtain ⟨v, st₀, t, T', L, h0, X', hL, e1, -, ⟨r, hv, hp, hh⟩, st⟩ := hr T hT X
  cases hv
  obtain ⟨t2, a1, b1⟩ := kk r hp T' (by rw [e1, hh, h0]) (Stand.forget X' (fun q h => (hL q h).elim))
  exact ⟨t2, st t2 a1, b1⟩
theorem goRl {post : Int64 → Prop} {a : Array Value} (hr : va_Run p l e R s m args below meth c H locs cells slots 0 0 (F0 m pc ls st0) rest (vp_Sl post a) (fun _ => False))
    (kk : ∀ r : Int64, post r → W p l e R s m args below meth c H locs cells slots Q (F0 m (pc + 3) ls (.long r :: rest))) : W p l e R s m args below meth c H locs cells slots Q (F0 m pc ls st0) := by
  intro T hT X
  obtain ⟨v, st₀, t, T', L, h0, X', hL, e1, -, ⟨r, hv, hp, hh⟩, st⟩ := hr T hT X
  cases hv
  obtain ⟨t2, a1, b1⟩ := kk r hp T' (by rw [e1, hh, h0]) (Stand.forget X' (fun q h => (hL q h).elim))
  exact ⟨t2, st t2 a1, b1⟩
variable {A0 : Nat → Prop} {H0 : Heap} {pre suf : va_W}
theorem fr_in (hD : va_D A0 (pre ++ (wc ++ suf))) (hS : va_S A0 H0 H locs) (hA : ∀ q, H0.size ≤ q → A0 q) : ∀ q, va_A wc H.size q → A0 q := fun q h => by
  rcases h with ⟨k, e, h⟩ | h
  · exact (va_dl (va_dr hD)).2 k (q, e) h
  · exact hA q (Nat.le_trans hS.1 h)
theorem goWi {α : Type} {wf : α → va_W} {post : Int32 → α → Prop} {a : Array Value} (hr : va_Run p l e R s m args below meth c H locs cells slots 0 0 (F0 m pc ls st0) rest (va_Qi post (QB D wc H.size wf) (va_A wc H.size) a) (va_A wc H.size))
    (hP : va_P D vwCl (pre ++ (wc ++ suf)) H) (hD : va_D A0 (pre ++ (wc ++ suf))) (hS : va_S A0 H0 H locs) (hA : ∀ q, H0.size ≤ q → A0 q)
    (kk : ∀ (r : Int32) (u : α) (H1 : Heap) (locs1 : List Loc), post r u → va_P D vwCl (pre ++ (wf u ++ suf)) H1 → va_D A0 (pre ++ (wf u ++ suf)) → va_S A0 H0 H1 locs1 → W p l e R s m args below meth c H1 locs1 cells slots Q (F0 m (pc + 3) ls (.int r :: rest))) : W p l e R s m args below meth c H locs cells slots Q (F0 m pc ls st0) := by
  have hF := fr_in hD hS hA
  refine va_calli hr hS (fun q _ h => hF q h) hF (fun r u t H1 locs1 ht hvm hw hB hz1 hk1 hS1 => ?_)
  obtain ⟨hP1, hD1⟩ := hB
  rw [ht] at hP1
  obtain ⟨hP2, hD2⟩ := jn hP hD hk1 hF hP1 hD1
  exact kk r u H1 locs1 hw hP2 hD2 hS1
theorem goWl {α : Type} {wf : α → va_W} {post : Int64 → α → Prop} {a : Array Value} (hr : va_Run p l e R s m args below meth c H locs cells slots 0 0 (F0 m pc ls st0) rest (va_Ql post (QB D wc H.size wf) (va_A wc H.size) a) (va_A wc H.size))
    (hP : va_P D vwCl (pre ++ (wc ++ suf)) H) (hD : va_D A0 (pre ++ (wc ++ suf))) (hS : va_S A0 H0 H locs) (hA : ∀ q, H0.size ≤ q → A0 q)
    (kk : ∀ (r : Int64) (u : α) (H1 : Heap) (locs1 : List Loc), post r u → va_P D vwCl (pre ++ (wf u ++ suf)) H1 → va_D A0 (pre ++ (wf u ++ suf)) → va_S A0 H0 H1 locs1 → W p l e R s m args below meth c H1 locs1 cells slots Q (F0 m (pc + 3) ls (.long r :: rest))) : W p l e R s m args below meth c H locs cells slots Q (F0 m pc ls st0) := by
  have hF := fr_in hD hS hA
  refine va_calll hr hS (fun q _ h => hF q h) hF (fun r u t H1 locs1 ht hvm hw hB hz1 hk1 hS1 => ?_)
  obtain ⟨hP1, hD1⟩ := hB
  rw [ht] at hP1
  obtain ⟨hP2, hD2⟩ := jn hP hD hk1 hF hP1 hD1
  exact kk r u H1 locs1 hw hP2 hD2 hS1
theorem goWv {α : Type} {wf : α → va_W} {post : α → Prop} {a : Array Value} (hr : va_Run p l e R s m args below meth c H locs cells slots 0 0 (F0 m pc ls st0) rest (va_Qv post (QB D wc H.size wf) (va_A wc H.size) a) (va_A wc H.size))
    (hP : va_P D vwCl (pre ++ (wc ++ suf)) H) (hD : va_D A0 (pre ++ (wc ++ suf))) (hS : va_S A0 H0 H locs) (hA : ∀ q, H0.size ≤ q → A0 q)
    (kk : ∀ (u : α) (H1 : Heap) (locs1 : List Loc), post u → va_P D vwCl (pre ++ (wf u ++ suf)) H1 → va_D A0 (pre ++ (wf u ++ suf)) → va_S A0 H0 H1 locs1 → W p l e R s m args below meth c H1 locs1 cells slots Q (F0 m (pc + 3) ls rest)) : W p l e R s m args below meth c H locs cells slots Q (F0 m pc ls st0) := by
  have hF := fr_in hD hS hA
  refine va_callv hr hS (fun q _ h => hF q h) hF (fun u t H1 locs1 ht hvm hw hB hz1 hk1 hS1 => ?_)
  obtain ⟨hP1, hD1⟩ := hB
  rw [ht] at hP1
  obtain ⟨hP2, hD2⟩ := jn hP hD hk1 hF hP1 hD1
  exact kk u H1 locs1 hw hP2 hD2 hS1
end KC
