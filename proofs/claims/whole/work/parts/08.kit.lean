/-! rows of this claim's own: contracts of readers and writers, calls, numbers -/
def nwF : List (String × Nat × String × String × String × String) := [(RX2, 122, RX0, "time", "I", RX2), (RX2, 119, RX0, "holdTime", "I", RX2), (RX2, 137, RX0, "delivered", "I", RX2), (RX2, 140, RX0, "overtaken", "I", RX2), (RX2, 143, RX0, "unreachable", "I", RX2), (RX2, 146, RX0, "congested", "I", RX2), (RX2, 149, RX0, "lost", "I", RX2), (RX2, 31, RX0, "linksets", "I", RX2), (RX2, 134, RX0, "heldCount", "I", RX2), (RX2, 78, RX0, "queueLengths", "[I", RX2), (RX2, 81, RX0, "queues", "[I", RX2), (RX2, 96, RX0, "routeStates", "[I", RX2), (RX2, 99, RX0, "priorities", "[I", RX2), (RX2, 155, RX1, "size", "I", RX2)]
def nwM : List (String × Nat × MethodName × String) := [(RX2, 11, yX0_init, RX2), (RX2, 18, yX1_init, RX2), (RX1, 17, yX0_init, RX2), (RX2, 38, yX1_save, RX2), (RX1, 22, yX0_copyFrom, RX2), (RX2, 42, yX0_appendLinkset, RX2), (RX2, 46, yX0_hasLink, RX2), (RX2, 50, yX0_linkWorks, RX2), (RX2, 56, yX0_changeOver, RX2), (RX0, 99, yX2_linkPlace, RX2), (RX0, 145, yX2_streamOf, RX2), (RX0, 109, yX2_routePlace, RX2), (RX0, 118, yX2_setBit, RX2), (RX2, 60, yX0_listLinks, RX2), (RX2, 64, yX0_activate, RX2), (RX2, 68, yX0_divertMoved, RX2), (RX2, 75, yX0_deliverOldest, RX2), (RX0, 151, yX2_numberOf, RX2), (RX2, 87, yX0_congestionLevel, RX2), (RX2, 90, yX0_canHaveRoute, RX2), (RX0, 96, yX2_isDestination, RX2), (RX2, 106, yX0_routesTo, RX2), (RX2, 112, yX0_linkOver, RX2), (RX2, 115, yX0_accept, RX2), (RX0, 130, yX2_streamPlace, RX2), (RX0, 133, yX2_messageOf, RX2), (RX2, 125, yX0_releaseHeld, RX2), (RX2, 131, yX0_holds, RX2), (RX2, 152, yX0_countLinksTo, RX2), (RX2, 158, yX1_takeBackInto, RX2), (RX2, 176, yX0_mixCounters, RX2), (RX0, 154, yX2_mix, RX2), (RX2, 180, yX0_mixLinksets, RX2), (RX2, 183, yX0_mixDestination, RX2), (RX2, 186, yX0_mixHolding, RX2)]
/-- the tables' words that every contract of this claim wants of a state -/
def CT (D : va_G) (cI cO : ClassId) (U : State) : Prop := va_K D vwCl [(cI, .int), (cO, .object RX0)] U ∧ (∀ q ∈ nwF, va_Nw (.fieldLinkNest q.1 q.2.1 q.2.2.1 q.2.2.2.1 q.2.2.2.2.1 q.2.2.2.2.2) U) ∧ ∀ q ∈ nwM, va_Nw (.methodLinkNest q.1 q.2.1 q.2.2.1 q.2.2.2) U
theorem CT.warm {D : va_G} {cI cO : ClassId} {s U : State} (h : CT D cI cO s) (hW : s.WarmedH U.vm) : CT D cI cO U := ⟨h.1.moved hW.alike, fun q hq => (h.2.1 q hq).warmF hW, fun q hq => (h.2.2 q hq).warmM hW⟩
theorem CT.same {D : va_G} {cI cO : ClassId} {s U : State} (h : CT D cI cO s) (hv : s.vm = U.vm) : CT D cI cO U := ⟨h.1.moved (by rw [hv]; exact Vm.Alike.refl U.vm), fun q hq => (h.2.1 q hq).same rfl hv, fun q hq => (h.2.2 q hq).same rfl hv⟩
def PR (D : va_G) (cI cO : ClassId) (ws : va_W) (U : State) : Prop := va_P D vwCl ws U.heap ∧ CT D cI cO U
def PW (D : va_G) (cI cO : ClassId) (ws : va_W) (sz : Nat) (U : State) : Prop := U.heap.size = sz ∧ va_P D vwCl ws U.heap ∧ CT D cI cO U ∧ va_D (fun _ => True) ws
def QB {α : Type} (D : va_G) (ws : va_W) (sz : Nat) (wf : α → va_W) (u : α) (t : State) : Prop := va_P D vwCl (wf u) t.heap ∧ va_D (va_A ws sz) (wf u)
section KA
variable {l : Launch} {y : MethodName} {cc : ByteArray} {maxL : Nat} {rm : Room} {vs : List Value} {ws : va_W} {D : va_G} {cI cO : ClassId} {sz : Nat}
theorem rd_int {post : Int32 → Prop} (hy : plainName y.cls = true) (hlen : (lg_sl vs).length ≤ maxL)
    (body : ∀ (p : Program) (e : Env) (s : State) (m : MethodId) (args : Array Value) (below : List Frame) (meth : Method) (c : Code) (Q : State → Prop) (ls : Array Slot), CallFix p m c cc maxL s args WL y.cls → va_P D vwCl ws s.heap → CT D cI cO s →
      (∀ (r : Int32) (pc : Nat) (ls : Array Slot), post r → decode cc pc = .ok (.ireturn, 1) → W p l e rm s m args below meth c s.heap [] 0 0 Q (F0 m pc ls [.int r])) → lv_has ls maxL (lv_args 0 vs) → W p l e rm s m args below meth c s.heap [] 0 0 Q (F0 m 0 ls [])) :
    Met l y (Cond.code y cc maxL (some .int) :: WL) rm (va_Pc vs (PR D cI cO ws)) (vp_Si post) 0 0 (fun _ => False) := by
  refine Met.ofW (cc := cc) (maxL := maxL) (ret := some .int) hy rfl ?_
  intro p e s m args below meth c s₁ B hml hv
  obtain ⟨hargs, hP, hC⟩ := hv
  have hts := atoms_spec (ws := Cond.code y cc maxL (some .int) :: WL) B.pre
  have hl := lv_entry vs hlen
  have hlocks := B.notSynchronized
  rw [show entryFrame m args maxL = F0 m 0 ((lg_sl vs ++ List.replicate (maxL - (lg_sl vs).length) Slot.unset).toArray) [] from by rw [hargs]; exact lg_entry_eq m vs maxL]
  exact body p e s m args below meth c _ _ ⟨B.exec, B.bytes, hml, findClass_of_methodNamed B.named, fun w h => hts w (List.mem_cons_of_mem _ h)⟩ hP hC (fun r pc ls hr hd => W.iret (v := r) B.exec B.bytes B.returns (fun t ht _ => ⟨r, rfl, hr, ht⟩) (fun _ h => by cases h) hd) hl
theorem rd_bool {post : Int32 → Prop} (hy : plainName y.cls = true) (hlen : (lg_sl vs).length ≤ maxL)
    (body : ∀ (p : Program) (e : Env) (s : State) (m : MethodId) (args : Array Value) (below : List Frame) (meth : Method) (c : Code) (Q : State → Prop) (ls : Array Slot), CallFix p m c cc maxL s args WL y.cls → va_P D vwCl ws s.heap → CT D cI cO s →
      (∀ (r : Int32) (pc : Nat) (ls : Array Slot), post r → (r = 0 ∨ r = 1) → decode cc pc = .ok (.ireturn, 1) → W p l e rm s m args below meth c s.heap [] 0 0 Q (F0 m pc ls [.int r])) → lv_has ls maxL (lv_args 0 vs) → W p l e rm s m args below meth c s.heap [] 0 0 Q (F0 m 0 ls [])) :
    Met l y (Cond.code y cc maxL (some .boolean) :: WL) rm (va_Pc vs (PR D cI cO ws)) (vp_Si post) 0 0 (fun _ => False) := by
  refine Met.ofW (cc := cc) (maxL := maxL) (ret := some .boolean) hy rfl ?_
  intro p e s m args below meth c s₁ B hml hv
  obtain ⟨hargs, hP, hC⟩ := hv
  have hts := atoms_spec (ws := Cond.code y cc maxL (some .boolean) :: WL) B.pre
  have hl := lv_entry vs hlen
  have hlocks := B.notSynchronized
  rw [show entryFrame m args maxL = F0 m 0 ((lg_sl vs ++ List.replicate (maxL - (lg_sl vs).length) Slot.unset).toArray) [] from by rw [hargs]; exact lg_entry_eq m vs maxL]
  exact body p e s m args below meth c _ _ ⟨B.exec, B.bytes, hml, findClass_of_methodNamed B.named, fun w h => hts w (List.mem_cons_of_mem _ h)⟩ hP hC (fun r pc ls hr hz hd => W.zret (v := r) B.exec B.bytes B.returns (by rcases hz with rfl | rfl <;> decide) (fun t ht _ => ⟨r, rfl, hr, ht⟩) (fun _ h => by cases h) hd) hl
theorem rd_long {post : Int64 → Prop} (hy : plainName y.cls = true) (hlen : (lg_sl vs).length ≤ maxL)
    (body : ∀ (p : Program) (e : Env) (s : State) (m : MethodId) (args : Array Value) (below : List Frame) (meth : Method) (c : Code) (Q : State → Prop) (ls : Array Slot), CallFix p m c cc maxL s args WL y.cls → va_P D vwCl ws s.heap → CT D cI cO s →
      (∀ (r : Int64) (pc : Nat) (ls : Array Slot), post r → decode cc pc = .ok (.lreturn, 1) → W p l e rm s m args below meth c s.heap [] 0 0 Q (F0 m pc ls [.long r])) → lv_has ls maxL (lv_args 0 vs) → W p l e rm s m args below meth c s.heap [] 0 0 Q (F0 m 0 ls [])) :
    Met l y (Cond.code y cc maxL (some .long) :: WL) rm (va_Pc vs (PR D cI cO ws)) (vp_Sl post) 0 0 (fun _ => False) := by
  refine Met.ofW (cc := cc) (maxL := maxL) (ret := some .long) hy rfl ?_
  intro p e s m args below meth c s₁ B hml hv
  obtain ⟨hargs, hP, hC⟩ := hv
  have hts := atoms_spec (ws := Cond.code y cc maxL (some .long) :: WL) B.pre
  have hl := lv_entry vs hlen
  have hlocks := B.notSynchronized
  rw [show entryFrame m args maxL = F0 m 0 ((lg_sl vs ++ List.replicate (maxL - (lg_sl vs).length) Slot.unset).toArray) [] from by rw [hargs]; exact lg_entry_eq m vs maxL]
  exact body p e s m args below meth c _ _ ⟨B.exec, B.bytes, hml, findClass_of_methodNamed B.named, fun w h => hts w (List.mem_cons_of_mem _ h)⟩ hP hC (fun r pc ls hr hd => W.lret (v := r) B.exec B.bytes B.returns (fun t ht _ => ⟨r, rfl, hr, ht⟩) (fun _ h => by cases h) hd) hl
theorem wr_int {α : Type} {wf : α → va_W} {post : Int32 → α → Prop} (hy : plainName y.cls = true) (hlen : (lg_sl vs).length ≤ maxL)
    (body : ∀ (p : Program) (e : Env) (s : State) (m : MethodId) (args : Array Value) (below : List Frame) (meth : Method) (c : Code) (Q : State → Prop) (ls : Array Slot) (A : Nat → Prop), CallFix p m c cc maxL s args WL y.cls → va_P D vwCl ws s.heap → CT D cI cO s → va_D A ws → (∀ q : Nat, s.heap.size ≤ q → A q) →
      (∀ (r : Int32) (u : α) (pc : Nat) (ls : Array Slot) (H : Heap) (locs : List Loc), post r u → va_P D vwCl (wf u) H → va_D A (wf u) → va_S A s.heap H locs → decode cc pc = .ok (.ireturn, 1) → W p l e rm s m args below meth c H locs 0 0 Q (F0 m pc ls [.int r])) → lv_has ls maxL (lv_args 0 vs) → W p l e rm s m args below meth c s.heap [] 0 0 Q (F0 m 0 ls [])) :
    Met l y (Cond.code y cc maxL (some .int) :: WL) rm (va_Pc vs (PW D cI cO ws sz)) (va_Qi post (QB D ws sz wf) (va_A ws sz)) 0 0 (va_A ws sz) := by
  refine Met.ofW (cc := cc) (maxL := maxL) (ret := some .int) hy rfl ?_
  intro p e s m args below meth c s₁ B hml hv
  obtain ⟨hargs, hsz, hP, hC, hD0⟩ := hv
  subst hsz
  have hts := atoms_spec (ws := Cond.code y cc maxL (some .int) :: WL) B.pre
  have hl := lv_entry vs hlen
  have hlocks := B.notSynchronized
  have hD := hD0.self (sz := s.heap.size)
  rw [show entryFrame m args maxL = F0 m 0 ((lg_sl vs ++ List.replicate (maxL - (lg_sl vs).length) Slot.unset).toArray) [] from by rw [hargs]; exact lg_entry_eq m vs maxL]
  exact body p e s m args below meth c _ _ (va_A ws s.heap.size) ⟨B.exec, B.bytes, hml, findClass_of_methodNamed B.named, fun w h => hts w (List.mem_cons_of_mem _ h)⟩ hP hC hD (fun q h => Or.inr h) (fun r u pc ls H locs hr hP1 hD1 hS1 hd => W.iret (v := r) B.exec B.bytes B.returns (fun t ht _ => ⟨⟨r, u, rfl, hr, by rw [ht]; exact hP1, hD1⟩, hS1.F ht⟩) hS1.2.2 hd) hl
theorem wr_long {α : Type} {wf : α → va_W} {post : Int64 → α → Prop} (hy : plainName y.cls = true) (hlen : (lg_sl vs).length ≤ maxL)
    (body : ∀ (p : Program) (e : Env) (s : State) (m : MethodId) (args : Array Value) (below : List Frame) (meth : Method) (c : Code) (Q : State → Prop) (ls : Array Slot) (A : Nat → Prop), CallFix p m c cc maxL s args WL y.cls → va_P D vwCl ws s.heap → CT D cI cO s → va_D A ws → (∀ q : Nat, s.heap.size ≤ q → A q) →
      (∀ (r : Int64) (u : α) (pc : Nat) (ls : Array Slot) (H : Heap) (locs : List Loc), post r u → va_P D vwCl (wf u) H → va_D A (wf u) → va_S A s.heap H locs → decode cc pc = .ok (.lreturn, 1) → W p l e rm s m args below meth c H locs 0 0 Q (F0 m pc ls [.long r])) → lv_has ls maxL (lv_args 0 vs) → W p l e rm s m args below meth c s.heap [] 0 0 Q (F0 m 0 ls [])) :
    Met l y (Cond.code y cc maxL (some .long) :: WL) rm (va_Pc vs (PW D cI cO ws sz)) (va_Ql post (QB D ws sz wf) (va_A ws sz)) 0 0 (va_A ws sz) := by
  refine Met.ofW (cc := cc) (maxL := maxL) (ret := some .long) hy rfl ?_
  intro p e s m args below meth c s₁ B hml hv
  obtain ⟨hargs, hsz, hP, hC, hD0⟩ := hv
  subst hsz
  have hts := atoms_spec (ws := Cond.code y cc maxL (some .long) :: WL) B.pre
  have hl := lv_entry vs hlen
  have hlocks := B.notSynchronized
  have hD := hD0.self (sz := s.heap.size)
  rw [show entryFrame m args maxL = F0 m 0 ((lg_sl vs ++ List.replicate (maxL - (lg_sl vs).length) Slot.unset).toArray) [] from by rw [hargs]; exact lg_entry_eq m vs maxL]
  exact body p e s m args below meth c _ _ (va_A ws s.heap.size) ⟨B.exec, B.bytes, hml, findClass_of_methodNamed B.named, fun w h => hts w (List.mem_cons_of_mem _ h)⟩ hP hC hD (fun q h => Or.inr h) (fun r u pc ls H locs hr hP1 hD1 hS1 hd => W.lret (v := r) B.exec B.bytes B.returns (fun t ht _ => ⟨⟨r, u, rfl, hr, by rw [ht]; exact hP1, hD1⟩, hS1.F ht⟩) hS1.2.2 hd) hl
theorem wr_void {α : Type} {wf : α → va_W} {post : α → Prop} (hy : plainName y.cls = true) (hlen : (lg_sl vs).length ≤ maxL)
    (body : ∀ (p : Program) (e : Env) (s : State) (m : MethodId) (args : Array Value) (below : List Frame) (meth : Method) (c : Code) (Q : State → Prop) (ls : Array Slot) (A : Nat → Prop), CallFix p m c cc maxL s args WL y.cls → va_P D vwCl ws s.heap → CT D cI cO s → va_D A ws → (∀ q : Nat, s.heap.size ≤ q → A q) →
      (∀ (u : α) (pc : Nat) (ls : Array Slot) (H : Heap) (locs : List Loc), post u → va_P D vwCl (wf u) H → va_D A (wf u) → va_S A s.heap H locs → decode cc pc = .ok (.return_, 1) → W p l e rm s m args below meth c H locs 0 0 Q (F0 m pc ls [])) → lv_has ls maxL (lv_args 0 vs) → W p l e rm s m args below meth c s.heap [] 0 0 Q (F0 m 0 ls [])) :
    Met l y (Cond.code y cc maxL none :: WL) rm (va_Pc vs (PW D cI cO ws sz)) (va_Qv post (QB D ws sz wf) (va_A ws sz)) 0 0 (va_A ws sz) := by
  refine Met.ofW (cc := cc) (maxL := maxL) (ret := none) hy rfl ?_
  intro p e s m args below meth c s₁ B hml hv
  obtain ⟨hargs, hsz, hP, hC, hD0⟩ := hv
  subst hsz
  have hts := atoms_spec (ws := Cond.code y cc maxL none :: WL) B.pre
  have hl := lv_entry vs hlen
  have hlocks := B.notSynchronized
  have hD := hD0.self (sz := s.heap.size)
  rw [show entryFrame m args maxL = F0 m 0 ((lg_sl vs ++ List.replicate (maxL - (lg_sl vs).length) Slot.unset).toArray) [] from by rw [hargs]; exact lg_entry_eq m vs maxL]
  exact body p e s m args below meth c _ _ (va_A ws s.heap.size) ⟨B.exec, B.bytes, hml, findClass_of_methodNamed B.named, fun w h => hts w (List.mem_cons_of_mem _ h)⟩ hP hC hD (fun q h => Or.inr h) (fun u pc ls H locs hr hP1 hD1 hS1 hd => W.vret B.exec B.bytes B.returns (fun t ht _ => ⟨⟨u, rfl, hr, by rw [ht]; exact hP1, hD1⟩, hS1.F ht⟩) hS1.2.2 hd) hl
end KA
