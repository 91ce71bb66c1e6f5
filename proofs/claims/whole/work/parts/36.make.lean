/-! making objects -/
def PN (D : va_G) (cI cO : ClassId) (ws : va_W) (sz : Nat) (U : State) : Prop := PW D cI cO ws sz U ∧ va_AO RX0 U
section MK
variable {l : Launch} {y : MethodName} {cc : ByteArray} {maxL : Nat} {rm : Room} {vs : List Value} {ws : va_W} {D : va_G} {cI cO : ClassId} {sz : Nat}
theorem wn_void {mc ms : Nat} {α : Type} {wf : α → va_W} {post : α → Prop} (hy : plainName y.cls = true) (hnm : y.name = "<init>") (hlen : (lg_sl vs).length ≤ maxL)
    (body : ∀ (p : Program) (e : Env) (s : State) (m : MethodId) (args : Array Value) (below : List Frame) (meth : Method) (c : Code) (Q : State → Prop) (ls : Array Slot) (A : Nat → Prop), CallFix p m c cc maxL s args WL y.cls → meth.name = "<init>" → va_P D vwCl ws s.heap → CT D cI cO s → va_AO RX0 s → va_D A ws → (∀ q : Nat, s.heap.size ≤ q → A q) →
      (∀ (u : α) (pc : Nat) (ls : Array Slot) (H : Heap) (locs : List Loc), post u → va_P D vwCl (wf u) H → va_D A (wf u) → va_S A s.heap H locs → decode cc pc = .ok (.return_, 1) → W p l e rm s m args below meth c H locs mc ms Q (F0 m pc ls [])) → lv_has ls maxL (lv_args 0 vs) → W p l e rm s m args below meth c s.heap [] 0 0 Q (F0 m 0 ls [])) :
    Met l y (Cond.code y cc maxL none :: WL) rm (va_Pc vs (PN D cI cO ws sz)) (va_Qv post (QB D ws sz wf) (va_A ws sz)) mc ms (va_A ws sz) := by
  refine Met.ofW (cc := cc) (maxL := maxL) (ret := none) hy rfl ?_
  intro p e s m args below meth c s₁ B hml hv
  obtain ⟨hargs, ⟨hsz, hP, hC, hD0⟩, hO⟩ := hv
  subst hsz
  have hts := atoms_spec (ws := Cond.code y cc maxL none :: WL) B.pre
  have hl := lv_entry vs hlen
  have hlocks := B.notSynchronized
  have hD := hD0.self (sz := s.heap.size)
  rw [show entryFrame m args maxL = F0 m 0 ((lg_sl vs ++ List.replicate (maxL - (lg_sl vs).length) Slot.unset).toArray) [] from by rw [hargs]; exact lg_entry_eq m vs maxL]
  exact body p e s m args below meth c _ _ (va_A ws s.heap.size) ⟨B.exec, B.bytes, hml, findClass_of_methodNamed B.named, fun w h => hts w (List.mem_cons_of_mem _ h)⟩ ((name_of_methodNamed B.named B.method).1.trans hnm) hP hC hO hD (fun q h => Or.inr h) (fun u pc ls H locs hr hP1 hD1 hS1 hd => W.vret B.exec B.bytes B.returns (fun t ht _ => ⟨⟨u, rfl, hr, by rw [ht]; exact hP1, hD1⟩, hS1.F ht⟩) hS1.2.2 hd) hl
end MK
section KM
variable {p : Program} {l : Launch} {e : Env} {R : Room} {s : State} {m : MethodId} {args : Array Value} {below : List Frame} {meth : Method} {c : Code} {H : Heap} {locs : List Loc} {cells slots : Nat} {Q : State → Prop} {cc : ByteArray} {pc nL : Nat} {ls : Array Slot} {rest st0 : List Value} {own : String}
variable {y : MethodName} {bytes : ByteArray} {maxL index n mc ms : Nat} {rm : Room} {Pc : Array Value → State → Prop} {Qc : Array Value → State → Outcome → State → Prop} {free : Addr → Prop} {b : Addr} {As : List Value} {host : String} {D : va_G} {cI cO : ClassId} {wc ws : va_W} {A : Nat → Prop} {H0 : Heap} {a : Nat}
theorem nw_int (hx : p.tables.exec = Jvm.exec) (hb : c.code = cc) (hts : ∀ w ∈ WL, w.before args s = true) (hC : CT D cI cO s) (hP : va_P D vwCl ws H) (hD : va_D A ws) (hS : va_S A H0 H locs) (hA : ∀ q, H0.size ≤ q → A q) (hn : n < 2 ^ 20) (hcells : cells + 1 ≤ R.cells) (hslots : slots + n ≤ R.slots) (hdg : decode cc pc = .ok (.newarray .int, 2))
    (kk : ∀ (q : Nat) (H1 : Heap), va_P D vwCl (ws ++ [(q, .inl (cI, n, .inl (fun _ => nI 0)))]) H1 → va_D A (ws ++ [(q, .inl (cI, n, .inl (fun _ => nI 0)))]) → va_S A H0 H1 locs → W p l e R s m args below meth c H1 locs (cells + 1) (slots + n) Q (F0 m (pc + 2) ls (.ref q :: rest))) : W p l e R s m args below meth c H locs cells slots Q (F0 m pc ls (.int (nI n) :: rest)) := by
  refine va_newa (atype := .int) (ty := .int) (a0 := (n, .inl (fun _ => nI 0))) hx hb (hts _ qw97) rfl hC.1 hP hD hS hA (fun cA => by first | rfl | (simp only [nI_0]; rfl)) (nI_pos (by omega)) (nI_clamp (by omega)) ?_ hcells hslots hdg (fun q cA H1 hK hP1 hD1 hS1 => ?_)
  · show n * 4 ≤ 536870912
    omega
  · have h1 : cA = cI := Option.some.inj ((va_nm_int (hK.2 2 _ rfl).2).symm.trans (va_nm_int (hC.1.2 0 _ rfl).2))
    rw [h1] at hP1 hD1
    exact kk q H1 hP1 hD1 hS1
theorem nw_ring (hx : p.tables.exec = Jvm.exec) (hb : c.code = cc) (hts : ∀ w ∈ WL, w.before args s = true) (hown : s.vm.findClass RX1 = some m.cls) (hC : CT D cI cO s) (hO : va_AO RX0 s) (hP : va_P D vwCl ws H) (hD : va_D A ws) (hS : va_S A H0 H locs) (hA : ∀ q, H0.size ≤ q → A q) (hcells : cells + 1 ≤ R.cells) (hslots : slots + 4 ≤ R.slots) (hdg : decode cc pc = .ok (.anewarray 9, 3))
    (kk : ∀ (q : Nat) (H1 : Heap), va_P D vwCl (ws ++ [(q, .inl (cO, 4, .inr (.inr (.inr (.inr (fun _ => none))))))]) H1 → va_D A (ws ++ [(q, .inl (cO, 4, .inr (.inr (.inr (.inr (fun _ => none))))))]) → va_S A H0 H1 locs → W p l e R s m args below meth c H1 locs (cells + 1) (slots + 4) Q (F0 m (pc + 3) ls (.ref q :: rest))) : W p l e R s m args below meth c H locs cells slots Q (F0 m pc ls (.int (nI 4) :: rest)) := by
  refine va_newq (index := 9) hx hb hown (hts _ qw104) hO hC.1 hP hD hS hA (n := nI 4) (N' := 4) (by decide) (by decide) (by decide) hcells hslots hdg (fun q cA H1 hK hP1 hD1 hS1 => ?_)
  have h1 : cA = cO := by
    obtain ⟨_, _, _, _, _, h⟩ := (hK.2 2 _ rfl).2
    obtain ⟨_, _, _, _, _, h2⟩ := (hC.1.2 1 _ rfl).2
    exact Option.some.inj (h.symm.trans h2)
  rw [h1] at hP1 hD1
  exact kk q H1 hP1 hD1 hS1
theorem dfX0 : ∀ j, j < 19 → defaultValue (tyX0 j) = vp_V [.int (nI 0), .int (nI 0), .int (nI 0), .int (nI 0), .int (nI 0), .int (nI 0), .int (nI 0), .int (nI 0), .int (nI 0), .int (nI 0), .null, .null, .null, .null, .null, .null, .null, .null, .null] j := fun j hj => by
  rcases (show j = 0 ∨ j = 1 ∨ j = 2 ∨ j = 3 ∨ j = 4 ∨ j = 5 ∨ j = 6 ∨ j = 7 ∨ j = 8 ∨ j = 9 ∨ j = 10 ∨ j = 11 ∨ j = 12 ∨ j = 13 ∨ j = 14 ∨ j = 15 ∨ j = 16 ∨ j = 17 ∨ j = 18 by omega) with rfl | rfl | rfl | rfl | rfl | rfl | rfl | rfl | rfl | rfl | rfl | rfl | rfl | rfl | rfl | rfl | rfl | rfl | rfl <;> first | rfl | (simp only [nI_0]; rfl)
theorem nw_X0 (hx : p.tables.exec = Jvm.exec) (hb : c.code = cc) (hts : ∀ w ∈ WL, w.before args s = true) (hown : s.vm.findClass own = some m.cls) (hl : Cond.classLink own index RX0 ∈ WL) (hC : CT D cI cO s) (hP : va_P D vwCl ws H) (hD : va_D A ws) (hS : va_S A H0 H locs) (hA : ∀ q, H0.size ≤ q → A q) (hcells : cells + 1 ≤ R.cells) (hslots : slots + 19 ≤ R.slots) (hdg : decode cc pc = .ok (.new index, 3))
    (kk : ∀ (q : Nat) (H1 : Heap), va_P D vwCl (ws ++ [(q, .inr (0, [.int (nI 0), .int (nI 0), .int (nI 0), .int (nI 0), .int (nI 0), .int (nI 0), .int (nI 0), .int (nI 0), .int (nI 0), .int (nI 0), .null, .null, .null, .null, .null, .null, .null, .null, .null]))]) H1 → va_D A (ws ++ [(q, .inr (0, [.int (nI 0), .int (nI 0), .int (nI 0), .int (nI 0), .int (nI 0), .int (nI 0), .int (nI 0), .int (nI 0), .int (nI 0), .int (nI 0), .null, .null, .null, .null, .null, .null, .null, .null, .null]))]) → va_S A H0 H1 locs → W p l e R s m args below meth c H1 locs (cells + 1) (slots + 19) Q (F0 m (pc + 3) ls (.ref q :: rest))) : W p l e R s m args below meth c H locs cells slots Q (F0 m pc ls rest) :=
  va_new (ci := 0) (C := RX0) (T := TX0) (N := 19) hx hb hts inX0 tyX0 tyX0_ok hown (hts _ hl) (hts _ qw18) (hts _ qw2) hC.1 hP hD hS hA rfl dfX0 hcells hslots hdg kk
theorem dfX1 : ∀ j, j < 3 → defaultValue (tyX1 j) = vp_V [.null, .int (nI 0), .int (nI 0)] j := fun j hj => by
  rcases (show j = 0 ∨ j = 1 ∨ j = 2 by omega) with rfl | rfl | rfl <;> first | rfl | (simp only [nI_0]; rfl)
theorem nw_X1 (hx : p.tables.exec = Jvm.exec) (hb : c.code = cc) (hts : ∀ w ∈ WL, w.before args s = true) (hown : s.vm.findClass own = some m.cls) (hl : Cond.classLink own index RX1 ∈ WL) (hC : CT D cI cO s) (hP : va_P D vwCl ws H) (hD : va_D A ws) (hS : va_S A H0 H locs) (hA : ∀ q, H0.size ≤ q → A q) (hcells : cells + 1 ≤ R.cells) (hslots : slots + 3 ≤ R.slots) (hdg : decode cc pc = .ok (.new index, 3))
    (kk : ∀ (q : Nat) (H1 : Heap), va_P D vwCl (ws ++ [(q, .inr (1, [.null, .int (nI 0), .int (nI 0)]))]) H1 → va_D A (ws ++ [(q, .inr (1, [.null, .int (nI 0), .int (nI 0)]))]) → va_S A H0 H1 locs → W p l e R s m args below meth c H1 locs (cells + 1) (slots + 3) Q (F0 m (pc + 3) ls (.ref q :: rest))) : W p l e R s m args below meth c H locs cells slots Q (F0 m pc ls rest) :=
  va_new (ci := 1) (C := RX1) (T := TX1) (N := 3) hx hb hts inX1 tyX1 tyX1_ok hown (hts _ hl) (hts _ qw99) (hts _ qw4) hC.1 hP hD hS hA rfl dfX1 hcells hslots hdg kk
theorem dfX2 : ∀ j, j < 6 → defaultValue (tyX2 j) = vp_V [.null, .null, .null, .int (nI 0), .int (nI 0), .int (nI 0)] j := fun j hj => by
  rcases (show j = 0 ∨ j = 1 ∨ j = 2 ∨ j = 3 ∨ j = 4 ∨ j = 5 by omega) with rfl | rfl | rfl | rfl | rfl | rfl <;> first | rfl | (simp only [nI_0]; rfl)
theorem nw_X2 (hx : p.tables.exec = Jvm.exec) (hb : c.code = cc) (hts : ∀ w ∈ WL, w.before args s = true) (hown : s.vm.findClass own = some m.cls) (hl : Cond.classLink own index RX2 ∈ WL) (hC : CT D cI cO s) (hP : va_P D vwCl ws H) (hD : va_D A ws) (hS : va_S A H0 H locs) (hA : ∀ q, H0.size ≤ q → A q) (hcells : cells + 1 ≤ R.cells) (hslots : slots + 6 ≤ R.slots) (hdg : decode cc pc = .ok (.new index, 3))
    (kk : ∀ (q : Nat) (H1 : Heap), va_P D vwCl (ws ++ [(q, .inr (2, [.null, .null, .null, .int (nI 0), .int (nI 0), .int (nI 0)]))]) H1 → va_D A (ws ++ [(q, .inr (2, [.null, .null, .null, .int (nI 0), .int (nI 0), .int (nI 0)]))]) → va_S A H0 H1 locs → W p l e R s m args below meth c H1 locs (cells + 1) (slots + 6) Q (F0 m (pc + 3) ls (.ref q :: rest))) : W p l e R s m args below meth c H locs cells slots Q (F0 m pc ls rest) :=
  va_new (ci := 2) (C := RX2) (T := TX2) (N := 6) hx hb hts inX2 tyX2 tyX2_ok hown (hts _ hl) (hts _ qw10) (hts _ qw1) hC.1 hP hD hS hA rfl dfX2 hcells hslots hdg kk
theorem dfX3 : ∀ j, j < 7 → defaultValue (tyX3 j) = vp_V [.null, .null, .int (nI 0), .null, .null, .null, .long 0] j := fun j hj => by
  rcases (show j = 0 ∨ j = 1 ∨ j = 2 ∨ j = 3 ∨ j = 4 ∨ j = 5 ∨ j = 6 by omega) with rfl | rfl | rfl | rfl | rfl | rfl | rfl <;> first | rfl | (simp only [nI_0]; rfl)
theorem nw_X3 (hx : p.tables.exec = Jvm.exec) (hb : c.code = cc) (hts : ∀ w ∈ WL, w.before args s = true) (hown : s.vm.findClass own = some m.cls) (hl : Cond.classLink own index RX3 ∈ WL) (hC : CT D cI cO s) (hP : va_P D vwCl ws H) (hD : va_D A ws) (hS : va_S A H0 H locs) (hA : ∀ q, H0.size ≤ q → A q) (hcells : cells + 1 ≤ R.cells) (hslots : slots + 7 ≤ R.slots) (hdg : decode cc pc = .ok (.new index, 3))
    (kk : ∀ (q : Nat) (H1 : Heap), va_P D vwCl (ws ++ [(q, .inr (3, [.null, .null, .int (nI 0), .null, .null, .null, .long 0]))]) H1 → va_D A (ws ++ [(q, .inr (3, [.null, .null, .int (nI 0), .null, .null, .null, .long 0]))]) → va_S A H0 H1 locs → W p l e R s m args below meth c H1 locs (cells + 1) (slots + 7) Q (F0 m (pc + 3) ls (.ref q :: rest))) : W p l e R s m args below meth c H locs cells slots Q (F0 m pc ls rest) :=
  va_new (ci := 3) (C := RX3) (T := TX3) (N := 7) hx hb hts inX3 tyX3 tyX3_ok hown (hts _ hl) (hts _ qw451) (hts _ qw5) hC.1 hP hD hS hA rfl dfX3 hcells hslots hdg kk
theorem ptF0 (hx : p.tables.exec = Jvm.exec) (hb : c.code = cc) (hts : ∀ w ∈ WL, w.before args s = true) (hown : s.vm.findClass RX0 = some m.cls) (hC : CT D cI cO s) (hP : va_P D vwCl ws H) (hD : va_D A ws) (hS : va_S A H0 H locs) (hin : meth.name = "<init>") (q0 : Nat) {fs : List Value} (he : ws[q0]? = some (a, .inr (0, fs))) (k : Nat) (hk : k < 19) (hl : Cond.fieldLink RX0 index (TX0 k).1 (TX0 k).2.1 (TX0 k).2.2.1 ∈ WL) (hfin : (TX0 k).2.2.2 = true) (hdecl : (TX0 k).1 = RX0) {v : Value} (hn : narrow (tyX0 k) v = v) (hfit : fits (tyX0 k) v = true) (hlen : k < fs.length) (hdg : decode cc pc = .ok (.putfield index, 3)) (kk : ∀ (H1 : Heap) (locs1 : List Loc), va_P D vwCl (ws.set q0 (a, .inr (0, fs.set k v))) H1 → va_D A (ws.set q0 (a, .inr (0, fs.set k v))) → va_S A H0 H1 locs1 → W p l e R s m args below meth c H1 locs1 cells slots Q (F0 m (pc + 3) ls rest)) : W p l e R s m args below meth c H locs cells slots Q (F0 m pc ls (v :: .ref a :: rest)) := va_putF (C := RX0) (T := TX0) (N := 19) hx hb hts inX0 tyX0 tyX0_ok nmX0 hown hC.1 hP hD hS q0 he rfl k hk (hts _ hl) (fun _ h => h) hfin hin hdecl (tyX0_ok k hk) hn hfit hlen hdg kk
theorem ptF1 (hx : p.tables.exec = Jvm.exec) (hb : c.code = cc) (hts : ∀ w ∈ WL, w.before args s = true) (hown : s.vm.findClass RX1 = some m.cls) (hC : CT D cI cO s) (hP : va_P D vwCl ws H) (hD : va_D A ws) (hS : va_S A H0 H locs) (hin : meth.name = "<init>") (q0 : Nat) {fs : List Value} (he : ws[q0]? = some (a, .inr (1, fs))) (k : Nat) (hk : k < 3) (hl : Cond.fieldLink RX1 index (TX1 k).1 (TX1 k).2.1 (TX1 k).2.2.1 ∈ WL) (hfin : (TX1 k).2.2.2 = true) (hdecl : (TX1 k).1 = RX1) {v : Value} (hn : narrow (tyX1 k) v = v) (hfit : fits (tyX1 k) v = true) (hlen : k < fs.length) (hdg : decode cc pc = .ok (.putfield index, 3)) (kk : ∀ (H1 : Heap) (locs1 : List Loc), va_P D vwCl (ws.set q0 (a, .inr (1, fs.set k v))) H1 → va_D A (ws.set q0 (a, .inr (1, fs.set k v))) → va_S A H0 H1 locs1 → W p l e R s m args below meth c H1 locs1 cells slots Q (F0 m (pc + 3) ls rest)) : W p l e R s m args below meth c H locs cells slots Q (F0 m pc ls (v :: .ref a :: rest)) := va_putF (C := RX1) (T := TX1) (N := 3) hx hb hts inX1 tyX1 tyX1_ok nmX1 hown hC.1 hP hD hS q0 he rfl k hk (hts _ hl) (fun _ h => h) hfin hin hdecl (tyX1_ok k hk) hn hfit hlen hdg kk
theorem ptF2 (hx : p.tables.exec = Jvm.exec) (hb : c.code = cc) (hts : ∀ w ∈ WL, w.before args s = true) (hown : s.vm.findClass RX2 = some m.cls) (hC : CT D cI cO s) (hP : va_P D vwCl ws H) (hD : va_D A ws) (hS : va_S A H0 H locs) (hin : meth.name = "<init>") (q0 : Nat) {fs : List Value} (he : ws[q0]? = some (a, .inr (2, fs))) (k : Nat) (hk : k < 6) (hl : Cond.fieldLink RX2 index (TX2 k).1 (TX2 k).2.1 (TX2 k).2.2.1 ∈ WL) (hfin : (TX2 k).2.2.2 = true) (hdecl : (TX2 k).1 = RX2) {v : Value} (hn : narrow (tyX2 k) v = v) (hfit : fits (tyX2 k) v = true) (hlen : k < fs.length) (hdg : decode cc pc = .ok (.putfield index, 3)) (kk : ∀ (H1 : Heap) (locs1 : List Loc), va_P D vwCl (ws.set q0 (a, .inr (2, fs.set k v))) H1 → va_D A (ws.set q0 (a, .inr (2, fs.set k v))) → va_S A H0 H1 locs1 → W p l e R s m args below meth c H1 locs1 cells slots Q (F0 m (pc + 3) ls rest)) : W p l e R s m args below meth c H locs cells slots Q (F0 m pc ls (v :: .ref a :: rest)) := va_putF (C := RX2) (T := TX2) (N := 6) hx hb hts inX2 tyX2 tyX2_ok nmX2 hown hC.1 hP hD hS q0 he rfl k hk (hts _ hl) (fun _ h => h) hfin hin hdecl (tyX2_ok k hk) hn hfit hlen hdg kk
theorem ptF3 (hx : p.tables.exec = Jvm.exec) (hb : c.code = cc) (hts : ∀ w ∈ WL, w.before args s = true) (hown : s.vm.findClass RX3 = some m.cls) (hC : CT D cI cO s) (hP : va_P D vwCl ws H) (hD : va_D A ws) (hS : va_S A H0 H locs) (hin : meth.name = "<init>") (q0 : Nat) {fs : List Value} (he : ws[q0]? = some (a, .inr (3, fs))) (k : Nat) (hk : k < 7) (hl : Cond.fieldLink RX3 index (TX3 k).1 (TX3 k).2.1 (TX3 k).2.2.1 ∈ WL) (hfin : (TX3 k).2.2.2 = true) (hdecl : (TX3 k).1 = RX3) {v : Value} (hn : narrow (tyX3 k) v = v) (hfit : fits (tyX3 k) v = true) (hlen : k < fs.length) (hdg : decode cc pc = .ok (.putfield index, 3)) (kk : ∀ (H1 : Heap) (locs1 : List Loc), va_P D vwCl (ws.set q0 (a, .inr (3, fs.set k v))) H1 → va_D A (ws.set q0 (a, .inr (3, fs.set k v))) → va_S A H0 H1 locs1 → W p l e R s m args below meth c H1 locs1 cells slots Q (F0 m (pc + 3) ls rest)) : W p l e R s m args below meth c H locs cells slots Q (F0 m pc ls (v :: .ref a :: rest)) := va_putF (C := RX3) (T := TX3) (N := 7) hx hb hts inX3 tyX3 tyX3_ok nmX3 hown hC.1 hP hD hS q0 he rfl k hk (hts _ hl) (fun _ h => h) hfin hin hdecl (tyX3_ok k hk) hn hfit hlen hdg kk
theorem blindN {vs : List Value} {sz : Nat} : FrameBlind (va_Pc vs (PN D cI cO ws sz)) := fun a U g mk q => ⟨q.1, ⟨q.2.1.1, q.2.1.2.1, q.2.1.2.2.1.same rfl, q.2.1.2.2.2⟩, q.2.2.moved (Vm.Alike.refl U.vm)⟩
theorem preN (hP : va_P D vwCl ws H) (hC : CT D cI cO s) (hO : va_AO RX0 s) (hD : va_D A ws) : PreS s H (va_Pc As (PN D cI cO ws H.size)) As := ⟨blindN, fun U hU hW => ⟨rfl, ⟨by rw [hU], by rw [hU]; exact hP, hC.warm hW, hD.weaken (fun _ _ _ _ => trivial)⟩, hO.moved hW.alike⟩⟩
theorem kIN (F : CallFix p m c cc nL s args WL own) (hM : Met l y (Cond.code y bytes maxL none :: WL) rm Pc Qc mc ms free) (hY : YW y bytes maxL none n) (hnm : y.name = "<init>") (q1 : va_Nw (.methodLinkNest own index y host) s) (q2 : Cond.instanceMethod y ∈ WL) (hr : rm.cells = mc ∧ rm.slots = ms) (hR : rm.frames + 1 ≤ R.frames ∧ 8 + (maxL + 11) + rm.locals ≤ R.locals) (hp : PreS s H Pc (.ref b :: As))
    (hn : As.length = n) (hsize : ls.size = nL) (hstack : st0 = As.reverse ++ .ref b :: rest) (hW : (rest.map fun v => v.category).sum ≤ 8) (hdg : decode cc pc = .ok (.invokespecial index, 3)) (hf : cells + mc ≤ R.cells ∧ slots + ms ≤ R.slots) :
    va_Run p l e R s m args below meth c H locs cells slots mc ms (F0 m pc ls st0) rest (Qc (Value.ref b :: As).toArray) free := by
  obtain ⟨y1, y2, y3⟩ := hY
  exact va_runIN F hM ⟨va_cnB n F.2.2.2.2 (WL_good2 y1) rfl hr.1 hr.2 q1 (F.2.2.2.2 _ y2) y3 hR, hnm, F.2.2.2.2 _ q2⟩ hp rfl hn hsize hstack (lv_room hW) hdg hf
theorem kI (F : CallFix p m c cc nL s args WL own) (hM : Met l y (Cond.code y bytes maxL none :: WL) rm Pc Qc mc ms free) (hY : YW y bytes maxL none n) (hnm : y.name = "<init>") (q1 : Cond.methodLink own index y ∈ WL) (q2 : Cond.instanceMethod y ∈ WL) (hr : rm.cells = mc ∧ rm.slots = ms) (hR : rm.frames + 1 ≤ R.frames ∧ 8 + (maxL + 11) + rm.locals ≤ R.locals) (hp : PreS s H Pc (.ref b :: As))
    (hn : As.length = n) (hsize : ls.size = nL) (hstack : st0 = As.reverse ++ .ref b :: rest) (hW : (rest.map fun v => v.category).sum ≤ 8) (hdg : decode cc pc = .ok (.invokespecial index, 3)) (hf : cells + mc ≤ R.cells ∧ slots + ms ≤ R.slots) :
    va_Run p l e R s m args below meth c H locs cells slots mc ms (F0 m pc ls st0) rest (Qc (Value.ref b :: As).toArray) free := by
  obtain ⟨y1, y2, y3⟩ := hY
  exact va_runI F hM ⟨callB_of n F.2.2.2.2 (WL_good2 y1) rfl hr.1 hr.2 (F.2.2.2.2 _ y2) (F.2.2.2.2 _ q1) y3 hR, hnm, F.2.2.2.2 _ q2⟩ hp rfl hn hsize hstack (lv_room hW) hdg hf
variable {A0 : Nat → Prop} {pre suf : va_W}
theorem goNv {α : Type} {wf : α → va_W} {post : α → Prop} {aa : Array Value} (hr : va_Run p l e R s m args below meth c H locs cells slots mc ms (F0 m pc ls st0) rest (va_Qv post (QB D wc H.size wf) (va_A wc H.size) aa) (va_A wc H.size))
    (hP : va_P D vwCl (pre ++ (wc ++ suf)) H) (hD : va_D A0 (pre ++ (wc ++ suf))) (hS : va_S A0 H0 H locs) (hA : ∀ q, H0.size ≤ q → A0 q)
    (kk : ∀ (u : α) (H1 : Heap) (locs1 : List Loc), post u → va_P D vwCl (pre ++ (wf u ++ suf)) H1 → va_D A0 (pre ++ (wf u ++ suf)) → va_S A0 H0 H1 locs1 → W p l e R s m args below meth c H1 locs1 (cells + mc) (slots + ms) Q (F0 m (pc + 3) ls rest)) : W p l e R s m args below meth c H locs cells slots Q (F0 m pc ls st0) := by
  have hF := fr_in hD hS hA
  refine va_callv hr hS (fun q _ h => hF q h) hF (fun u t H1 locs1 ht hvm hw hB hz1 hk1 hS1 => ?_)
  obtain ⟨hP1, hD1⟩ := hB
  rw [ht] at hP1
  obtain ⟨hP2, hD2⟩ := jn hP hD hk1 hF hP1 hD1
  exact kk u H1 locs1 hw hP2 hD2 hS1
end KM
def l4 {α : Type} (x0 x1 x2 x3 : α) : Nat → α := fun i => match i with
  | 0 => x0
  | 1 => x1
  | 2 => x2
  | _ => x3
def l9 {α : Type} (x0 x1 x2 x3 x4 x5 x6 x7 x8 : α) : Nat → α := fun i => match i with
  | 0 => x0
  | 1 => x1
  | 2 => x2
  | 3 => x3
  | 4 => x4
  | 5 => x5
  | 6 => x6
  | 7 => x7
  | _ => x8
/-- a new State's rows; a State of ten numbers and nine rows -/
def SZr : Nat → Nat → Int32 := fun k _ => if k = 1 then nI 3 else if k = 14 ∨ k = 15 ∨ k = 17 then -1 else nI 0
def sN (f4 f5 f7 : Nat → Int32) : Nat → Nat → Int32 := fun k => match k with
  | 1 => fun _ => nI 3
  | 14 => f4
  | 15 => f5
  | 17 => f7
  | _ => fun _ => nI 0
theorem sN_cpy {f4 f5 f7 : Nat → Int32} (h4 : ∀ j, j < 24 → f4 j = -1) (h5 : ∀ j, j < 24 → f5 j = -1) (h7 : ∀ j, j < 96 → f7 j = -1) : CPY (sN f4 f5 f7) SZr := by
  intro q hq j hj
  rcases (show q = 14 ∨ q = 15 ∨ q = 17 ∨ q = 1 ∨ (q ≠ 14 ∧ q ≠ 15 ∧ q ≠ 17 ∧ q ≠ 1) by omega) with rfl | rfl | rfl | rfl | ⟨n1, n2, n3, n4⟩
  · exact h4 j hj
  · exact h5 j hj
  · exact h7 j hj
  · rfl
  · unfold SZr
    rw [if_neg n4, if_neg (by omega)]
    unfold sN
    split <;> first | rfl | omega
/-- the reference's first row -/
def w0 : Nat → Int32 := fun k => if k = 463 then nI 3 else if (197 ≤ k ∧ k < 245) ∨ (366 ≤ k ∧ k < 462) then -1 else nI 0
theorem ec_out {x : Int32} (h : ¬ okI x 3) : x.toInt < 0 ∨ 2 < x.toInt := by
  rcases Int.lt_or_le x.toInt 0 with h0 | h0
  · exact Or.inl h0
  · rcases Int.lt_or_le 2 x.toInt with h1 | h1
    · exact Or.inr h1
    · refine absurd ⟨x.toInt.toNat, by omega, ?_⟩ h
      refine Int32.toInt_inj.mp ?_
      rw [nI_toInt (by omega)]
      omega
theorem ring4 {x0 x1 x2 x3 : Nat} : va_up (va_up (va_up (va_up (fun _ => none) 0 (some x0)) 1 (some x1)) 2 (some x2)) 3 (some x3) = rgF (l4 x0 x1 x2 x3) := by
  funext i
  unfold rgF va_up
  rcases (show i = 0 ∨ i = 1 ∨ i = 2 ∨ i = 3 ∨ 4 ≤ i by omega) with rfl | rfl | rfl | rfl | h
  · rfl
  · rfl
  · rfl
  · rfl
  · rw [if_neg (by omega), if_neg (by omega), if_neg (by omega), if_neg (by omega), if_neg (by omega)]
theorem mi_0 (x : Nat) : upd (fun _ => nI 0) 463 (nI 3) x = if x = 463 then nI 3 else if (197 ≤ x ∧ x < 197 + 0) ∨ (221 ≤ x ∧ x < 221 + 0) then -1 else nI 0 := by
  unfold upd
  by_cases h : x = 463
  · rw [if_pos h, if_pos h]
  · rw [if_neg h, if_neg h, if_neg (by omega)]
theorem mi_1 {f : Nat → Int32} {k : Nat} (hk : k < 24) (h : ∀ x, f x = if x = 463 then nI 3 else if (197 ≤ x ∧ x < 197 + k) ∨ (221 ≤ x ∧ x < 221 + k) then -1 else nI 0) (x : Nat) : upd (upd f (197 + k) (-1)) (221 + k) (-1) x = if x = 463 then nI 3 else if (197 ≤ x ∧ x < 197 + (k + 1)) ∨ (221 ≤ x ∧ x < 221 + (k + 1)) then -1 else nI 0 := by
  simp only [upd, h]
  (repeat' split) <;> first | rfl | omega
theorem mi_2 {f : Nat → Int32} {k : Nat} (hk : k = 24) (h : ∀ x, f x = if x = 463 then nI 3 else if (197 ≤ x ∧ x < 197 + k) ∨ (221 ≤ x ∧ x < 221 + k) then -1 else nI 0) (x : Nat) : f x = if x = 463 then nI 3 else if (197 ≤ x ∧ x < 245) ∨ (366 ≤ x ∧ x < 366 + 0) then -1 else nI 0 := by
  rw [h]
  (repeat' split) <;> first | rfl | omega
theorem mi_3 {f : Nat → Int32} {k : Nat} (hk : k < 96) (h : ∀ x, f x = if x = 463 then nI 3 else if (197 ≤ x ∧ x < 245) ∨ (366 ≤ x ∧ x < 366 + k) then -1 else nI 0) (x : Nat) : upd f (366 + k) (-1) x = if x = 463 then nI 3 else if (197 ≤ x ∧ x < 245) ∨ (366 ≤ x ∧ x < 366 + (k + 1)) then -1 else nI 0 := by
  simp only [upd, h]
  (repeat' split) <;> first | rfl | omega
theorem mi_4 {f : Nat → Int32} {k : Nat} (hk : k = 96) (h : ∀ x, f x = if x = 463 then nI 3 else if (197 ≤ x ∧ x < 245) ∨ (366 ≤ x ∧ x < 366 + k) then -1 else nI 0) : f = w0 := by
  funext x
  rw [h]
  unfold w0
  subst hk
  rfl
set_option maxHeartbeats 4000000 in
set_option maxRecDepth 100000 in
theorem c_X2_errorCount (l : Launch) (D : va_G) (cI cO : ClassId) (sz : Nat) (o us rg : Nat) (g : Nat → Nat) (ga : Nat → Nat → Nat) (h : Nat) (a : Nat → Nat) (lb : Nat) (e0 e1 e2 : Int32) (G : Nat → Nat → Nat → Int32) (S : Nat → Nat → Int32) (B : Nat → Int32) (w : Nat → Int32) (c0 : Nat) (hR : RC c0 S w) (x_ z_ : Nat) (hx4 : x_ < 4) (hz : z_ ≤ 4) (hc9 : c0 < 900) (er : Nat → Int32) (hE : ∀ k, k < 3 → er k = l4 e0 e1 e2 e2 k) (x : Int32) : Met l yX2_errorCount (Cond.code yX2_errorCount cX2_errorCount 2 (some .int) :: WL) ({ frames := 1, cells := 0, slots := 0, locals := 20 } : Room) (va_Pc [.ref (o), .int (x)] (PW D cI cO ([(o, .inr (2, [.ref (h), .ref (us), .ref (lb), .int e0, .int e1, .int e2]))] ++ (usS cI cO us rg g ga ((nI (x_))) ((nI (z_))) G ++ (stW cI h a S ++ ([(lb, .inl (cI, 96, .inl B))])))) sz)) (va_Qi (fun (r : Int32) (u : CV) => r = (oEc w er x).1 ∧ nxC c0 x_ z_ (e0, e1, e2) G w (oEc w er x) u) (QB D ([(o, .inr (2, [.ref (h), .ref (us), .ref (lb), .int e0, .int e1, .int e2]))] ++ (usS cI cO us rg g ga ((nI (x_))) ((nI (z_))) G ++ (stW cI h a S ++ ([(lb, .inl (cI, 96, .inl B))])))) sz (fun (u : CV) => cvU cI cO o us rg g ga h a lb u)) (va_A ([(o, .inr (2, [.ref (h), .ref (us), .ref (lb), .int e0, .int e1, .int e2]))] ++ (usS cI cO us rg g ga ((nI (x_))) ((nI (z_))) G ++ (stW cI h a S ++ ([(lb, .inl (cI, 96, .inl B))])))) sz)) 0 0 (va_A ([(o, .inr (2, [.ref (h), .ref (us), .ref (lb), .int e0, .int e1, .int e2]))] ++ (usS cI cO us rg g ga ((nI (x_))) ((nI (z_))) G ++ (stW cI h a S ++ ([(lb, .inl (cI, 96, .inl B))])))) sz) := by
  refine wr_int (by decide) (Nat.le_of_ble_eq_true rfl) ?_
  intro p e s m args below meth c Q ls A F hP hC hD hA hret hl
  have hx := F.1
  have hb := F.2.1
  have hml := F.2.2.1
  have hown := F.2.2.2.1
  have hts := F.2.2.2.2
  replace hl : lv_has ls 2 [(0, .ref (o)), (1, .int (x))] := hl
  have hS : va_S A s.heap s.heap [] := va_S.rf
  have hn4 := hR.wf.n.2
  have hc : c0 < 1000 := by omega
  refine lv_iload_n hx hb dX2_errorCount_0 rfl (lv_at hl 1 rfl) ?_
  have he0 : er 0 = e0 := hE 0 (by decide)
  have he1 : er 1 = e1 := hE 1 (by decide)
  have he2 : er 2 = e2 := hE 2 (by decide)
  by_cases hk : okI x 3
  · obtain ⟨d_, hd3, rfl⟩ := id hk
    have hop0 : oEc w er (nI d_) = (er d_, 0, w) := by unfold oEc; rw [itc_t hk, nv_nI (by omega)]
    rcases (show d_ = 0 ∨ d_ = 1 ∨ d_ = 2 by omega) with rfl | rfl | rfl
    · have hop : oEc w er (nI 0) = (e0, 0, w) := by rw [hop0, he0]
      refine lv_tableIn (tgt := 28) (off := 27) hx hb dX2_errorCount_1 (by decide) (by decide) (by decide) (by decide) ?_
      refine lv_aload_n hx hb dX2_errorCount_28 rfl (lv_at hl 0 rfl) ?_
      refine gt2 hx hb hts hown hC.1 hP 0 rfl 3 (by decide) qw121 rfl dX2_errorCount_29 ?_
      exact hret _ (((e0, e1, e2), S, B, (nI (x_)), (nI (z_)), G)) _ ls _ _ (⟨(congrArg Prod.fst hop).symm, nxC_0 hop hR rfl rfl⟩) hP hD hS dX2_errorCount_32
    · have hop : oEc w er (nI 1) = (e1, 0, w) := by rw [hop0, he1]
      refine lv_tableIn (tgt := 33) (off := 32) hx hb dX2_errorCount_1 (by decide) (by decide) (by decide) (by decide) ?_
      refine lv_aload_n hx hb dX2_errorCount_33 rfl (lv_at hl 0 rfl) ?_
      refine gt2 hx hb hts hown hC.1 hP 0 rfl 4 (by decide) qw122 rfl dX2_errorCount_34 ?_
      exact hret _ (((e0, e1, e2), S, B, (nI (x_)), (nI (z_)), G)) _ ls _ _ (⟨(congrArg Prod.fst hop).symm, nxC_0 hop hR rfl rfl⟩) hP hD hS dX2_errorCount_37
    · have hop : oEc w er (nI 2) = (e2, 0, w) := by rw [hop0, he2]
      refine lv_tableIn (tgt := 38) (off := 37) hx hb dX2_errorCount_1 (by decide) (by decide) (by decide) (by decide) ?_
      refine lv_aload_n hx hb dX2_errorCount_38 rfl (lv_at hl 0 rfl) ?_
      refine gt2 hx hb hts hown hC.1 hP 0 rfl 5 (by decide) qw123 rfl dX2_errorCount_39 ?_
      exact hret _ (((e0, e1, e2), S, B, (nI (x_)), (nI (z_)), G)) _ ls _ _ (⟨(congrArg Prod.fst hop).symm, nxC_0 hop hR rfl rfl⟩) hP hD hS dX2_errorCount_42
  · have hop : oEc w er x = (-2, 2, w) := itc_f hk
    refine lv_tableOut (tgt := 43) hx hb dX2_errorCount_1 (ec_out hk) (by decide) ?_
    refine lv_aload_n hx hb dX2_errorCount_43 rfl (lv_at hl 0 rfl) ?_
    refine goWi (pre := []) (wc := [(o, .inr (2, [.ref (h), .ref (us), .ref (lb), .int e0, .int e1, .int e2]))]) (suf := usS cI cO us rg g ga ((nI (x_))) ((nI (z_))) G ++ (stW cI h a S ++ ([(lb, .inl (cI, 96, .inl B))]))) (kV (As := []) (rest := []) F (c_X2_invalid l D cI cO _ o h us lb e0 e1 e2) ywX2_invalid qw141 qw143 qs0 ⟨rfl, rfl⟩ ⟨Nat.le_of_ble_eq_true rfl, Nat.le_of_ble_eq_true rfl⟩ (preV (preW (va_pl0 hP) hC (va_dl hD)) hC hP (ci := 2) (q0 := 0) rfl rfl rfl) rfl hl.1 rfl (Nat.le_of_ble_eq_true rfl) dX2_errorCount_44 ⟨Nat.zero_le _, Nat.zero_le _⟩) (by simpa only [List.append_assoc, List.nil_append, List.append_nil] using hP) (by simpa only [List.append_assoc, List.nil_append, List.append_nil] using hD) hS hA (fun r_44 e_1 H locs h_44 hP hD hS => ?_)
    replace hP : va_P D vwCl ([(o, .inr (2, [.ref (h), .ref (us), .ref (lb), .int e_1, .int e1, .int e2]))] ++ (usS cI cO us rg g ga ((nI (x_))) ((nI (z_))) G ++ (stW cI h a S ++ ([(lb, .inl (cI, 96, .inl B))])))) H := by simpa only [List.append_assoc, List.nil_append, List.append_nil] using hP
    replace hD : va_D A ([(o, .inr (2, [.ref (h), .ref (us), .ref (lb), .int e_1, .int e1, .int e2]))] ++ (usS cI cO us rg g ga ((nI (x_))) ((nI (z_))) G ++ (stW cI h a S ++ ([(lb, .inl (cI, 96, .inl B))])))) := by simpa only [List.append_assoc, List.nil_append, List.append_nil] using hD
    obtain ⟨h_44, k_44⟩ := h_44
    subst h_44
    exact hret _ (((e_1, e1, e2), S, B, (nI (x_)), (nI (z_)), G)) _ ls _ _ (⟨(congrArg Prod.fst hop).symm, nxC_e (e := 0) hop (by rw [k_44]; rfl) hR rfl rfl⟩) hP hD hS dX2_errorCount_47

set_option maxHeartbeats 4000000 in
set_option maxRecDepth 100000 in
theorem c_J7_fill_53178 (l : Launch) (D : va_G) (cI cO : ClassId) (sz : Nat) (ad n_ : Nat) (f : Nat → Int32) (v : Int32) (hn_ : n_ < 2 ^ 31) : Met l yJ7_fill_53178 (Cond.code yJ7_fill_53178 cJ7_fill_53178 4 none :: WL) ({ frames := 0, cells := 0, slots := 0, locals := 0 } : Room) (va_Pc [.ref (ad), .int (v)] (PW D cI cO ([(ad, .inl (cI, n_, .inl f))]) sz)) (va_Qv (fun (u : Nat → Int32) => ∀ j, j < n_ → u j = v) (QB D ([(ad, .inl (cI, n_, .inl f))]) sz (fun (u : Nat → Int32) => [(ad, .inl (cI, n_, .inl u))])) (va_A ([(ad, .inl (cI, n_, .inl f))]) sz)) 0 0 (va_A ([(ad, .inl (cI, n_, .inl f))]) sz) := by
  refine wr_void (by decide) (Nat.le_of_ble_eq_true rfl) ?_
  intro p e s m args below meth c Q ls A F hP hC hD hA hret hl
  have hx := F.1
  have hb := F.2.1
  have hml := F.2.2.1
  have hown := F.2.2.2.1
  have hts := F.2.2.2.2
  replace hl : lv_has ls 4 [(0, .ref (ad)), (1, .int (v))] := hl
  have hS : va_S A s.heap s.heap [] := va_S.rf
  refine lv_iconst (v := (nI (0))) hx hb dJ7_fill_53178_0 (by decide) ?_
  refine lv_istore_n (lv' := [(2, .int (nI (0))), (0, .ref (ad)), (1, .int (v))]) hx hb dJ7_fill_53178_1 rfl hl (by decide) rfl (fun ls hl => ?_)
  refine lv_aload_n hx hb dJ7_fill_53178_2 rfl (lv_at hl 1 rfl) ?_
  refine va_alen (v := nI n_) hx hb hC.1 hP 0 0 rfl rfl rfl dJ7_fill_53178_3 ?_
  refine lv_istore_n (lv' := [(3, .int (nI (n_))), (2, .int (nI (0))), (0, .ref (ad)), (1, .int (v))]) hx hb dJ7_fill_53178_4 rfl hl (by decide) rfl (fun ls hl => ?_)
  have lp_5 : ∀ (fu_5 : Nat) (k : Nat) (gk : Nat → Int32) (H : Heap) (locs : List Loc) (ls : Array Slot), n_ - k < fu_5 → (k ≤ n_) → (∀ j, j < k → gk j = v) → va_P D vwCl ([(ad, .inl (cI, n_, .inl gk))]) H → va_D A ([(ad, .inl (cI, n_, .inl gk))]) → va_S A s.heap H locs → lv_has ls 4 [(3, .int (nI (n_))), (2, .int (nI (k))), (0, .ref (ad)), (1, .int (v))] → W p l e ({ frames := 0, cells := 0, slots := 0, locals := 0 } : Room) s m args below meth c H locs 0 0 Q (F0 m 5 ls []) := by
    intro fu_5
    induction fu_5 with
    | zero => intro k gk H locs ls hmu_5; exact absurd hmu_5 (Nat.not_lt_zero _)
    | succ fu_5 ih_5 =>
      intro k gk H locs ls hmu_5 hk hg hP hD hS hl
      refine lv_iload_n hx hb dJ7_fill_53178_5 rfl (lv_at hl 1 rfl) ?_
      refine lv_iload_n hx hb dJ7_fill_53178_6 rfl (lv_at hl 0 rfl) ?_
      refine n_icmp_ge (tgt := 20) hx hb dJ7_fill_53178_7 (by decide) (by omega) (by omega) (fun c_7 => ?_) (fun c_7 => ?_)
      · exact hret (gk) _ ls _ _ (fun j hj => hg j (by omega)) hP hD hS dJ7_fill_53178_20
      · refine lv_aload_n hx hb dJ7_fill_53178_10 rfl (lv_at hl 2 rfl) ?_
        refine lv_iload_n hx hb dJ7_fill_53178_11 rfl (lv_at hl 1 rfl) ?_
        refine lv_iload_n hx hb dJ7_fill_53178_12 rfl (lv_at hl 3 rfl) ?_
        refine n_iast hx hb hC.1 hP hD hS 0 0 rfl rfl (by omega) hn_ dJ7_fill_53178_13 (fun H locs hP hD hS => ?_)
        obtain ⟨f_1, hf_1⟩ : ∃ z : Nat → Int32, z = upd gk (k) (v) := ⟨_, rfl⟩
        replace hP : va_P D vwCl ([(ad, .inl (cI, n_, .inl f_1))]) H := by rw [hf_1]; exact hP
        replace hD : va_D A ([(ad, .inl (cI, n_, .inl f_1))]) := by rw [hf_1]; exact hD
        refine n_iinc (a := k) (b := 1) (lv' := [(2, .int (nI (k + 1))), (3, .int (nI (n_))), (0, .ref (ad)), (1, .int (v))]) hx hb dJ7_fill_53178_14 hl (k := 1) rfl rfl (by decide) rfl (fun ls hl => ?_)
        refine lv_goto (tgt := 5) hx hb dJ7_fill_53178_17 (by decide) ?_
        exact ih_5 (k + 1) (f_1) _ _ ls (by omega) (by omega) (fun j hj => by rw [hf_1]; exact if h9 : j = k then (by rw [h9, upd_eq]) else (by rw [pk_un h9]; exact hg j (by omega))) hP hD hS (lv_sub hl [1, 0, 2, 3] rfl)
  exact lp_5 _ (0) (f) _ _ ls (Nat.lt_succ_self _) (Nat.zero_le _) (fun j hj => absurd hj (by omega)) hP hD hS (lv_sub hl [0, 1, 2, 3] rfl)

set_option maxHeartbeats 4000000 in
set_option maxRecDepth 100000 in
theorem c_X0_init (l : Launch) (D : va_G) (cI cO : ClassId) (sz : Nat) (h : Nat) : Met l yX0_init (Cond.code yX0_init cX0_init 1 none :: WL) ({ frames := 1, cells := 9, slots := 448, locals := 23 } : Room) (va_Pc [.ref (h)] (PN D cI cO ([(h, .inr (0, [.int (nI (0)), .int (nI (0)), .int (nI (0)), .int (nI (0)), .int (nI (0)), .int (nI (0)), .int (nI (0)), .int (nI (0)), .int (nI (0)), .int (nI (0)), .null, .null, .null, .null, .null, .null, .null, .null, .null]))]) sz)) (va_Qv (fun (u : (Nat → Nat) × (Nat → Nat → Int32)) => CPY u.2 SZr) (QB D ([(h, .inr (0, [.int (nI (0)), .int (nI (0)), .int (nI (0)), .int (nI (0)), .int (nI (0)), .int (nI (0)), .int (nI (0)), .int (nI (0)), .int (nI (0)), .int (nI (0)), .null, .null, .null, .null, .null, .null, .null, .null, .null]))]) sz (fun (u : (Nat → Nat) × (Nat → Nat → Int32)) => stW cI h u.1 u.2)) (va_A ([(h, .inr (0, [.int (nI (0)), .int (nI (0)), .int (nI (0)), .int (nI (0)), .int (nI (0)), .int (nI (0)), .int (nI (0)), .int (nI (0)), .int (nI (0)), .int (nI (0)), .null, .null, .null, .null, .null, .null, .null, .null, .null]))]) sz)) 9 448 (va_A ([(h, .inr (0, [.int (nI (0)), .int (nI (0)), .int (nI (0)), .int (nI (0)), .int (nI (0)), .int (nI (0)), .int (nI (0)), .int (nI (0)), .int (nI (0)), .int (nI (0)), .null, .null, .null, .null, .null, .null, .null, .null, .null]))]) sz) := by
  refine wn_void (by decide) rfl (Nat.le_of_ble_eq_true rfl) ?_
  intro p e s m args below meth c Q ls A F hin hP hC hO hD hA hret hl
  have hx := F.1
  have hb := F.2.1
  have hml := F.2.2.1
  have hown := F.2.2.2.1
  have hts := F.2.2.2.2
  replace hl : lv_has ls 1 [(0, .ref (h))] := hl
  have hS : va_S A s.heap s.heap [] := va_S.rf
  refine lv_aload_n hx hb dX0_init_0 rfl (lv_at hl 0 rfl) ?_
  refine W.objInit hx hb hown (hts _ qw22) (hts _ qw15) (hts _ qw16) rfl (by rw [hml]; exact hl.1) rfl dX0_init_1 (Nat.le_of_ble_eq_true rfl) (Nat.le_of_ble_eq_true rfl) ?_
  refine W.eq (g2 := F0 m 4 ls []) rfl ?_
  refine lv_aload_n hx hb dX0_init_4 rfl (lv_at hl 0 rfl) ?_
  refine lv_iconst (v := (nI (3))) hx hb dX0_init_5 (by decide) ?_
  refine pt0 (ty := .int) hx hb hts hown hC.1 hP hD hS 0 rfl 1 (by decide) qw28 rfl (by decide +kernel) rfl rfl (Nat.le_of_ble_eq_true rfl) dX0_init_6 (fun H locs hP hD hS => ?_)
  replace hP : va_P D vwCl ([(h, .inr (0, [.int (nI (0)), .int (nI (3)), .int (nI (0)), .int (nI (0)), .int (nI (0)), .int (nI (0)), .int (nI (0)), .int (nI (0)), .int (nI (0)), .int (nI (0)), .null, .null, .null, .null, .null, .null, .null, .null, .null]))]) H := by exact hP
  replace hD : va_D A ([(h, .inr (0, [.int (nI (0)), .int (nI (3)), .int (nI (0)), .int (nI (0)), .int (nI (0)), .int (nI (0)), .int (nI (0)), .int (nI (0)), .int (nI (0)), .int (nI (0)), .null, .null, .null, .null, .null, .null, .null, .null, .null]))]) := by exact hD
  refine lv_aload_n hx hb dX0_init_9 rfl (lv_at hl 0 rfl) ?_
  refine lv_iconst (v := (nI (4))) hx hb dX0_init_10 (by decide) ?_
  refine nw_int hx hb hts hC hP hD hS hA (by decide) (Nat.le_of_ble_eq_true rfl) (Nat.le_of_ble_eq_true rfl) dX0_init_11 (fun q_11 H hP hD hS => ?_)
  refine W.widen (k := 1) (n := 4) (Nat.le_of_ble_eq_true rfl) (Nat.le_of_ble_eq_true rfl) ?_
  replace hP : va_P D vwCl ([(h, .inr (0, [.int (nI (0)), .int (nI (3)), .int (nI (0)), .int (nI (0)), .int (nI (0)), .int (nI (0)), .int (nI (0)), .int (nI (0)), .int (nI (0)), .int (nI (0)), .null, .null, .null, .null, .null, .null, .null, .null, .null]))] ++ ([(q_11, .inl (cI, 4, .inl (fun _ => nI 0)))])) H := by simpa only [List.append_assoc, List.nil_append, List.append_nil] using hP
  replace hD : va_D A ([(h, .inr (0, [.int (nI (0)), .int (nI (3)), .int (nI (0)), .int (nI (0)), .int (nI (0)), .int (nI (0)), .int (nI (0)), .int (nI (0)), .int (nI (0)), .int (nI (0)), .null, .null, .null, .null, .null, .null, .null, .null, .null]))] ++ ([(q_11, .inl (cI, 4, .inl (fun _ => nI 0)))])) := by simpa only [List.append_assoc, List.nil_append, List.append_nil] using hD
  refine ptF0 hx hb hts hown hC hP hD hS hin 0 rfl 10 (by decide) qw45 rfl rfl rfl rfl (Nat.le_of_ble_eq_true rfl) dX0_init_13 (fun H locs hP hD hS => ?_)
  replace hP : va_P D vwCl ([(h, .inr (0, [.int (nI (0)), .int (nI (3)), .int (nI (0)), .int (nI (0)), .int (nI (0)), .int (nI (0)), .int (nI (0)), .int (nI (0)), .int (nI (0)), .int (nI (0)), .ref (q_11), .null, .null, .null, .null, .null, .null, .null, .null]))] ++ ([(q_11, .inl (cI, 4, .inl (fun _ => nI 0)))])) H := by exact hP
  replace hD : va_D A ([(h, .inr (0, [.int (nI (0)), .int (nI (3)), .int (nI (0)), .int (nI (0)), .int (nI (0)), .int (nI (0)), .int (nI (0)), .int (nI (0)), .int (nI (0)), .int (nI (0)), .ref (q_11), .null, .null, .null, .null, .null, .null, .null, .null]))] ++ ([(q_11, .inl (cI, 4, .inl (fun _ => nI 0)))])) := by exact hD
  refine lv_aload_n hx hb dX0_init_16 rfl (lv_at hl 0 rfl) ?_
  refine lv_iconst (v := (nI (4))) hx hb dX0_init_17 (by decide) ?_
  refine nw_int hx hb hts hC hP hD hS hA (by decide) (Nat.le_of_ble_eq_true rfl) (Nat.le_of_ble_eq_true rfl) dX0_init_18 (fun q_18 H hP hD hS => ?_)
  refine W.widen (k := 2) (n := 8) (Nat.le_of_ble_eq_true rfl) (Nat.le_of_ble_eq_true rfl) ?_
  replace hP : va_P D vwCl ([(h, .inr (0, [.int (nI (0)), .int (nI (3)), .int (nI (0)), .int (nI (0)), .int (nI (0)), .int (nI (0)), .int (nI (0)), .int (nI (0)), .int (nI (0)), .int (nI (0)), .ref (q_11), .null, .null, .null, .null, .null, .null, .null, .null]))] ++ ([(q_11, .inl (cI, 4, .inl (fun _ => nI 0)))] ++ ([(q_18, .inl (cI, 4, .inl (fun _ => nI 0)))]))) H := by simpa only [List.append_assoc, List.nil_append, List.append_nil] using hP
  replace hD : va_D A ([(h, .inr (0, [.int (nI (0)), .int (nI (3)), .int (nI (0)), .int (nI (0)), .int (nI (0)), .int (nI (0)), .int (nI (0)), .int (nI (0)), .int (nI (0)), .int (nI (0)), .ref (q_11), .null, .null, .null, .null, .null, .null, .null, .null]))] ++ ([(q_11, .inl (cI, 4, .inl (fun _ => nI 0)))] ++ ([(q_18, .inl (cI, 4, .inl (fun _ => nI 0)))]))) := by simpa only [List.append_assoc, List.nil_append, List.append_nil] using hD
  refine ptF0 hx hb hts hown hC hP hD hS hin 0 rfl 11 (by decide) qw46 rfl rfl rfl rfl (Nat.le_of_ble_eq_true rfl) dX0_init_20 (fun H locs hP hD hS => ?_)
  replace hP : va_P D vwCl ([(h, .inr (0, [.int (nI (0)), .int (nI (3)), .int (nI (0)), .int (nI (0)), .int (nI (0)), .int (nI (0)), .int (nI (0)), .int (nI (0)), .int (nI (0)), .int (nI (0)), .ref (q_11), .ref (q_18), .null, .null, .null, .null, .null, .null, .null]))] ++ ([(q_11, .inl (cI, 4, .inl (fun _ => nI 0)))] ++ ([(q_18, .inl (cI, 4, .inl (fun _ => nI 0)))]))) H := by exact hP
  replace hD : va_D A ([(h, .inr (0, [.int (nI (0)), .int (nI (3)), .int (nI (0)), .int (nI (0)), .int (nI (0)), .int (nI (0)), .int (nI (0)), .int (nI (0)), .int (nI (0)), .int (nI (0)), .ref (q_11), .ref (q_18), .null, .null, .null, .null, .null, .null, .null]))] ++ ([(q_11, .inl (cI, 4, .inl (fun _ => nI 0)))] ++ ([(q_18, .inl (cI, 4, .inl (fun _ => nI 0)))]))) := by exact hD
  refine lv_aload_n hx hb dX0_init_23 rfl (lv_at hl 0 rfl) ?_
  refine lv_bipush (v := (nI (16))) hx hb dX0_init_24 (by decide) ?_
  refine nw_int hx hb hts hC hP hD hS hA (by decide) (Nat.le_of_ble_eq_true rfl) (Nat.le_of_ble_eq_true rfl) dX0_init_26 (fun q_26 H hP hD hS => ?_)
  refine W.widen (k := 3) (n := 24) (Nat.le_of_ble_eq_true rfl) (Nat.le_of_ble_eq_true rfl) ?_
  replace hP : va_P D vwCl ([(h, .inr (0, [.int (nI (0)), .int (nI (3)), .int (nI (0)), .int (nI (0)), .int (nI (0)), .int (nI (0)), .int (nI (0)), .int (nI (0)), .int (nI (0)), .int (nI (0)), .ref (q_11), .ref (q_18), .null, .null, .null, .null, .null, .null, .null]))] ++ ([(q_11, .inl (cI, 4, .inl (fun _ => nI 0)))] ++ ([(q_18, .inl (cI, 4, .inl (fun _ => nI 0)))] ++ ([(q_26, .inl (cI, 16, .inl (fun _ => nI 0)))])))) H := by simpa only [List.append_assoc, List.nil_append, List.append_nil] using hP
  replace hD : va_D A ([(h, .inr (0, [.int (nI (0)), .int (nI (3)), .int (nI (0)), .int (nI (0)), .int (nI (0)), .int (nI (0)), .int (nI (0)), .int (nI (0)), .int (nI (0)), .int (nI (0)), .ref (q_11), .ref (q_18), .null, .null, .null, .null, .null, .null, .null]))] ++ ([(q_11, .inl (cI, 4, .inl (fun _ => nI 0)))] ++ ([(q_18, .inl (cI, 4, .inl (fun _ => nI 0)))] ++ ([(q_26, .inl (cI, 16, .inl (fun _ => nI 0)))])))) := by simpa only [List.append_assoc, List.nil_append, List.append_nil] using hD
  refine ptF0 hx hb hts hown hC hP hD hS hin 0 rfl 12 (by decide) qw47 rfl rfl rfl rfl (Nat.le_of_ble_eq_true rfl) dX0_init_28 (fun H locs hP hD hS => ?_)
  replace hP : va_P D vwCl ([(h, .inr (0, [.int (nI (0)), .int (nI (3)), .int (nI (0)), .int (nI (0)), .int (nI (0)), .int (nI (0)), .int (nI (0)), .int (nI (0)), .int (nI (0)), .int (nI (0)), .ref (q_11), .ref (q_18), .ref (q_26), .null, .null, .null, .null, .null, .null]))] ++ ([(q_11, .inl (cI, 4, .inl (fun _ => nI 0)))] ++ ([(q_18, .inl (cI, 4, .inl (fun _ => nI 0)))] ++ ([(q_26, .inl (cI, 16, .inl (fun _ => nI 0)))])))) H := by exact hP
  replace hD : va_D A ([(h, .inr (0, [.int (nI (0)), .int (nI (3)), .int (nI (0)), .int (nI (0)), .int (nI (0)), .int (nI (0)), .int (nI (0)), .int (nI (0)), .int (nI (0)), .int (nI (0)), .ref (q_11), .ref (q_18), .ref (q_26), .null, .null, .null, .null, .null, .null]))] ++ ([(q_11, .inl (cI, 4, .inl (fun _ => nI 0)))] ++ ([(q_18, .inl (cI, 4, .inl (fun _ => nI 0)))] ++ ([(q_26, .inl (cI, 16, .inl (fun _ => nI 0)))])))) := by exact hD
  refine lv_aload_n hx hb dX0_init_31 rfl (lv_at hl 0 rfl) ?_
  refine lv_sipush (v := (nI (160))) hx hb dX0_init_32 (by decide) ?_
  refine nw_int hx hb hts hC hP hD hS hA (by decide) (Nat.le_of_ble_eq_true rfl) (Nat.le_of_ble_eq_true rfl) dX0_init_35 (fun q_35 H hP hD hS => ?_)
  refine W.widen (k := 4) (n := 184) (Nat.le_of_ble_eq_true rfl) (Nat.le_of_ble_eq_true rfl) ?_
  replace hP : va_P D vwCl ([(h, .inr (0, [.int (nI (0)), .int (nI (3)), .int (nI (0)), .int (nI (0)), .int (nI (0)), .int (nI (0)), .int (nI (0)), .int (nI (0)), .int (nI (0)), .int (nI (0)), .ref (q_11), .ref (q_18), .ref (q_26), .null, .null, .null, .null, .null, .null]))] ++ ([(q_11, .inl (cI, 4, .inl (fun _ => nI 0)))] ++ ([(q_18, .inl (cI, 4, .inl (fun _ => nI 0)))] ++ ([(q_26, .inl (cI, 16, .inl (fun _ => nI 0)))] ++ ([(q_35, .inl (cI, 160, .inl (fun _ => nI 0)))]))))) H := by simpa only [List.append_assoc, List.nil_append, List.append_nil] using hP
  replace hD : va_D A ([(h, .inr (0, [.int (nI (0)), .int (nI (3)), .int (nI (0)), .int (nI (0)), .int (nI (0)), .int (nI (0)), .int (nI (0)), .int (nI (0)), .int (nI (0)), .int (nI (0)), .ref (q_11), .ref (q_18), .ref (q_26), .null, .null, .null, .null, .null, .null]))] ++ ([(q_11, .inl (cI, 4, .inl (fun _ => nI 0)))] ++ ([(q_18, .inl (cI, 4, .inl (fun _ => nI 0)))] ++ ([(q_26, .inl (cI, 16, .inl (fun _ => nI 0)))] ++ ([(q_35, .inl (cI, 160, .inl (fun _ => nI 0)))]))))) := by simpa only [List.append_assoc, List.nil_append, List.append_nil] using hD
  refine ptF0 hx hb hts hown hC hP hD hS hin 0 rfl 13 (by decide) qw49 rfl rfl rfl rfl (Nat.le_of_ble_eq_true rfl) dX0_init_37 (fun H locs hP hD hS => ?_)
  replace hP : va_P D vwCl ([(h, .inr (0, [.int (nI (0)), .int (nI (3)), .int (nI (0)), .int (nI (0)), .int (nI (0)), .int (nI (0)), .int (nI (0)), .int (nI (0)), .int (nI (0)), .int (nI (0)), .ref (q_11), .ref (q_18), .ref (q_26), .ref (q_35), .null, .null, .null, .null, .null]))] ++ ([(q_11, .inl (cI, 4, .inl (fun _ => nI 0)))] ++ ([(q_18, .inl (cI, 4, .inl (fun _ => nI 0)))] ++ ([(q_26, .inl (cI, 16, .inl (fun _ => nI 0)))] ++ ([(q_35, .inl (cI, 160, .inl (fun _ => nI 0)))]))))) H := by exact hP
  replace hD : va_D A ([(h, .inr (0, [.int (nI (0)), .int (nI (3)), .int (nI (0)), .int (nI (0)), .int (nI (0)), .int (nI (0)), .int (nI (0)), .int (nI (0)), .int (nI (0)), .int (nI (0)), .ref (q_11), .ref (q_18), .ref (q_26), .ref (q_35), .null, .null, .null, .null, .null]))] ++ ([(q_11, .inl (cI, 4, .inl (fun _ => nI 0)))] ++ ([(q_18, .inl (cI, 4, .inl (fun _ => nI 0)))] ++ ([(q_26, .inl (cI, 16, .inl (fun _ => nI 0)))] ++ ([(q_35, .inl (cI, 160, .inl (fun _ => nI 0)))]))))) := by exact hD
  refine lv_aload_n hx hb dX0_init_40 rfl (lv_at hl 0 rfl) ?_
  refine lv_bipush (v := (nI (24))) hx hb dX0_init_41 (by decide) ?_
  refine nw_int hx hb hts hC hP hD hS hA (by decide) (Nat.le_of_ble_eq_true rfl) (Nat.le_of_ble_eq_true rfl) dX0_init_43 (fun q_43 H hP hD hS => ?_)
  refine W.widen (k := 5) (n := 208) (Nat.le_of_ble_eq_true rfl) (Nat.le_of_ble_eq_true rfl) ?_
  replace hP : va_P D vwCl ([(h, .inr (0, [.int (nI (0)), .int (nI (3)), .int (nI (0)), .int (nI (0)), .int (nI (0)), .int (nI (0)), .int (nI (0)), .int (nI (0)), .int (nI (0)), .int (nI (0)), .ref (q_11), .ref (q_18), .ref (q_26), .ref (q_35), .null, .null, .null, .null, .null]))] ++ ([(q_11, .inl (cI, 4, .inl (fun _ => nI 0)))] ++ ([(q_18, .inl (cI, 4, .inl (fun _ => nI 0)))] ++ ([(q_26, .inl (cI, 16, .inl (fun _ => nI 0)))] ++ ([(q_35, .inl (cI, 160, .inl (fun _ => nI 0)))] ++ ([(q_43, .inl (cI, 24, .inl (fun _ => nI 0)))])))))) H := by simpa only [List.append_assoc, List.nil_append, List.append_nil] using hP
  replace hD : va_D A ([(h, .inr (0, [.int (nI (0)), .int (nI (3)), .int (nI (0)), .int (nI (0)), .int (nI (0)), .int (nI (0)), .int (nI (0)), .int (nI (0)), .int (nI (0)), .int (nI (0)), .ref (q_11), .ref (q_18), .ref (q_26), .ref (q_35), .null, .null, .null, .null, .null]))] ++ ([(q_11, .inl (cI, 4, .inl (fun _ => nI 0)))] ++ ([(q_18, .inl (cI, 4, .inl (fun _ => nI 0)))] ++ ([(q_26, .inl (cI, 16, .inl (fun _ => nI 0)))] ++ ([(q_35, .inl (cI, 160, .inl (fun _ => nI 0)))] ++ ([(q_43, .inl (cI, 24, .inl (fun _ => nI 0)))])))))) := by simpa only [List.append_assoc, List.nil_append, List.append_nil] using hD
  refine ptF0 hx hb hts hown hC hP hD hS hin 0 rfl 14 (by decide) qw51 rfl rfl rfl rfl (Nat.le_of_ble_eq_true rfl) dX0_init_45 (fun H locs hP hD hS => ?_)
  replace hP : va_P D vwCl ([(h, .inr (0, [.int (nI (0)), .int (nI (3)), .int (nI (0)), .int (nI (0)), .int (nI (0)), .int (nI (0)), .int (nI (0)), .int (nI (0)), .int (nI (0)), .int (nI (0)), .ref (q_11), .ref (q_18), .ref (q_26), .ref (q_35), .ref (q_43), .null, .null, .null, .null]))] ++ ([(q_11, .inl (cI, 4, .inl (fun _ => nI 0)))] ++ ([(q_18, .inl (cI, 4, .inl (fun _ => nI 0)))] ++ ([(q_26, .inl (cI, 16, .inl (fun _ => nI 0)))] ++ ([(q_35, .inl (cI, 160, .inl (fun _ => nI 0)))] ++ ([(q_43, .inl (cI, 24, .inl (fun _ => nI 0)))])))))) H := by exact hP
  replace hD : va_D A ([(h, .inr (0, [.int (nI (0)), .int (nI (3)), .int (nI (0)), .int (nI (0)), .int (nI (0)), .int (nI (0)), .int (nI (0)), .int (nI (0)), .int (nI (0)), .int (nI (0)), .ref (q_11), .ref (q_18), .ref (q_26), .ref (q_35), .ref (q_43), .null, .null, .null, .null]))] ++ ([(q_11, .inl (cI, 4, .inl (fun _ => nI 0)))] ++ ([(q_18, .inl (cI, 4, .inl (fun _ => nI 0)))] ++ ([(q_26, .inl (cI, 16, .inl (fun _ => nI 0)))] ++ ([(q_35, .inl (cI, 160, .inl (fun _ => nI 0)))] ++ ([(q_43, .inl (cI, 24, .inl (fun _ => nI 0)))])))))) := by exact hD
  refine lv_aload_n hx hb dX0_init_48 rfl (lv_at hl 0 rfl) ?_
  refine lv_bipush (v := (nI (24))) hx hb dX0_init_49 (by decide) ?_
  refine nw_int hx hb hts hC hP hD hS hA (by decide) (Nat.le_of_ble_eq_true rfl) (Nat.le_of_ble_eq_true rfl) dX0_init_51 (fun q_51 H hP hD hS => ?_)
  refine W.widen (k := 6) (n := 232) (Nat.le_of_ble_eq_true rfl) (Nat.le_of_ble_eq_true rfl) ?_
  replace hP : va_P D vwCl ([(h, .inr (0, [.int (nI (0)), .int (nI (3)), .int (nI (0)), .int (nI (0)), .int (nI (0)), .int (nI (0)), .int (nI (0)), .int (nI (0)), .int (nI (0)), .int (nI (0)), .ref (q_11), .ref (q_18), .ref (q_26), .ref (q_35), .ref (q_43), .null, .null, .null, .null]))] ++ ([(q_11, .inl (cI, 4, .inl (fun _ => nI 0)))] ++ ([(q_18, .inl (cI, 4, .inl (fun _ => nI 0)))] ++ ([(q_26, .inl (cI, 16, .inl (fun _ => nI 0)))] ++ ([(q_35, .inl (cI, 160, .inl (fun _ => nI 0)))] ++ ([(q_43, .inl (cI, 24, .inl (fun _ => nI 0)))] ++ ([(q_51, .inl (cI, 24, .inl (fun _ => nI 0)))]))))))) H := by simpa only [List.append_assoc, List.nil_append, List.append_nil] using hP
  replace hD : va_D A ([(h, .inr (0, [.int (nI (0)), .int (nI (3)), .int (nI (0)), .int (nI (0)), .int (nI (0)), .int (nI (0)), .int (nI (0)), .int (nI (0)), .int (nI (0)), .int (nI (0)), .ref (q_11), .ref (q_18), .ref (q_26), .ref (q_35), .ref (q_43), .null, .null, .null, .null]))] ++ ([(q_11, .inl (cI, 4, .inl (fun _ => nI 0)))] ++ ([(q_18, .inl (cI, 4, .inl (fun _ => nI 0)))] ++ ([(q_26, .inl (cI, 16, .inl (fun _ => nI 0)))] ++ ([(q_35, .inl (cI, 160, .inl (fun _ => nI 0)))] ++ ([(q_43, .inl (cI, 24, .inl (fun _ => nI 0)))] ++ ([(q_51, .inl (cI, 24, .inl (fun _ => nI 0)))]))))))) := by simpa only [List.append_assoc, List.nil_append, List.append_nil] using hD
  refine ptF0 hx hb hts hown hC hP hD hS hin 0 rfl 15 (by decide) qw53 rfl rfl rfl rfl (Nat.le_of_ble_eq_true rfl) dX0_init_53 (fun H locs hP hD hS => ?_)
  replace hP : va_P D vwCl ([(h, .inr (0, [.int (nI (0)), .int (nI (3)), .int (nI (0)), .int (nI (0)), .int (nI (0)), .int (nI (0)), .int (nI (0)), .int (nI (0)), .int (nI (0)), .int (nI (0)), .ref (q_11), .ref (q_18), .ref (q_26), .ref (q_35), .ref (q_43), .ref (q_51), .null, .null, .null]))] ++ ([(q_11, .inl (cI, 4, .inl (fun _ => nI 0)))] ++ ([(q_18, .inl (cI, 4, .inl (fun _ => nI 0)))] ++ ([(q_26, .inl (cI, 16, .inl (fun _ => nI 0)))] ++ ([(q_35, .inl (cI, 160, .inl (fun _ => nI 0)))] ++ ([(q_43, .inl (cI, 24, .inl (fun _ => nI 0)))] ++ ([(q_51, .inl (cI, 24, .inl (fun _ => nI 0)))]))))))) H := by exact hP
  replace hD : va_D A ([(h, .inr (0, [.int (nI (0)), .int (nI (3)), .int (nI (0)), .int (nI (0)), .int (nI (0)), .int (nI (0)), .int (nI (0)), .int (nI (0)), .int (nI (0)), .int (nI (0)), .ref (q_11), .ref (q_18), .ref (q_26), .ref (q_35), .ref (q_43), .ref (q_51), .null, .null, .null]))] ++ ([(q_11, .inl (cI, 4, .inl (fun _ => nI 0)))] ++ ([(q_18, .inl (cI, 4, .inl (fun _ => nI 0)))] ++ ([(q_26, .inl (cI, 16, .inl (fun _ => nI 0)))] ++ ([(q_35, .inl (cI, 160, .inl (fun _ => nI 0)))] ++ ([(q_43, .inl (cI, 24, .inl (fun _ => nI 0)))] ++ ([(q_51, .inl (cI, 24, .inl (fun _ => nI 0)))]))))))) := by exact hD
  refine lv_aload_n hx hb dX0_init_56 rfl (lv_at hl 0 rfl) ?_
  refine lv_bipush (v := (nI (96))) hx hb dX0_init_57 (by decide) ?_
  refine nw_int hx hb hts hC hP hD hS hA (by decide) (Nat.le_of_ble_eq_true rfl) (Nat.le_of_ble_eq_true rfl) dX0_init_59 (fun q_59 H hP hD hS => ?_)
  refine W.widen (k := 7) (n := 328) (Nat.le_of_ble_eq_true rfl) (Nat.le_of_ble_eq_true rfl) ?_
  replace hP : va_P D vwCl ([(h, .inr (0, [.int (nI (0)), .int (nI (3)), .int (nI (0)), .int (nI (0)), .int (nI (0)), .int (nI (0)), .int (nI (0)), .int (nI (0)), .int (nI (0)), .int (nI (0)), .ref (q_11), .ref (q_18), .ref (q_26), .ref (q_35), .ref (q_43), .ref (q_51), .null, .null, .null]))] ++ ([(q_11, .inl (cI, 4, .inl (fun _ => nI 0)))] ++ ([(q_18, .inl (cI, 4, .inl (fun _ => nI 0)))] ++ ([(q_26, .inl (cI, 16, .inl (fun _ => nI 0)))] ++ ([(q_35, .inl (cI, 160, .inl (fun _ => nI 0)))] ++ ([(q_43, .inl (cI, 24, .inl (fun _ => nI 0)))] ++ ([(q_51, .inl (cI, 24, .inl (fun _ => nI 0)))] ++ ([(q_59, .inl (cI, 96, .inl (fun _ => nI 0)))])))))))) H := by simpa only [List.append_assoc, List.nil_append, List.append_nil] using hP
  replace hD : va_D A ([(h, .inr (0, [.int (nI (0)), .int (nI (3)), .int (nI (0)), .int (nI (0)), .int (nI (0)), .int (nI (0)), .int (nI (0)), .int (nI (0)), .int (nI (0)), .int (nI (0)), .ref (q_11), .ref (q_18), .ref (q_26), .ref (q_35), .ref (q_43), .ref (q_51), .null, .null, .null]))] ++ ([(q_11, .inl (cI, 4, .inl (fun _ => nI 0)))] ++ ([(q_18, .inl (cI, 4, .inl (fun _ => nI 0)))] ++ ([(q_26, .inl (cI, 16, .inl (fun _ => nI 0)))] ++ ([(q_35, .inl (cI, 160, .inl (fun _ => nI 0)))] ++ ([(q_43, .inl (cI, 24, .inl (fun _ => nI 0)))] ++ ([(q_51, .inl (cI, 24, .inl (fun _ => nI 0)))] ++ ([(q_59, .inl (cI, 96, .inl (fun _ => nI 0)))])))))))) := by simpa only [List.append_assoc, List.nil_append, List.append_nil] using hD
  refine ptF0 hx hb hts hown hC hP hD hS hin 0 rfl 16 (by decide) qw55 rfl rfl rfl rfl (Nat.le_of_ble_eq_true rfl) dX0_init_61 (fun H locs hP hD hS => ?_)
  replace hP : va_P D vwCl ([(h, .inr (0, [.int (nI (0)), .int (nI (3)), .int (nI (0)), .int (nI (0)), .int (nI (0)), .int (nI (0)), .int (nI (0)), .int (nI (0)), .int (nI (0)), .int (nI (0)), .ref (q_11), .ref (q_18), .ref (q_26), .ref (q_35), .ref (q_43), .ref (q_51), .ref (q_59), .null, .null]))] ++ ([(q_11, .inl (cI, 4, .inl (fun _ => nI 0)))] ++ ([(q_18, .inl (cI, 4, .inl (fun _ => nI 0)))] ++ ([(q_26, .inl (cI, 16, .inl (fun _ => nI 0)))] ++ ([(q_35, .inl (cI, 160, .inl (fun _ => nI 0)))] ++ ([(q_43, .inl (cI, 24, .inl (fun _ => nI 0)))] ++ ([(q_51, .inl (cI, 24, .inl (fun _ => nI 0)))] ++ ([(q_59, .inl (cI, 96, .inl (fun _ => nI 0)))])))))))) H := by exact hP
  replace hD : va_D A ([(h, .inr (0, [.int (nI (0)), .int (nI (3)), .int (nI (0)), .int (nI (0)), .int (nI (0)), .int (nI (0)), .int (nI (0)), .int (nI (0)), .int (nI (0)), .int (nI (0)), .ref (q_11), .ref (q_18), .ref (q_26), .ref (q_35), .ref (q_43), .ref (q_51), .ref (q_59), .null, .null]))] ++ ([(q_11, .inl (cI, 4, .inl (fun _ => nI 0)))] ++ ([(q_18, .inl (cI, 4, .inl (fun _ => nI 0)))] ++ ([(q_26, .inl (cI, 16, .inl (fun _ => nI 0)))] ++ ([(q_35, .inl (cI, 160, .inl (fun _ => nI 0)))] ++ ([(q_43, .inl (cI, 24, .inl (fun _ => nI 0)))] ++ ([(q_51, .inl (cI, 24, .inl (fun _ => nI 0)))] ++ ([(q_59, .inl (cI, 96, .inl (fun _ => nI 0)))])))))))) := by exact hD
  refine lv_aload_n hx hb dX0_init_64 rfl (lv_at hl 0 rfl) ?_
  refine lv_bipush (v := (nI (96))) hx hb dX0_init_65 (by decide) ?_
  refine nw_int hx hb hts hC hP hD hS hA (by decide) (Nat.le_of_ble_eq_true rfl) (Nat.le_of_ble_eq_true rfl) dX0_init_67 (fun q_67 H hP hD hS => ?_)
  refine W.widen (k := 8) (n := 424) (Nat.le_of_ble_eq_true rfl) (Nat.le_of_ble_eq_true rfl) ?_
  replace hP : va_P D vwCl ([(h, .inr (0, [.int (nI (0)), .int (nI (3)), .int (nI (0)), .int (nI (0)), .int (nI (0)), .int (nI (0)), .int (nI (0)), .int (nI (0)), .int (nI (0)), .int (nI (0)), .ref (q_11), .ref (q_18), .ref (q_26), .ref (q_35), .ref (q_43), .ref (q_51), .ref (q_59), .null, .null]))] ++ ([(q_11, .inl (cI, 4, .inl (fun _ => nI 0)))] ++ ([(q_18, .inl (cI, 4, .inl (fun _ => nI 0)))] ++ ([(q_26, .inl (cI, 16, .inl (fun _ => nI 0)))] ++ ([(q_35, .inl (cI, 160, .inl (fun _ => nI 0)))] ++ ([(q_43, .inl (cI, 24, .inl (fun _ => nI 0)))] ++ ([(q_51, .inl (cI, 24, .inl (fun _ => nI 0)))] ++ ([(q_59, .inl (cI, 96, .inl (fun _ => nI 0)))] ++ ([(q_67, .inl (cI, 96, .inl (fun _ => nI 0)))]))))))))) H := by simpa only [List.append_assoc, List.nil_append, List.append_nil] using hP
  replace hD : va_D A ([(h, .inr (0, [.int (nI (0)), .int (nI (3)), .int (nI (0)), .int (nI (0)), .int (nI (0)), .int (nI (0)), .int (nI (0)), .int (nI (0)), .int (nI (0)), .int (nI (0)), .ref (q_11), .ref (q_18), .ref (q_26), .ref (q_35), .ref (q_43), .ref (q_51), .ref (q_59), .null, .null]))] ++ ([(q_11, .inl (cI, 4, .inl (fun _ => nI 0)))] ++ ([(q_18, .inl (cI, 4, .inl (fun _ => nI 0)))] ++ ([(q_26, .inl (cI, 16, .inl (fun _ => nI 0)))] ++ ([(q_35, .inl (cI, 160, .inl (fun _ => nI 0)))] ++ ([(q_43, .inl (cI, 24, .inl (fun _ => nI 0)))] ++ ([(q_51, .inl (cI, 24, .inl (fun _ => nI 0)))] ++ ([(q_59, .inl (cI, 96, .inl (fun _ => nI 0)))] ++ ([(q_67, .inl (cI, 96, .inl (fun _ => nI 0)))]))))))))) := by simpa only [List.append_assoc, List.nil_append, List.append_nil] using hD
  refine ptF0 hx hb hts hown hC hP hD hS hin 0 rfl 17 (by decide) qw56 rfl rfl rfl rfl (Nat.le_of_ble_eq_true rfl) dX0_init_69 (fun H locs hP hD hS => ?_)
  replace hP : va_P D vwCl ([(h, .inr (0, [.int (nI (0)), .int (nI (3)), .int (nI (0)), .int (nI (0)), .int (nI (0)), .int (nI (0)), .int (nI (0)), .int (nI (0)), .int (nI (0)), .int (nI (0)), .ref (q_11), .ref (q_18), .ref (q_26), .ref (q_35), .ref (q_43), .ref (q_51), .ref (q_59), .ref (q_67), .null]))] ++ ([(q_11, .inl (cI, 4, .inl (fun _ => nI 0)))] ++ ([(q_18, .inl (cI, 4, .inl (fun _ => nI 0)))] ++ ([(q_26, .inl (cI, 16, .inl (fun _ => nI 0)))] ++ ([(q_35, .inl (cI, 160, .inl (fun _ => nI 0)))] ++ ([(q_43, .inl (cI, 24, .inl (fun _ => nI 0)))] ++ ([(q_51, .inl (cI, 24, .inl (fun _ => nI 0)))] ++ ([(q_59, .inl (cI, 96, .inl (fun _ => nI 0)))] ++ ([(q_67, .inl (cI, 96, .inl (fun _ => nI 0)))]))))))))) H := by exact hP
  replace hD : va_D A ([(h, .inr (0, [.int (nI (0)), .int (nI (3)), .int (nI (0)), .int (nI (0)), .int (nI (0)), .int (nI (0)), .int (nI (0)), .int (nI (0)), .int (nI (0)), .int (nI (0)), .ref (q_11), .ref (q_18), .ref (q_26), .ref (q_35), .ref (q_43), .ref (q_51), .ref (q_59), .ref (q_67), .null]))] ++ ([(q_11, .inl (cI, 4, .inl (fun _ => nI 0)))] ++ ([(q_18, .inl (cI, 4, .inl (fun _ => nI 0)))] ++ ([(q_26, .inl (cI, 16, .inl (fun _ => nI 0)))] ++ ([(q_35, .inl (cI, 160, .inl (fun _ => nI 0)))] ++ ([(q_43, .inl (cI, 24, .inl (fun _ => nI 0)))] ++ ([(q_51, .inl (cI, 24, .inl (fun _ => nI 0)))] ++ ([(q_59, .inl (cI, 96, .inl (fun _ => nI 0)))] ++ ([(q_67, .inl (cI, 96, .inl (fun _ => nI 0)))]))))))))) := by exact hD
  refine lv_aload_n hx hb dX0_init_72 rfl (lv_at hl 0 rfl) ?_
  refine lv_bipush (v := (nI (24))) hx hb dX0_init_73 (by decide) ?_
  refine nw_int hx hb hts hC hP hD hS hA (by decide) (Nat.le_of_ble_eq_true rfl) (Nat.le_of_ble_eq_true rfl) dX0_init_75 (fun q_75 H hP hD hS => ?_)
  refine W.widen (k := 9) (n := 448) (Nat.le_of_ble_eq_true rfl) (Nat.le_of_ble_eq_true rfl) ?_
  replace hP : va_P D vwCl ([(h, .inr (0, [.int (nI (0)), .int (nI (3)), .int (nI (0)), .int (nI (0)), .int (nI (0)), .int (nI (0)), .int (nI (0)), .int (nI (0)), .int (nI (0)), .int (nI (0)), .ref (q_11), .ref (q_18), .ref (q_26), .ref (q_35), .ref (q_43), .ref (q_51), .ref (q_59), .ref (q_67), .null]))] ++ ([(q_11, .inl (cI, 4, .inl (fun _ => nI 0)))] ++ ([(q_18, .inl (cI, 4, .inl (fun _ => nI 0)))] ++ ([(q_26, .inl (cI, 16, .inl (fun _ => nI 0)))] ++ ([(q_35, .inl (cI, 160, .inl (fun _ => nI 0)))] ++ ([(q_43, .inl (cI, 24, .inl (fun _ => nI 0)))] ++ ([(q_51, .inl (cI, 24, .inl (fun _ => nI 0)))] ++ ([(q_59, .inl (cI, 96, .inl (fun _ => nI 0)))] ++ ([(q_67, .inl (cI, 96, .inl (fun _ => nI 0)))] ++ ([(q_75, .inl (cI, 24, .inl (fun _ => nI 0)))])))))))))) H := by simpa only [List.append_assoc, List.nil_append, List.append_nil] using hP
  replace hD : va_D A ([(h, .inr (0, [.int (nI (0)), .int (nI (3)), .int (nI (0)), .int (nI (0)), .int (nI (0)), .int (nI (0)), .int (nI (0)), .int (nI (0)), .int (nI (0)), .int (nI (0)), .ref (q_11), .ref (q_18), .ref (q_26), .ref (q_35), .ref (q_43), .ref (q_51), .ref (q_59), .ref (q_67), .null]))] ++ ([(q_11, .inl (cI, 4, .inl (fun _ => nI 0)))] ++ ([(q_18, .inl (cI, 4, .inl (fun _ => nI 0)))] ++ ([(q_26, .inl (cI, 16, .inl (fun _ => nI 0)))] ++ ([(q_35, .inl (cI, 160, .inl (fun _ => nI 0)))] ++ ([(q_43, .inl (cI, 24, .inl (fun _ => nI 0)))] ++ ([(q_51, .inl (cI, 24, .inl (fun _ => nI 0)))] ++ ([(q_59, .inl (cI, 96, .inl (fun _ => nI 0)))] ++ ([(q_67, .inl (cI, 96, .inl (fun _ => nI 0)))] ++ ([(q_75, .inl (cI, 24, .inl (fun _ => nI 0)))])))))))))) := by simpa only [List.append_assoc, List.nil_append, List.append_nil] using hD
  refine ptF0 hx hb hts hown hC hP hD hS hin 0 rfl 18 (by decide) qw57 rfl rfl rfl rfl (Nat.le_of_ble_eq_true rfl) dX0_init_77 (fun H locs hP hD hS => ?_)
  replace hP : va_P D vwCl ([(h, .inr (0, [.int (nI (0)), .int (nI (3)), .int (nI (0)), .int (nI (0)), .int (nI (0)), .int (nI (0)), .int (nI (0)), .int (nI (0)), .int (nI (0)), .int (nI (0)), .ref (q_11), .ref (q_18), .ref (q_26), .ref (q_35), .ref (q_43), .ref (q_51), .ref (q_59), .ref (q_67), .ref (q_75)]))] ++ ([(q_11, .inl (cI, 4, .inl (fun _ => nI 0)))] ++ ([(q_18, .inl (cI, 4, .inl (fun _ => nI 0)))] ++ ([(q_26, .inl (cI, 16, .inl (fun _ => nI 0)))] ++ ([(q_35, .inl (cI, 160, .inl (fun _ => nI 0)))] ++ ([(q_43, .inl (cI, 24, .inl (fun _ => nI 0)))] ++ ([(q_51, .inl (cI, 24, .inl (fun _ => nI 0)))] ++ ([(q_59, .inl (cI, 96, .inl (fun _ => nI 0)))] ++ ([(q_67, .inl (cI, 96, .inl (fun _ => nI 0)))] ++ ([(q_75, .inl (cI, 24, .inl (fun _ => nI 0)))])))))))))) H := by exact hP
  replace hD : va_D A ([(h, .inr (0, [.int (nI (0)), .int (nI (3)), .int (nI (0)), .int (nI (0)), .int (nI (0)), .int (nI (0)), .int (nI (0)), .int (nI (0)), .int (nI (0)), .int (nI (0)), .ref (q_11), .ref (q_18), .ref (q_26), .ref (q_35), .ref (q_43), .ref (q_51), .ref (q_59), .ref (q_67), .ref (q_75)]))] ++ ([(q_11, .inl (cI, 4, .inl (fun _ => nI 0)))] ++ ([(q_18, .inl (cI, 4, .inl (fun _ => nI 0)))] ++ ([(q_26, .inl (cI, 16, .inl (fun _ => nI 0)))] ++ ([(q_35, .inl (cI, 160, .inl (fun _ => nI 0)))] ++ ([(q_43, .inl (cI, 24, .inl (fun _ => nI 0)))] ++ ([(q_51, .inl (cI, 24, .inl (fun _ => nI 0)))] ++ ([(q_59, .inl (cI, 96, .inl (fun _ => nI 0)))] ++ ([(q_67, .inl (cI, 96, .inl (fun _ => nI 0)))] ++ ([(q_75, .inl (cI, 24, .inl (fun _ => nI 0)))])))))))))) := by exact hD
  refine lv_aload_n hx hb dX0_init_80 rfl (lv_at hl 0 rfl) ?_
  refine gt0 hx hb hts hown hC.1 hP 0 rfl 14 (by decide) qw51 rfl dX0_init_81 ?_
  refine lv_iconst (v := (-1)) hx hb dX0_init_84 (by decide) ?_
  refine goWv (pre := [(h, .inr (0, [.int (nI (0)), .int (nI (3)), .int (nI (0)), .int (nI (0)), .int (nI (0)), .int (nI (0)), .int (nI (0)), .int (nI (0)), .int (nI (0)), .int (nI (0)), .ref (q_11), .ref (q_18), .ref (q_26), .ref (q_35), .ref (q_43), .ref (q_51), .ref (q_59), .ref (q_67), .ref (q_75)]))] ++ ([(q_11, .inl (cI, 4, .inl (fun _ => nI 0)))] ++ ([(q_18, .inl (cI, 4, .inl (fun _ => nI 0)))] ++ ([(q_26, .inl (cI, 16, .inl (fun _ => nI 0)))] ++ ([(q_35, .inl (cI, 160, .inl (fun _ => nI 0)))]))))) (wc := [(q_43, .inl (cI, 24, .inl (fun _ => nI 0)))]) (suf := [(q_51, .inl (cI, 24, .inl (fun _ => nI 0)))] ++ ([(q_59, .inl (cI, 96, .inl (fun _ => nI 0)))] ++ ([(q_67, .inl (cI, 96, .inl (fun _ => nI 0)))] ++ ([(q_75, .inl (cI, 24, .inl (fun _ => nI 0)))])))) (kS (As := [.ref (q_43), .int (-1)]) (rest := []) F (c_J7_fill_53178 l D cI cO _ q_43 24 (fun _ => nI 0) (-1) (by decide)) ywJ7_fill_53178 qw23 qw24  ⟨rfl, rfl⟩ ⟨Nat.le_of_ble_eq_true rfl, Nat.le_of_ble_eq_true rfl⟩ (preW (va_pl0 (va_pr0 (va_pr0 (va_pr0 (va_pr0 (va_pr0 hP)))))) hC (va_dl (va_dr (va_dr (va_dr (va_dr (va_dr hD))))))) rfl hl.1 rfl (Nat.le_of_ble_eq_true rfl) dX0_init_85 ⟨Nat.le_of_ble_eq_true rfl, Nat.le_of_ble_eq_true rfl⟩) (by simpa only [List.append_assoc, List.nil_append, List.append_nil] using hP) (by simpa only [List.append_assoc, List.nil_append, List.append_nil] using hD) hS hA (fun f_85 H locs h_85 hP hD hS => ?_)
  replace hP : va_P D vwCl ([(h, .inr (0, [.int (nI (0)), .int (nI (3)), .int (nI (0)), .int (nI (0)), .int (nI (0)), .int (nI (0)), .int (nI (0)), .int (nI (0)), .int (nI (0)), .int (nI (0)), .ref (q_11), .ref (q_18), .ref (q_26), .ref (q_35), .ref (q_43), .ref (q_51), .ref (q_59), .ref (q_67), .ref (q_75)]))] ++ ([(q_11, .inl (cI, 4, .inl (fun _ => nI 0)))] ++ ([(q_18, .inl (cI, 4, .inl (fun _ => nI 0)))] ++ ([(q_26, .inl (cI, 16, .inl (fun _ => nI 0)))] ++ ([(q_35, .inl (cI, 160, .inl (fun _ => nI 0)))] ++ ([(q_43, .inl (cI, 24, .inl f_85))] ++ ([(q_51, .inl (cI, 24, .inl (fun _ => nI 0)))] ++ ([(q_59, .inl (cI, 96, .inl (fun _ => nI 0)))] ++ ([(q_67, .inl (cI, 96, .inl (fun _ => nI 0)))] ++ ([(q_75, .inl (cI, 24, .inl (fun _ => nI 0)))])))))))))) H := by simpa only [List.append_assoc, List.nil_append, List.append_nil] using hP
  replace hD : va_D A ([(h, .inr (0, [.int (nI (0)), .int (nI (3)), .int (nI (0)), .int (nI (0)), .int (nI (0)), .int (nI (0)), .int (nI (0)), .int (nI (0)), .int (nI (0)), .int (nI (0)), .ref (q_11), .ref (q_18), .ref (q_26), .ref (q_35), .ref (q_43), .ref (q_51), .ref (q_59), .ref (q_67), .ref (q_75)]))] ++ ([(q_11, .inl (cI, 4, .inl (fun _ => nI 0)))] ++ ([(q_18, .inl (cI, 4, .inl (fun _ => nI 0)))] ++ ([(q_26, .inl (cI, 16, .inl (fun _ => nI 0)))] ++ ([(q_35, .inl (cI, 160, .inl (fun _ => nI 0)))] ++ ([(q_43, .inl (cI, 24, .inl f_85))] ++ ([(q_51, .inl (cI, 24, .inl (fun _ => nI 0)))] ++ ([(q_59, .inl (cI, 96, .inl (fun _ => nI 0)))] ++ ([(q_67, .inl (cI, 96, .inl (fun _ => nI 0)))] ++ ([(q_75, .inl (cI, 24, .inl (fun _ => nI 0)))])))))))))) := by simpa only [List.append_assoc, List.nil_append, List.append_nil] using hD
  refine lv_aload_n hx hb dX0_init_88 rfl (lv_at hl 0 rfl) ?_
  refine gt0 hx hb hts hown hC.1 hP 0 rfl 15 (by decide) qw53 rfl dX0_init_89 ?_
  refine lv_iconst (v := (-1)) hx hb dX0_init_92 (by decide) ?_
  refine goWv (pre := [(h, .inr (0, [.int (nI (0)), .int (nI (3)), .int (nI (0)), .int (nI (0)), .int (nI (0)), .int (nI (0)), .int (nI (0)), .int (nI (0)), .int (nI (0)), .int (nI (0)), .ref (q_11), .ref (q_18), .ref (q_26), .ref (q_35), .ref (q_43), .ref (q_51), .ref (q_59), .ref (q_67), .ref (q_75)]))] ++ ([(q_11, .inl (cI, 4, .inl (fun _ => nI 0)))] ++ ([(q_18, .inl (cI, 4, .inl (fun _ => nI 0)))] ++ ([(q_26, .inl (cI, 16, .inl (fun _ => nI 0)))] ++ ([(q_35, .inl (cI, 160, .inl (fun _ => nI 0)))] ++ ([(q_43, .inl (cI, 24, .inl f_85))])))))) (wc := [(q_51, .inl (cI, 24, .inl (fun _ => nI 0)))]) (suf := [(q_59, .inl (cI, 96, .inl (fun _ => nI 0)))] ++ ([(q_67, .inl (cI, 96, .inl (fun _ => nI 0)))] ++ ([(q_75, .inl (cI, 24, .inl (fun _ => nI 0)))]))) (kS (As := [.ref (q_51), .int (-1)]) (rest := []) F (c_J7_fill_53178 l D cI cO _ q_51 24 (fun _ => nI 0) (-1) (by decide)) ywJ7_fill_53178 qw23 qw24  ⟨rfl, rfl⟩ ⟨Nat.le_of_ble_eq_true rfl, Nat.le_of_ble_eq_true rfl⟩ (preW (va_pl0 (va_pr0 (va_pr0 (va_pr0 (va_pr0 (va_pr0 (va_pr0 hP))))))) hC (va_dl (va_dr (va_dr (va_dr (va_dr (va_dr (va_dr hD)))))))) rfl hl.1 rfl (Nat.le_of_ble_eq_true rfl) dX0_init_93 ⟨Nat.le_of_ble_eq_true rfl, Nat.le_of_ble_eq_true rfl⟩) (by simpa only [List.append_assoc, List.nil_append, List.append_nil] using hP) (by simpa only [List.append_assoc, List.nil_append, List.append_nil] using hD) hS hA (fun f_93 H locs h_93 hP hD hS => ?_)
  replace hP : va_P D vwCl ([(h, .inr (0, [.int (nI (0)), .int (nI (3)), .int (nI (0)), .int (nI (0)), .int (nI (0)), .int (nI (0)), .int (nI (0)), .int (nI (0)), .int (nI (0)), .int (nI (0)), .ref (q_11), .ref (q_18), .ref (q_26), .ref (q_35), .ref (q_43), .ref (q_51), .ref (q_59), .ref (q_67), .ref (q_75)]))] ++ ([(q_11, .inl (cI, 4, .inl (fun _ => nI 0)))] ++ ([(q_18, .inl (cI, 4, .inl (fun _ => nI 0)))] ++ ([(q_26, .inl (cI, 16, .inl (fun _ => nI 0)))] ++ ([(q_35, .inl (cI, 160, .inl (fun _ => nI 0)))] ++ ([(q_43, .inl (cI, 24, .inl f_85))] ++ ([(q_51, .inl (cI, 24, .inl f_93))] ++ ([(q_59, .inl (cI, 96, .inl (fun _ => nI 0)))] ++ ([(q_67, .inl (cI, 96, .inl (fun _ => nI 0)))] ++ ([(q_75, .inl (cI, 24, .inl (fun _ => nI 0)))])))))))))) H := by simpa only [List.append_assoc, List.nil_append, List.append_nil] using hP
  replace hD : va_D A ([(h, .inr (0, [.int (nI (0)), .int (nI (3)), .int (nI (0)), .int (nI (0)), .int (nI (0)), .int (nI (0)), .int (nI (0)), .int (nI (0)), .int (nI (0)), .int (nI (0)), .ref (q_11), .ref (q_18), .ref (q_26), .ref (q_35), .ref (q_43), .ref (q_51), .ref (q_59), .ref (q_67), .ref (q_75)]))] ++ ([(q_11, .inl (cI, 4, .inl (fun _ => nI 0)))] ++ ([(q_18, .inl (cI, 4, .inl (fun _ => nI 0)))] ++ ([(q_26, .inl (cI, 16, .inl (fun _ => nI 0)))] ++ ([(q_35, .inl (cI, 160, .inl (fun _ => nI 0)))] ++ ([(q_43, .inl (cI, 24, .inl f_85))] ++ ([(q_51, .inl (cI, 24, .inl f_93))] ++ ([(q_59, .inl (cI, 96, .inl (fun _ => nI 0)))] ++ ([(q_67, .inl (cI, 96, .inl (fun _ => nI 0)))] ++ ([(q_75, .inl (cI, 24, .inl (fun _ => nI 0)))])))))))))) := by simpa only [List.append_assoc, List.nil_append, List.append_nil] using hD
  refine lv_aload_n hx hb dX0_init_96 rfl (lv_at hl 0 rfl) ?_
  refine gt0 hx hb hts hown hC.1 hP 0 rfl 17 (by decide) qw56 rfl dX0_init_97 ?_
  refine lv_iconst (v := (-1)) hx hb dX0_init_100 (by decide) ?_
  refine goWv (pre := [(h, .inr (0, [.int (nI (0)), .int (nI (3)), .int (nI (0)), .int (nI (0)), .int (nI (0)), .int (nI (0)), .int (nI (0)), .int (nI (0)), .int (nI (0)), .int (nI (0)), .ref (q_11), .ref (q_18), .ref (q_26), .ref (q_35), .ref (q_43), .ref (q_51), .ref (q_59), .ref (q_67), .ref (q_75)]))] ++ ([(q_11, .inl (cI, 4, .inl (fun _ => nI 0)))] ++ ([(q_18, .inl (cI, 4, .inl (fun _ => nI 0)))] ++ ([(q_26, .inl (cI, 16, .inl (fun _ => nI 0)))] ++ ([(q_35, .inl (cI, 160, .inl (fun _ => nI 0)))] ++ ([(q_43, .inl (cI, 24, .inl f_85))] ++ ([(q_51, .inl (cI, 24, .inl f_93))] ++ ([(q_59, .inl (cI, 96, .inl (fun _ => nI 0)))])))))))) (wc := [(q_67, .inl (cI, 96, .inl (fun _ => nI 0)))]) (suf := [(q_75, .inl (cI, 24, .inl (fun _ => nI 0)))]) (kS (As := [.ref (q_67), .int (-1)]) (rest := []) F (c_J7_fill_53178 l D cI cO _ q_67 96 (fun _ => nI 0) (-1) (by decide)) ywJ7_fill_53178 qw23 qw24  ⟨rfl, rfl⟩ ⟨Nat.le_of_ble_eq_true rfl, Nat.le_of_ble_eq_true rfl⟩ (preW (va_pl0 (va_pr0 (va_pr0 (va_pr0 (va_pr0 (va_pr0 (va_pr0 (va_pr0 (va_pr0 hP))))))))) hC (va_dl (va_dr (va_dr (va_dr (va_dr (va_dr (va_dr (va_dr (va_dr hD)))))))))) rfl hl.1 rfl (Nat.le_of_ble_eq_true rfl) dX0_init_101 ⟨Nat.le_of_ble_eq_true rfl, Nat.le_of_ble_eq_true rfl⟩) (by simpa only [List.append_assoc, List.nil_append, List.append_nil] using hP) (by simpa only [List.append_assoc, List.nil_append, List.append_nil] using hD) hS hA (fun f_101 H locs h_101 hP hD hS => ?_)
  replace hP : va_P D vwCl ([(h, .inr (0, [.int (nI (0)), .int (nI (3)), .int (nI (0)), .int (nI (0)), .int (nI (0)), .int (nI (0)), .int (nI (0)), .int (nI (0)), .int (nI (0)), .int (nI (0)), .ref (q_11), .ref (q_18), .ref (q_26), .ref (q_35), .ref (q_43), .ref (q_51), .ref (q_59), .ref (q_67), .ref (q_75)]))] ++ ([(q_11, .inl (cI, 4, .inl (fun _ => nI 0)))] ++ ([(q_18, .inl (cI, 4, .inl (fun _ => nI 0)))] ++ ([(q_26, .inl (cI, 16, .inl (fun _ => nI 0)))] ++ ([(q_35, .inl (cI, 160, .inl (fun _ => nI 0)))] ++ ([(q_43, .inl (cI, 24, .inl f_85))] ++ ([(q_51, .inl (cI, 24, .inl f_93))] ++ ([(q_59, .inl (cI, 96, .inl (fun _ => nI 0)))] ++ ([(q_67, .inl (cI, 96, .inl f_101))] ++ ([(q_75, .inl (cI, 24, .inl (fun _ => nI 0)))])))))))))) H := by simpa only [List.append_assoc, List.nil_append, List.append_nil] using hP
  replace hD : va_D A ([(h, .inr (0, [.int (nI (0)), .int (nI (3)), .int (nI (0)), .int (nI (0)), .int (nI (0)), .int (nI (0)), .int (nI (0)), .int (nI (0)), .int (nI (0)), .int (nI (0)), .ref (q_11), .ref (q_18), .ref (q_26), .ref (q_35), .ref (q_43), .ref (q_51), .ref (q_59), .ref (q_67), .ref (q_75)]))] ++ ([(q_11, .inl (cI, 4, .inl (fun _ => nI 0)))] ++ ([(q_18, .inl (cI, 4, .inl (fun _ => nI 0)))] ++ ([(q_26, .inl (cI, 16, .inl (fun _ => nI 0)))] ++ ([(q_35, .inl (cI, 160, .inl (fun _ => nI 0)))] ++ ([(q_43, .inl (cI, 24, .inl f_85))] ++ ([(q_51, .inl (cI, 24, .inl f_93))] ++ ([(q_59, .inl (cI, 96, .inl (fun _ => nI 0)))] ++ ([(q_67, .inl (cI, 96, .inl f_101))] ++ ([(q_75, .inl (cI, 24, .inl (fun _ => nI 0)))])))))))))) := by simpa only [List.append_assoc, List.nil_append, List.append_nil] using hD
  replace hP : va_P D vwCl (stW cI h (l9 q_11 q_18 q_26 q_35 q_43 q_51 q_59 q_67 q_75) (sN f_85 f_93 f_101)) H := hP
  replace hD : va_D A (stW cI h (l9 q_11 q_18 q_26 q_35 q_43 q_51 q_59 q_67 q_75) (sN f_85 f_93 f_101)) := hD
  exact hret (((l9 q_11 q_18 q_26 q_35 q_43 q_51 q_59 q_67 q_75), sN f_85 f_93 f_101)) _ ls _ _ (sN_cpy h_85 h_93 h_101) hP hD hS dX0_init_104

set_option maxHeartbeats 4000000 in
set_option maxRecDepth 100000 in
theorem c_X1_init (l : Launch) (D : va_G) (cI cO : ClassId) (sz : Nat) (us : Nat) : Met l yX1_init (Cond.code yX1_init cX1_init 2 none :: WL) ({ frames := 2, cells := 41, slots := 1872, locals := 43 } : Room) (va_Pc [.ref (us)] (PN D cI cO ([(us, .inr (1, [.null, .int (nI (0)), .int (nI (0))]))]) sz)) (va_Qv (fun (u : Nat × (Nat → Nat) × (Nat → Nat → Nat) × (Nat → Nat → Nat → Int32)) => True) (QB D ([(us, .inr (1, [.null, .int (nI (0)), .int (nI (0))]))]) sz (fun (u : Nat × (Nat → Nat) × (Nat → Nat → Nat) × (Nat → Nat → Nat → Int32)) => usS cI cO us u.1 u.2.1 u.2.2.1 (nI 0) (nI 0) u.2.2.2)) (va_A ([(us, .inr (1, [.null, .int (nI (0)), .int (nI (0))]))]) sz)) 41 1872 (va_A ([(us, .inr (1, [.null, .int (nI (0)), .int (nI (0))]))]) sz) := by
  refine wn_void (by decide) rfl (Nat.le_of_ble_eq_true rfl) ?_
  intro p e s m args below meth c Q ls A F hin hP hC hO hD hA hret hl
  have hx := F.1
  have hb := F.2.1
  have hml := F.2.2.1
  have hown := F.2.2.2.1
  have hts := F.2.2.2.2
  replace hl : lv_has ls 2 [(0, .ref (us))] := hl
  have hS : va_S A s.heap s.heap [] := va_S.rf
  refine lv_aload_n hx hb dX1_init_0 rfl (lv_at hl 0 rfl) ?_
  refine W.objInit hx hb hown (hts _ qw103) (hts _ qw15) (hts _ qw16) rfl (by rw [hml]; exact hl.1) rfl dX1_init_1 (Nat.le_of_ble_eq_true rfl) (Nat.le_of_ble_eq_true rfl) ?_
  refine W.eq (g2 := F0 m 4 ls []) rfl ?_
  refine lv_aload_n hx hb dX1_init_4 rfl (lv_at hl 0 rfl) ?_
  refine lv_iconst (v := (nI (4))) hx hb dX1_init_5 (by decide) ?_
  refine nw_ring hx hb hts hown hC hO hP hD hS hA (Nat.le_of_ble_eq_true rfl) (Nat.le_of_ble_eq_true rfl) dX1_init_6 (fun q_6 H hP hD hS => ?_)
  refine W.widen (k := 1) (n := 4) (Nat.le_of_ble_eq_true rfl) (Nat.le_of_ble_eq_true rfl) ?_
  replace hP : va_P D vwCl ([(us, .inr (1, [.null, .int (nI (0)), .int (nI (0))]))] ++ ([(q_6, .inl (cO, 4, .inr (.inr (.inr (.inr (fun _ => none))))))])) H := by simpa only [List.append_assoc, List.nil_append, List.append_nil] using hP
  replace hD : va_D A ([(us, .inr (1, [.null, .int (nI (0)), .int (nI (0))]))] ++ ([(q_6, .inl (cO, 4, .inr (.inr (.inr (.inr (fun _ => none))))))])) := by simpa only [List.append_assoc, List.nil_append, List.append_nil] using hD
  refine ptF1 hx hb hts hown hC hP hD hS hin 0 rfl 0 (by decide) qw107 rfl rfl rfl rfl (Nat.le_of_ble_eq_true rfl) dX1_init_9 (fun H locs hP hD hS => ?_)
  replace hP : va_P D vwCl ([(us, .inr (1, [.ref (q_6), .int (nI (0)), .int (nI (0))]))] ++ ([(q_6, .inl (cO, 4, .inr (.inr (.inr (.inr (fun _ => none))))))])) H := by exact hP
  replace hD : va_D A ([(us, .inr (1, [.ref (q_6), .int (nI (0)), .int (nI (0))]))] ++ ([(q_6, .inl (cO, 4, .inr (.inr (.inr (.inr (fun _ => none))))))])) := by exact hD
  refine lv_iconst (v := (nI (0))) hx hb dX1_init_12 (by decide) ?_
  refine lv_istore_n (lv' := [(1, .int (nI (0))), (0, .ref (us))]) hx hb dX1_init_13 rfl hl (by decide) rfl (fun ls hl => ?_)
  refine lv_iload_n hx hb dX1_init_14 rfl (lv_at hl 0 rfl) ?_
  refine lv_iconst (v := (nI (4))) hx hb dX1_init_15 (by decide) ?_
  refine n_icmp_ge (tgt := 38) hx hb dX1_init_16 (by decide) (by omega) (by omega) (fun h => absurd h (by decide)) (fun _ => ?_)
  refine lv_aload_n hx hb dX1_init_19 rfl (lv_at hl 1 rfl) ?_
  refine gt1 hx hb hts hown hC.1 hP 0 rfl 0 (by decide) qw107 rfl dX1_init_20 ?_
  refine lv_iload_n hx hb dX1_init_23 rfl (lv_at hl 0 rfl) ?_
  refine nw_X0 hx hb hts hown qw104 hC hP hD hS hA (Nat.le_of_ble_eq_true rfl) (Nat.le_of_ble_eq_true rfl) dX1_init_24 (fun o0_1 H hP hD hS => ?_)
  refine W.widen (k := 2) (n := 23) (Nat.le_of_ble_eq_true rfl) (Nat.le_of_ble_eq_true rfl) ?_
  replace hP : va_P D vwCl ([(us, .inr (1, [.ref (q_6), .int (nI (0)), .int (nI (0))]))] ++ ([(q_6, .inl (cO, 4, .inr (.inr (.inr (.inr (fun _ => none))))))] ++ ([(o0_1, .inr (0, [.int (nI (0)), .int (nI (0)), .int (nI (0)), .int (nI (0)), .int (nI (0)), .int (nI (0)), .int (nI (0)), .int (nI (0)), .int (nI (0)), .int (nI (0)), .null, .null, .null, .null, .null, .null, .null, .null, .null]))]))) H := by simpa only [List.append_assoc, List.nil_append, List.append_nil] using hP
  replace hD : va_D A ([(us, .inr (1, [.ref (q_6), .int (nI (0)), .int (nI (0))]))] ++ ([(q_6, .inl (cO, 4, .inr (.inr (.inr (.inr (fun _ => none))))))] ++ ([(o0_1, .inr (0, [.int (nI (0)), .int (nI (0)), .int (nI (0)), .int (nI (0)), .int (nI (0)), .int (nI (0)), .int (nI (0)), .int (nI (0)), .int (nI (0)), .int (nI (0)), .null, .null, .null, .null, .null, .null, .null, .null, .null]))]))) := by simpa only [List.append_assoc, List.nil_append, List.append_nil] using hD
  refine lv_dup hx hb dX1_init_27 rfl ?_
  refine goNv (pre := [(us, .inr (1, [.ref (q_6), .int (nI (0)), .int (nI (0))]))] ++ ([(q_6, .inl (cO, 4, .inr (.inr (.inr (.inr (fun _ => none))))))])) (wc := [(o0_1, .inr (0, [.int (nI (0)), .int (nI (0)), .int (nI (0)), .int (nI (0)), .int (nI (0)), .int (nI (0)), .int (nI (0)), .int (nI (0)), .int (nI (0)), .int (nI (0)), .null, .null, .null, .null, .null, .null, .null, .null, .null]))]) (suf := []) (kIN (As := []) (rest := [.ref (o0_1), .int (nI (0)), .ref (q_6)]) F (c_X0_init l D cI cO _ o0_1) ywX0_init rfl (nk2 hC) qw20 ⟨rfl, rfl⟩ ⟨Nat.le_of_ble_eq_true rfl, Nat.le_of_ble_eq_true rfl⟩ (preN (va_pr0 (va_pr0 hP)) hC hO (va_dr (va_dr hD))) rfl hl.1 rfl (Nat.le_of_ble_eq_true rfl) dX1_init_28 ⟨Nat.le_of_ble_eq_true rfl, Nat.le_of_ble_eq_true rfl⟩) (by simpa only [List.append_assoc, List.nil_append, List.append_nil] using hP) (by simpa only [List.append_assoc, List.nil_append, List.append_nil] using hD) hS hA (fun u_k_1 H locs h_28 hP hD hS => ?_)
  obtain ⟨a_k_1, S_k_1⟩ := u_k_1
  refine W.widen (k := 11) (n := 471) (Nat.le_of_ble_eq_true rfl) (Nat.le_of_ble_eq_true rfl) ?_
  replace hP : va_P D vwCl ([(us, .inr (1, [.ref (q_6), .int (nI (0)), .int (nI (0))]))] ++ ([(q_6, .inl (cO, 4, .inr (.inr (.inr (.inr (fun _ => none))))))] ++ (stW cI o0_1 a_k_1 S_k_1))) H := by simpa only [List.append_assoc, List.nil_append, List.append_nil] using hP
  replace hD : va_D A ([(us, .inr (1, [.ref (q_6), .int (nI (0)), .int (nI (0))]))] ++ ([(q_6, .inl (cO, 4, .inr (.inr (.inr (.inr (fun _ => none))))))] ++ (stW cI o0_1 a_k_1 S_k_1))) := by simpa only [List.append_assoc, List.nil_append, List.append_nil] using hD
  refine va_astq hx hb hC.1 hP hD hS 1 1 2 0 (r := (RX0, TX0, 19)) rfl rfl rfl rfl (vp_in_nI (by decide) (by decide)) dX1_init_31 (fun H locs hP hD hS => ?_)
  rw [show (nI (0)).toNatClampNeg = 0 from by decide] at hP hD
  replace hP : va_P D vwCl ([(us, .inr (1, [.ref (q_6), .int (nI (0)), .int (nI (0))]))] ++ ([(q_6, .inl (cO, 4, .inr (.inr (.inr (.inr (va_up (fun _ => none) 0 (some o0_1)))))))] ++ (stW cI o0_1 a_k_1 S_k_1))) H := hP
  replace hD : va_D A ([(us, .inr (1, [.ref (q_6), .int (nI (0)), .int (nI (0))]))] ++ ([(q_6, .inl (cO, 4, .inr (.inr (.inr (.inr (va_up (fun _ => none) 0 (some o0_1)))))))] ++ (stW cI o0_1 a_k_1 S_k_1))) := hD
  refine n_iinc (a := 0) (b := 1) (lv' := [(1, .int (nI (1))), (0, .ref (us))]) hx hb dX1_init_32 hl (k := 0) rfl rfl (by decide) rfl (fun ls hl => ?_)
  refine lv_goto (tgt := 14) hx hb dX1_init_35 (by decide) ?_
  refine lv_iload_n hx hb dX1_init_14 rfl (lv_at hl 0 rfl) ?_
  refine lv_iconst (v := (nI (4))) hx hb dX1_init_15 (by decide) ?_
  refine n_icmp_ge (tgt := 38) hx hb dX1_init_16 (by decide) (by omega) (by omega) (fun h => absurd h (by decide)) (fun _ => ?_)
  refine lv_aload_n hx hb dX1_init_19 rfl (lv_at hl 1 rfl) ?_
  refine gt1 hx hb hts hown hC.1 hP 0 rfl 0 (by decide) qw107 rfl dX1_init_20 ?_
  refine lv_iload_n hx hb dX1_init_23 rfl (lv_at hl 0 rfl) ?_
  refine nw_X0 hx hb hts hown qw104 hC hP hD hS hA (Nat.le_of_ble_eq_true rfl) (Nat.le_of_ble_eq_true rfl) dX1_init_24 (fun o0_2 H hP hD hS => ?_)
  refine W.widen (k := 12) (n := 490) (Nat.le_of_ble_eq_true rfl) (Nat.le_of_ble_eq_true rfl) ?_
  replace hP : va_P D vwCl ([(us, .inr (1, [.ref (q_6), .int (nI (0)), .int (nI (0))]))] ++ ([(q_6, .inl (cO, 4, .inr (.inr (.inr (.inr (va_up (fun _ => none) 0 (some o0_1)))))))] ++ (stW cI o0_1 a_k_1 S_k_1 ++ ([(o0_2, .inr (0, [.int (nI (0)), .int (nI (0)), .int (nI (0)), .int (nI (0)), .int (nI (0)), .int (nI (0)), .int (nI (0)), .int (nI (0)), .int (nI (0)), .int (nI (0)), .null, .null, .null, .null, .null, .null, .null, .null, .null]))])))) H := by simpa only [List.append_assoc, List.nil_append, List.append_nil] using hP
  replace hD : va_D A ([(us, .inr (1, [.ref (q_6), .int (nI (0)), .int (nI (0))]))] ++ ([(q_6, .inl (cO, 4, .inr (.inr (.inr (.inr (va_up (fun _ => none) 0 (some o0_1)))))))] ++ (stW cI o0_1 a_k_1 S_k_1 ++ ([(o0_2, .inr (0, [.int (nI (0)), .int (nI (0)), .int (nI (0)), .int (nI (0)), .int (nI (0)), .int (nI (0)), .int (nI (0)), .int (nI (0)), .int (nI (0)), .int (nI (0)), .null, .null, .null, .null, .null, .null, .null, .null, .null]))])))) := by simpa only [List.append_assoc, List.nil_append, List.append_nil] using hD
  refine lv_dup hx hb dX1_init_27 rfl ?_
  refine goNv (pre := [(us, .inr (1, [.ref (q_6), .int (nI (0)), .int (nI (0))]))] ++ ([(q_6, .inl (cO, 4, .inr (.inr (.inr (.inr (va_up (fun _ => none) 0 (some o0_1)))))))] ++ (stW cI o0_1 a_k_1 S_k_1))) (wc := [(o0_2, .inr (0, [.int (nI (0)), .int (nI (0)), .int (nI (0)), .int (nI (0)), .int (nI (0)), .int (nI (0)), .int (nI (0)), .int (nI (0)), .int (nI (0)), .int (nI (0)), .null, .null, .null, .null, .null, .null, .null, .null, .null]))]) (suf := []) (kIN (As := []) (rest := [.ref (o0_2), .int (nI (1)), .ref (q_6)]) F (c_X0_init l D cI cO _ o0_2) ywX0_init rfl (nk2 hC) qw20 ⟨rfl, rfl⟩ ⟨Nat.le_of_ble_eq_true rfl, Nat.le_of_ble_eq_true rfl⟩ (preN (va_pr0 (va_pr0 (va_pr0 hP))) hC hO (va_dr (va_dr (va_dr hD)))) rfl hl.1 rfl (Nat.le_of_ble_eq_true rfl) dX1_init_28 ⟨Nat.le_of_ble_eq_true rfl, Nat.le_of_ble_eq_true rfl⟩) (by simpa only [List.append_assoc, List.nil_append, List.append_nil] using hP) (by simpa only [List.append_assoc, List.nil_append, List.append_nil] using hD) hS hA (fun u_k_2 H locs h_28 hP hD hS => ?_)
  obtain ⟨a_k_2, S_k_2⟩ := u_k_2
  refine W.widen (k := 21) (n := 938) (Nat.le_of_ble_eq_true rfl) (Nat.le_of_ble_eq_true rfl) ?_
  replace hP : va_P D vwCl ([(us, .inr (1, [.ref (q_6), .int (nI (0)), .int (nI (0))]))] ++ ([(q_6, .inl (cO, 4, .inr (.inr (.inr (.inr (va_up (fun _ => none) 0 (some o0_1)))))))] ++ (stW cI o0_1 a_k_1 S_k_1 ++ (stW cI o0_2 a_k_2 S_k_2)))) H := by simpa only [List.append_assoc, List.nil_append, List.append_nil] using hP
  replace hD : va_D A ([(us, .inr (1, [.ref (q_6), .int (nI (0)), .int (nI (0))]))] ++ ([(q_6, .inl (cO, 4, .inr (.inr (.inr (.inr (va_up (fun _ => none) 0 (some o0_1)))))))] ++ (stW cI o0_1 a_k_1 S_k_1 ++ (stW cI o0_2 a_k_2 S_k_2)))) := by simpa only [List.append_assoc, List.nil_append, List.append_nil] using hD
  refine va_astq hx hb hC.1 hP hD hS 1 1 12 0 (r := (RX0, TX0, 19)) rfl rfl rfl rfl (vp_in_nI (by decide) (by decide)) dX1_init_31 (fun H locs hP hD hS => ?_)
  rw [show (nI (1)).toNatClampNeg = 1 from by decide] at hP hD
  replace hP : va_P D vwCl ([(us, .inr (1, [.ref (q_6), .int (nI (0)), .int (nI (0))]))] ++ ([(q_6, .inl (cO, 4, .inr (.inr (.inr (.inr (va_up (va_up (fun _ => none) 0 (some o0_1)) 1 (some o0_2)))))))] ++ (stW cI o0_1 a_k_1 S_k_1 ++ (stW cI o0_2 a_k_2 S_k_2)))) H := hP
  replace hD : va_D A ([(us, .inr (1, [.ref (q_6), .int (nI (0)), .int (nI (0))]))] ++ ([(q_6, .inl (cO, 4, .inr (.inr (.inr (.inr (va_up (va_up (fun _ => none) 0 (some o0_1)) 1 (some o0_2)))))))] ++ (stW cI o0_1 a_k_1 S_k_1 ++ (stW cI o0_2 a_k_2 S_k_2)))) := hD
  refine n_iinc (a := 1) (b := 1) (lv' := [(1, .int (nI (2))), (0, .ref (us))]) hx hb dX1_init_32 hl (k := 0) rfl rfl (by decide) rfl (fun ls hl => ?_)
  refine lv_goto (tgt := 14) hx hb dX1_init_35 (by decide) ?_
  refine lv_iload_n hx hb dX1_init_14 rfl (lv_at hl 0 rfl) ?_
  refine lv_iconst (v := (nI (4))) hx hb dX1_init_15 (by decide) ?_
  refine n_icmp_ge (tgt := 38) hx hb dX1_init_16 (by decide) (by omega) (by omega) (fun h => absurd h (by decide)) (fun _ => ?_)
  refine lv_aload_n hx hb dX1_init_19 rfl (lv_at hl 1 rfl) ?_
  refine gt1 hx hb hts hown hC.1 hP 0 rfl 0 (by decide) qw107 rfl dX1_init_20 ?_
  refine lv_iload_n hx hb dX1_init_23 rfl (lv_at hl 0 rfl) ?_
  refine nw_X0 hx hb hts hown qw104 hC hP hD hS hA (Nat.le_of_ble_eq_true rfl) (Nat.le_of_ble_eq_true rfl) dX1_init_24 (fun o0_3 H hP hD hS => ?_)
  refine W.widen (k := 22) (n := 957) (Nat.le_of_ble_eq_true rfl) (Nat.le_of_ble_eq_true rfl) ?_
  replace hP : va_P D vwCl ([(us, .inr (1, [.ref (q_6), .int (nI (0)), .int (nI (0))]))] ++ ([(q_6, .inl (cO, 4, .inr (.inr (.inr (.inr (va_up (va_up (fun _ => none) 0 (some o0_1)) 1 (some o0_2)))))))] ++ (stW cI o0_1 a_k_1 S_k_1 ++ (stW cI o0_2 a_k_2 S_k_2 ++ ([(o0_3, .inr (0, [.int (nI (0)), .int (nI (0)), .int (nI (0)), .int (nI (0)), .int (nI (0)), .int (nI (0)), .int (nI (0)), .int (nI (0)), .int (nI (0)), .int (nI (0)), .null, .null, .null, .null, .null, .null, .null, .null, .null]))]))))) H := by simpa only [List.append_assoc, List.nil_append, List.append_nil] using hP
  replace hD : va_D A ([(us, .inr (1, [.ref (q_6), .int (nI (0)), .int (nI (0))]))] ++ ([(q_6, .inl (cO, 4, .inr (.inr (.inr (.inr (va_up (va_up (fun _ => none) 0 (some o0_1)) 1 (some o0_2)))))))] ++ (stW cI o0_1 a_k_1 S_k_1 ++ (stW cI o0_2 a_k_2 S_k_2 ++ ([(o0_3, .inr (0, [.int (nI (0)), .int (nI (0)), .int (nI (0)), .int (nI (0)), .int (nI (0)), .int (nI (0)), .int (nI (0)), .int (nI (0)), .int (nI (0)), .int (nI (0)), .null, .null, .null, .null, .null, .null, .null, .null, .null]))]))))) := by simpa only [List.append_assoc, List.nil_append, List.append_nil] using hD
  refine lv_dup hx hb dX1_init_27 rfl ?_
  refine goNv (pre := [(us, .inr (1, [.ref (q_6), .int (nI (0)), .int (nI (0))]))] ++ ([(q_6, .inl (cO, 4, .inr (.inr (.inr (.inr (va_up (va_up (fun _ => none) 0 (some o0_1)) 1 (some o0_2)))))))] ++ (stW cI o0_1 a_k_1 S_k_1 ++ (stW cI o0_2 a_k_2 S_k_2)))) (wc := [(o0_3, .inr (0, [.int (nI (0)), .int (nI (0)), .int (nI (0)), .int (nI (0)), .int (nI (0)), .int (nI (0)), .int (nI (0)), .int (nI (0)), .int (nI (0)), .int (nI (0)), .null, .null, .null, .null, .null, .null, .null, .null, .null]))]) (suf := []) (kIN (As := []) (rest := [.ref (o0_3), .int (nI (2)), .ref (q_6)]) F (c_X0_init l D cI cO _ o0_3) ywX0_init rfl (nk2 hC) qw20 ⟨rfl, rfl⟩ ⟨Nat.le_of_ble_eq_true rfl, Nat.le_of_ble_eq_true rfl⟩ (preN (va_pr0 (va_pr0 (va_pr0 (va_pr0 hP)))) hC hO (va_dr (va_dr (va_dr (va_dr hD))))) rfl hl.1 rfl (Nat.le_of_ble_eq_true rfl) dX1_init_28 ⟨Nat.le_of_ble_eq_true rfl, Nat.le_of_ble_eq_true rfl⟩) (by simpa only [List.append_assoc, List.nil_append, List.append_nil] using hP) (by simpa only [List.append_assoc, List.nil_append, List.append_nil] using hD) hS hA (fun u_k_3 H locs h_28 hP hD hS => ?_)
  obtain ⟨a_k_3, S_k_3⟩ := u_k_3
  refine W.widen (k := 31) (n := 1405) (Nat.le_of_ble_eq_true rfl) (Nat.le_of_ble_eq_true rfl) ?_
  replace hP : va_P D vwCl ([(us, .inr (1, [.ref (q_6), .int (nI (0)), .int (nI (0))]))] ++ ([(q_6, .inl (cO, 4, .inr (.inr (.inr (.inr (va_up (va_up (fun _ => none) 0 (some o0_1)) 1 (some o0_2)))))))] ++ (stW cI o0_1 a_k_1 S_k_1 ++ (stW cI o0_2 a_k_2 S_k_2 ++ (stW cI o0_3 a_k_3 S_k_3))))) H := by simpa only [List.append_assoc, List.nil_append, List.append_nil] using hP
  replace hD : va_D A ([(us, .inr (1, [.ref (q_6), .int (nI (0)), .int (nI (0))]))] ++ ([(q_6, .inl (cO, 4, .inr (.inr (.inr (.inr (va_up (va_up (fun _ => none) 0 (some o0_1)) 1 (some o0_2)))))))] ++ (stW cI o0_1 a_k_1 S_k_1 ++ (stW cI o0_2 a_k_2 S_k_2 ++ (stW cI o0_3 a_k_3 S_k_3))))) := by simpa only [List.append_assoc, List.nil_append, List.append_nil] using hD
  refine va_astq hx hb hC.1 hP hD hS 1 1 22 0 (r := (RX0, TX0, 19)) rfl rfl rfl rfl (vp_in_nI (by decide) (by decide)) dX1_init_31 (fun H locs hP hD hS => ?_)
  rw [show (nI (2)).toNatClampNeg = 2 from by decide] at hP hD
  replace hP : va_P D vwCl ([(us, .inr (1, [.ref (q_6), .int (nI (0)), .int (nI (0))]))] ++ ([(q_6, .inl (cO, 4, .inr (.inr (.inr (.inr (va_up (va_up (va_up (fun _ => none) 0 (some o0_1)) 1 (some o0_2)) 2 (some o0_3)))))))] ++ (stW cI o0_1 a_k_1 S_k_1 ++ (stW cI o0_2 a_k_2 S_k_2 ++ (stW cI o0_3 a_k_3 S_k_3))))) H := hP
  replace hD : va_D A ([(us, .inr (1, [.ref (q_6), .int (nI (0)), .int (nI (0))]))] ++ ([(q_6, .inl (cO, 4, .inr (.inr (.inr (.inr (va_up (va_up (va_up (fun _ => none) 0 (some o0_1)) 1 (some o0_2)) 2 (some o0_3)))))))] ++ (stW cI o0_1 a_k_1 S_k_1 ++ (stW cI o0_2 a_k_2 S_k_2 ++ (stW cI o0_3 a_k_3 S_k_3))))) := hD
  refine n_iinc (a := 2) (b := 1) (lv' := [(1, .int (nI (3))), (0, .ref (us))]) hx hb dX1_init_32 hl (k := 0) rfl rfl (by decide) rfl (fun ls hl => ?_)
  refine lv_goto (tgt := 14) hx hb dX1_init_35 (by decide) ?_
  refine lv_iload_n hx hb dX1_init_14 rfl (lv_at hl 0 rfl) ?_
  refine lv_iconst (v := (nI (4))) hx hb dX1_init_15 (by decide) ?_
  refine n_icmp_ge (tgt := 38) hx hb dX1_init_16 (by decide) (by omega) (by omega) (fun h => absurd h (by decide)) (fun _ => ?_)
  refine lv_aload_n hx hb dX1_init_19 rfl (lv_at hl 1 rfl) ?_
  refine gt1 hx hb hts hown hC.1 hP 0 rfl 0 (by decide) qw107 rfl dX1_init_20 ?_
  refine lv_iload_n hx hb dX1_init_23 rfl (lv_at hl 0 rfl) ?_
  refine nw_X0 hx hb hts hown qw104 hC hP hD hS hA (Nat.le_of_ble_eq_true rfl) (Nat.le_of_ble_eq_true rfl) dX1_init_24 (fun o0_4 H hP hD hS => ?_)
  refine W.widen (k := 32) (n := 1424) (Nat.le_of_ble_eq_true rfl) (Nat.le_of_ble_eq_true rfl) ?_
  replace hP : va_P D vwCl ([(us, .inr (1, [.ref (q_6), .int (nI (0)), .int (nI (0))]))] ++ ([(q_6, .inl (cO, 4, .inr (.inr (.inr (.inr (va_up (va_up (va_up (fun _ => none) 0 (some o0_1)) 1 (some o0_2)) 2 (some o0_3)))))))] ++ (stW cI o0_1 a_k_1 S_k_1 ++ (stW cI o0_2 a_k_2 S_k_2 ++ (stW cI o0_3 a_k_3 S_k_3 ++ ([(o0_4, .inr (0, [.int (nI (0)), .int (nI (0)), .int (nI (0)), .int (nI (0)), .int (nI (0)), .int (nI (0)), .int (nI (0)), .int (nI (0)), .int (nI (0)), .int (nI (0)), .null, .null, .null, .null, .null, .null, .null, .null, .null]))])))))) H := by simpa only [List.append_assoc, List.nil_append, List.append_nil] using hP
  replace hD : va_D A ([(us, .inr (1, [.ref (q_6), .int (nI (0)), .int (nI (0))]))] ++ ([(q_6, .inl (cO, 4, .inr (.inr (.inr (.inr (va_up (va_up (va_up (fun _ => none) 0 (some o0_1)) 1 (some o0_2)) 2 (some o0_3)))))))] ++ (stW cI o0_1 a_k_1 S_k_1 ++ (stW cI o0_2 a_k_2 S_k_2 ++ (stW cI o0_3 a_k_3 S_k_3 ++ ([(o0_4, .inr (0, [.int (nI (0)), .int (nI (0)), .int (nI (0)), .int (nI (0)), .int (nI (0)), .int (nI (0)), .int (nI (0)), .int (nI (0)), .int (nI (0)), .int (nI (0)), .null, .null, .null, .null, .null, .null, .null, .null, .null]))])))))) := by simpa only [List.append_assoc, List.nil_append, List.append_nil] using hD
  refine lv_dup hx hb dX1_init_27 rfl ?_
  refine goNv (pre := [(us, .inr (1, [.ref (q_6), .int (nI (0)), .int (nI (0))]))] ++ ([(q_6, .inl (cO, 4, .inr (.inr (.inr (.inr (va_up (va_up (va_up (fun _ => none) 0 (some o0_1)) 1 (some o0_2)) 2 (some o0_3)))))))] ++ (stW cI o0_1 a_k_1 S_k_1 ++ (stW cI o0_2 a_k_2 S_k_2 ++ (stW cI o0_3 a_k_3 S_k_3))))) (wc := [(o0_4, .inr (0, [.int (nI (0)), .int (nI (0)), .int (nI (0)), .int (nI (0)), .int (nI (0)), .int (nI (0)), .int (nI (0)), .int (nI (0)), .int (nI (0)), .int (nI (0)), .null, .null, .null, .null, .null, .null, .null, .null, .null]))]) (suf := []) (kIN (As := []) (rest := [.ref (o0_4), .int (nI (3)), .ref (q_6)]) F (c_X0_init l D cI cO _ o0_4) ywX0_init rfl (nk2 hC) qw20 ⟨rfl, rfl⟩ ⟨Nat.le_of_ble_eq_true rfl, Nat.le_of_ble_eq_true rfl⟩ (preN (va_pr0 (va_pr0 (va_pr0 (va_pr0 (va_pr0 hP))))) hC hO (va_dr (va_dr (va_dr (va_dr (va_dr hD)))))) rfl hl.1 rfl (Nat.le_of_ble_eq_true rfl) dX1_init_28 ⟨Nat.le_of_ble_eq_true rfl, Nat.le_of_ble_eq_true rfl⟩) (by simpa only [List.append_assoc, List.nil_append, List.append_nil] using hP) (by simpa only [List.append_assoc, List.nil_append, List.append_nil] using hD) hS hA (fun u_k_4 H locs h_28 hP hD hS => ?_)
  obtain ⟨a_k_4, S_k_4⟩ := u_k_4
  refine W.widen (k := 41) (n := 1872) (Nat.le_of_ble_eq_true rfl) (Nat.le_of_ble_eq_true rfl) ?_
  replace hP : va_P D vwCl ([(us, .inr (1, [.ref (q_6), .int (nI (0)), .int (nI (0))]))] ++ ([(q_6, .inl (cO, 4, .inr (.inr (.inr (.inr (va_up (va_up (va_up (fun _ => none) 0 (some o0_1)) 1 (some o0_2)) 2 (some o0_3)))))))] ++ (stW cI o0_1 a_k_1 S_k_1 ++ (stW cI o0_2 a_k_2 S_k_2 ++ (stW cI o0_3 a_k_3 S_k_3 ++ (stW cI o0_4 a_k_4 S_k_4)))))) H := by simpa only [List.append_assoc, List.nil_append, List.append_nil] using hP
  replace hD : va_D A ([(us, .inr (1, [.ref (q_6), .int (nI (0)), .int (nI (0))]))] ++ ([(q_6, .inl (cO, 4, .inr (.inr (.inr (.inr (va_up (va_up (va_up (fun _ => none) 0 (some o0_1)) 1 (some o0_2)) 2 (some o0_3)))))))] ++ (stW cI o0_1 a_k_1 S_k_1 ++ (stW cI o0_2 a_k_2 S_k_2 ++ (stW cI o0_3 a_k_3 S_k_3 ++ (stW cI o0_4 a_k_4 S_k_4)))))) := by simpa only [List.append_assoc, List.nil_append, List.append_nil] using hD
  refine va_astq hx hb hC.1 hP hD hS 1 1 32 0 (r := (RX0, TX0, 19)) rfl rfl rfl rfl (vp_in_nI (by decide) (by decide)) dX1_init_31 (fun H locs hP hD hS => ?_)
  rw [show (nI (3)).toNatClampNeg = 3 from by decide] at hP hD
  replace hP : va_P D vwCl ([(us, .inr (1, [.ref (q_6), .int (nI (0)), .int (nI (0))]))] ++ ([(q_6, .inl (cO, 4, .inr (.inr (.inr (.inr (va_up (va_up (va_up (va_up (fun _ => none) 0 (some o0_1)) 1 (some o0_2)) 2 (some o0_3)) 3 (some o0_4)))))))] ++ (stW cI o0_1 a_k_1 S_k_1 ++ (stW cI o0_2 a_k_2 S_k_2 ++ (stW cI o0_3 a_k_3 S_k_3 ++ (stW cI o0_4 a_k_4 S_k_4)))))) H := hP
  replace hD : va_D A ([(us, .inr (1, [.ref (q_6), .int (nI (0)), .int (nI (0))]))] ++ ([(q_6, .inl (cO, 4, .inr (.inr (.inr (.inr (va_up (va_up (va_up (va_up (fun _ => none) 0 (some o0_1)) 1 (some o0_2)) 2 (some o0_3)) 3 (some o0_4)))))))] ++ (stW cI o0_1 a_k_1 S_k_1 ++ (stW cI o0_2 a_k_2 S_k_2 ++ (stW cI o0_3 a_k_3 S_k_3 ++ (stW cI o0_4 a_k_4 S_k_4)))))) := hD
  refine n_iinc (a := 3) (b := 1) (lv' := [(1, .int (nI (4))), (0, .ref (us))]) hx hb dX1_init_32 hl (k := 0) rfl rfl (by decide) rfl (fun ls hl => ?_)
  refine lv_goto (tgt := 14) hx hb dX1_init_35 (by decide) ?_
  refine lv_iload_n hx hb dX1_init_14 rfl (lv_at hl 0 rfl) ?_
  refine lv_iconst (v := (nI (4))) hx hb dX1_init_15 (by decide) ?_
  refine n_icmp_ge (tgt := 38) hx hb dX1_init_16 (by decide) (by omega) (by omega) (fun _ => ?_) (fun h => absurd h (by decide))
  rw [ring4] at hP hD
  replace hP : va_P D vwCl (usS cI cO us q_6 (l4 o0_1 o0_2 o0_3 o0_4) (l4 a_k_1 a_k_2 a_k_3 a_k_4) (nI 0) (nI 0) (l4 S_k_1 S_k_2 S_k_3 S_k_4)) H := hP
  replace hD : va_D A (usS cI cO us q_6 (l4 o0_1 o0_2 o0_3 o0_4) (l4 a_k_1 a_k_2 a_k_3 a_k_4) (nI 0) (nI 0) (l4 S_k_1 S_k_2 S_k_3 S_k_4)) := hD
  exact hret ((q_6, (l4 o0_1 o0_2 o0_3 o0_4), (l4 a_k_1 a_k_2 a_k_3 a_k_4), (l4 S_k_1 S_k_2 S_k_3 S_k_4))) _ ls _ _ (trivial) hP hD hS dX1_init_38

set_option maxHeartbeats 4000000 in
set_option maxRecDepth 100000 in
theorem c_X2_init (l : Launch) (D : va_G) (cI cO : ClassId) (sz : Nat) (o : Nat) : Met l yX2_init (Cond.code yX2_init cX2_init 1 none :: WL) ({ frames := 3, cells := 53, slots := 2438, locals := 64 } : Room) (va_Pc [.ref (o)] (PN D cI cO ([(o, .inr (2, [.null, .null, .null, .int (nI (0)), .int (nI (0)), .int (nI (0))]))]) sz)) (va_Qv (fun (u : (Nat × Nat × Nat × Nat) × (Nat → Nat) × (Nat → Nat → Nat) × (Nat → Nat) × CV) => u.2.2.2.2.1 = (nI 0, nI 0, nI 0) ∧ CPY u.2.2.2.2.2.1 SZr ∧ u.2.2.2.2.2.2.2.1 = nI 0 ∧ u.2.2.2.2.2.2.2.2.1 = nI 0) (QB D ([(o, .inr (2, [.null, .null, .null, .int (nI (0)), .int (nI (0)), .int (nI (0))]))]) sz (fun (u : (Nat × Nat × Nat × Nat) × (Nat → Nat) × (Nat → Nat → Nat) × (Nat → Nat) × CV) => cvU cI cO o u.1.1 u.1.2.1 u.2.1 u.2.2.1 u.1.2.2.1 u.2.2.2.1 u.1.2.2.2 u.2.2.2.2)) (va_A ([(o, .inr (2, [.null, .null, .null, .int (nI (0)), .int (nI (0)), .int (nI (0))]))]) sz)) 53 2438 (va_A ([(o, .inr (2, [.null, .null, .null, .int (nI (0)), .int (nI (0)), .int (nI (0))]))]) sz) := by
  refine wn_void (by decide) rfl (Nat.le_of_ble_eq_true rfl) ?_
  intro p e s m args below meth c Q ls A F hin hP hC hO hD hA hret hl
  have hx := F.1
  have hb := F.2.1
  have hml := F.2.2.1
  have hown := F.2.2.2.1
  have hts := F.2.2.2.2
  replace hl : lv_has ls 1 [(0, .ref (o))] := hl
  have hS : va_S A s.heap s.heap [] := va_S.rf
  refine lv_aload_n hx hb dX2_init_0 rfl (lv_at hl 0 rfl) ?_
  refine W.objInit hx hb hown (hts _ qw14) (hts _ qw15) (hts _ qw16) rfl (by rw [hml]; exact hl.1) rfl dX2_init_1 (Nat.le_of_ble_eq_true rfl) (Nat.le_of_ble_eq_true rfl) ?_
  refine W.eq (g2 := F0 m 4 ls []) rfl ?_
  refine lv_aload_n hx hb dX2_init_4 rfl (lv_at hl 0 rfl) ?_
  refine nw_X0 hx hb hts hown qw17 hC hP hD hS hA (Nat.le_of_ble_eq_true rfl) (Nat.le_of_ble_eq_true rfl) dX2_init_5 (fun o0_1 H hP hD hS => ?_)
  refine W.widen (k := 1) (n := 19) (Nat.le_of_ble_eq_true rfl) (Nat.le_of_ble_eq_true rfl) ?_
  replace hP : va_P D vwCl ([(o, .inr (2, [.null, .null, .null, .int (nI (0)), .int (nI (0)), .int (nI (0))]))] ++ ([(o0_1, .inr (0, [.int (nI (0)), .int (nI (0)), .int (nI (0)), .int (nI (0)), .int (nI (0)), .int (nI (0)), .int (nI (0)), .int (nI (0)), .int (nI (0)), .int (nI (0)), .null, .null, .null, .null, .null, .null, .null, .null, .null]))])) H := by simpa only [List.append_assoc, List.nil_append, List.append_nil] using hP
  replace hD : va_D A ([(o, .inr (2, [.null, .null, .null, .int (nI (0)), .int (nI (0)), .int (nI (0))]))] ++ ([(o0_1, .inr (0, [.int (nI (0)), .int (nI (0)), .int (nI (0)), .int (nI (0)), .int (nI (0)), .int (nI (0)), .int (nI (0)), .int (nI (0)), .int (nI (0)), .int (nI (0)), .null, .null, .null, .null, .null, .null, .null, .null, .null]))])) := by simpa only [List.append_assoc, List.nil_append, List.append_nil] using hD
  refine lv_dup hx hb dX2_init_8 rfl ?_
  refine goNv (pre := [(o, .inr (2, [.null, .null, .null, .int (nI (0)), .int (nI (0)), .int (nI (0))]))]) (wc := [(o0_1, .inr (0, [.int (nI (0)), .int (nI (0)), .int (nI (0)), .int (nI (0)), .int (nI (0)), .int (nI (0)), .int (nI (0)), .int (nI (0)), .int (nI (0)), .int (nI (0)), .null, .null, .null, .null, .null, .null, .null, .null, .null]))]) (suf := []) (kIN (As := []) (rest := [.ref (o0_1), .ref (o)]) F (c_X0_init l D cI cO _ o0_1) ywX0_init rfl (nk0 hC) qw20 ⟨rfl, rfl⟩ ⟨Nat.le_of_ble_eq_true rfl, Nat.le_of_ble_eq_true rfl⟩ (preN (va_pr0 hP) hC hO (va_dr hD)) rfl hl.1 rfl (Nat.le_of_ble_eq_true rfl) dX2_init_9 ⟨Nat.le_of_ble_eq_true rfl, Nat.le_of_ble_eq_true rfl⟩) (by simpa only [List.append_assoc, List.nil_append, List.append_nil] using hP) (by simpa only [List.append_assoc, List.nil_append, List.append_nil] using hD) hS hA (fun u_k_1 H locs h_9 hP hD hS => ?_)
  obtain ⟨a_k_1, S_k_1⟩ := u_k_1
  refine W.widen (k := 10) (n := 467) (Nat.le_of_ble_eq_true rfl) (Nat.le_of_ble_eq_true rfl) ?_
  replace hP : va_P D vwCl ([(o, .inr (2, [.null, .null, .null, .int (nI (0)), .int (nI (0)), .int (nI (0))]))] ++ (stW cI o0_1 a_k_1 S_k_1)) H := by simpa only [List.append_assoc, List.nil_append, List.append_nil] using hP
  replace hD : va_D A ([(o, .inr (2, [.null, .null, .null, .int (nI (0)), .int (nI (0)), .int (nI (0))]))] ++ (stW cI o0_1 a_k_1 S_k_1)) := by simpa only [List.append_assoc, List.nil_append, List.append_nil] using hD
  refine ptF2 hx hb hts hown hC hP hD hS hin 0 rfl 0 (by decide) qw118 rfl rfl rfl rfl (Nat.le_of_ble_eq_true rfl) dX2_init_12 (fun H locs hP hD hS => ?_)
  replace hP : va_P D vwCl ([(o, .inr (2, [.ref (o0_1), .null, .null, .int (nI (0)), .int (nI (0)), .int (nI (0))]))] ++ (stW cI o0_1 a_k_1 S_k_1)) H := by exact hP
  replace hD : va_D A ([(o, .inr (2, [.ref (o0_1), .null, .null, .int (nI (0)), .int (nI (0)), .int (nI (0))]))] ++ (stW cI o0_1 a_k_1 S_k_1)) := by exact hD
  refine lv_aload_n hx hb dX2_init_15 rfl (lv_at hl 0 rfl) ?_
  refine nw_X1 hx hb hts hown qw98 hC hP hD hS hA (Nat.le_of_ble_eq_true rfl) (Nat.le_of_ble_eq_true rfl) dX2_init_16 (fun o1_1 H hP hD hS => ?_)
  refine W.widen (k := 11) (n := 470) (Nat.le_of_ble_eq_true rfl) (Nat.le_of_ble_eq_true rfl) ?_
  replace hP : va_P D vwCl ([(o, .inr (2, [.ref (o0_1), .null, .null, .int (nI (0)), .int (nI (0)), .int (nI (0))]))] ++ (stW cI o0_1 a_k_1 S_k_1 ++ ([(o1_1, .inr (1, [.null, .int (nI (0)), .int (nI (0))]))]))) H := by simpa only [List.append_assoc, List.nil_append, List.append_nil] using hP
  replace hD : va_D A ([(o, .inr (2, [.ref (o0_1), .null, .null, .int (nI (0)), .int (nI (0)), .int (nI (0))]))] ++ (stW cI o0_1 a_k_1 S_k_1 ++ ([(o1_1, .inr (1, [.null, .int (nI (0)), .int (nI (0))]))]))) := by simpa only [List.append_assoc, List.nil_append, List.append_nil] using hD
  refine lv_dup hx hb dX2_init_19 rfl ?_
  refine goNv (pre := [(o, .inr (2, [.ref (o0_1), .null, .null, .int (nI (0)), .int (nI (0)), .int (nI (0))]))] ++ (stW cI o0_1 a_k_1 S_k_1)) (wc := [(o1_1, .inr (1, [.null, .int (nI (0)), .int (nI (0))]))]) (suf := []) (kIN (As := []) (rest := [.ref (o1_1), .ref (o)]) F (c_X1_init l D cI cO _ o1_1) ywX1_init rfl (nk1 hC) qw101 ⟨rfl, rfl⟩ ⟨Nat.le_of_ble_eq_true rfl, Nat.le_of_ble_eq_true rfl⟩ (preN (va_pr0 (va_pr0 hP)) hC hO (va_dr (va_dr hD))) rfl hl.1 rfl (Nat.le_of_ble_eq_true rfl) dX2_init_20 ⟨Nat.le_of_ble_eq_true rfl, Nat.le_of_ble_eq_true rfl⟩) (by simpa only [List.append_assoc, List.nil_append, List.append_nil] using hP) (by simpa only [List.append_assoc, List.nil_append, List.append_nil] using hD) hS hA (fun u_us H locs h_20 hP hD hS => ?_)
  obtain ⟨rg, g, ga, G⟩ := u_us
  refine W.widen (k := 52) (n := 2342) (Nat.le_of_ble_eq_true rfl) (Nat.le_of_ble_eq_true rfl) ?_
  replace hP : va_P D vwCl ([(o, .inr (2, [.ref (o0_1), .null, .null, .int (nI (0)), .int (nI (0)), .int (nI (0))]))] ++ (stW cI o0_1 a_k_1 S_k_1 ++ (usS cI cO o1_1 rg g ga ((nI 0)) ((nI 0)) G))) H := by simpa only [List.append_assoc, List.nil_append, List.append_nil] using hP
  replace hD : va_D A ([(o, .inr (2, [.ref (o0_1), .null, .null, .int (nI (0)), .int (nI (0)), .int (nI (0))]))] ++ (stW cI o0_1 a_k_1 S_k_1 ++ (usS cI cO o1_1 rg g ga ((nI 0)) ((nI 0)) G))) := by simpa only [List.append_assoc, List.nil_append, List.append_nil] using hD
  refine ptF2 hx hb hts hown hC hP hD hS hin 0 rfl 1 (by decide) qw119 rfl rfl rfl rfl (Nat.le_of_ble_eq_true rfl) dX2_init_23 (fun H locs hP hD hS => ?_)
  replace hP : va_P D vwCl ([(o, .inr (2, [.ref (o0_1), .ref (o1_1), .null, .int (nI (0)), .int (nI (0)), .int (nI (0))]))] ++ (stW cI o0_1 a_k_1 S_k_1 ++ (usS cI cO o1_1 rg g ga ((nI 0)) ((nI 0)) G))) H := by exact hP
  replace hD : va_D A ([(o, .inr (2, [.ref (o0_1), .ref (o1_1), .null, .int (nI (0)), .int (nI (0)), .int (nI (0))]))] ++ (stW cI o0_1 a_k_1 S_k_1 ++ (usS cI cO o1_1 rg g ga ((nI 0)) ((nI 0)) G))) := by exact hD
  refine lv_aload_n hx hb dX2_init_26 rfl (lv_at hl 0 rfl) ?_
  refine lv_bipush (v := (nI (96))) hx hb dX2_init_27 (by decide) ?_
  refine nw_int hx hb hts hC hP hD hS hA (by decide) (Nat.le_of_ble_eq_true rfl) (Nat.le_of_ble_eq_true rfl) dX2_init_29 (fun q_29 H hP hD hS => ?_)
  refine W.widen (k := 53) (n := 2438) (Nat.le_of_ble_eq_true rfl) (Nat.le_of_ble_eq_true rfl) ?_
  replace hP : va_P D vwCl ([(o, .inr (2, [.ref (o0_1), .ref (o1_1), .null, .int (nI (0)), .int (nI (0)), .int (nI (0))]))] ++ (stW cI o0_1 a_k_1 S_k_1 ++ (usS cI cO o1_1 rg g ga ((nI 0)) ((nI 0)) G ++ ([(q_29, .inl (cI, 96, .inl (fun _ => nI 0)))])))) H := by simpa only [List.append_assoc, List.nil_append, List.append_nil] using hP
  replace hD : va_D A ([(o, .inr (2, [.ref (o0_1), .ref (o1_1), .null, .int (nI (0)), .int (nI (0)), .int (nI (0))]))] ++ (stW cI o0_1 a_k_1 S_k_1 ++ (usS cI cO o1_1 rg g ga ((nI 0)) ((nI 0)) G ++ ([(q_29, .inl (cI, 96, .inl (fun _ => nI 0)))])))) := by simpa only [List.append_assoc, List.nil_append, List.append_nil] using hD
  refine ptF2 hx hb hts hown hC hP hD hS hin 0 rfl 2 (by decide) qw120 rfl rfl rfl rfl (Nat.le_of_ble_eq_true rfl) dX2_init_31 (fun H locs hP hD hS => ?_)
  replace hP : va_P D vwCl ([(o, .inr (2, [.ref (o0_1), .ref (o1_1), .ref (q_29), .int (nI (0)), .int (nI (0)), .int (nI (0))]))] ++ (stW cI o0_1 a_k_1 S_k_1 ++ (usS cI cO o1_1 rg g ga ((nI 0)) ((nI 0)) G ++ ([(q_29, .inl (cI, 96, .inl (fun _ => nI 0)))])))) H := by exact hP
  replace hD : va_D A ([(o, .inr (2, [.ref (o0_1), .ref (o1_1), .ref (q_29), .int (nI (0)), .int (nI (0)), .int (nI (0))]))] ++ (stW cI o0_1 a_k_1 S_k_1 ++ (usS cI cO o1_1 rg g ga ((nI 0)) ((nI 0)) G ++ ([(q_29, .inl (cI, 96, .inl (fun _ => nI 0)))])))) := by exact hD
  have q9 : va_P D vwCl (([(o, .inr (2, [.ref (o0_1), .ref (o1_1), .ref (q_29), .int (nI (0)), .int (nI (0)), .int (nI (0))]))] ++ (stW cI o0_1 a_k_1 S_k_1)) ++ (usS cI cO o1_1 rg g ga ((nI 0)) ((nI 0)) G ++ ([(q_29, .inl (cI, 96, .inl (fun _ => nI 0)))]))) H := by simpa only [List.append_assoc, List.nil_append, List.append_nil] using hP
  have q8 : va_D A (([(o, .inr (2, [.ref (o0_1), .ref (o1_1), .ref (q_29), .int (nI (0)), .int (nI (0)), .int (nI (0))]))] ++ (stW cI o0_1 a_k_1 S_k_1)) ++ (usS cI cO o1_1 rg g ga ((nI 0)) ((nI 0)) G ++ ([(q_29, .inl (cI, 96, .inl (fun _ => nI 0)))]))) := by simpa only [List.append_assoc, List.nil_append, List.append_nil] using hD
  replace q9 := va_mvP q9
  replace q8 := va_mvD q8
  replace hP : va_P D vwCl (usS cI cO o1_1 rg g ga ((nI 0)) ((nI 0)) G ++ ([(o, .inr (2, [.ref (o0_1), .ref (o1_1), .ref (q_29), .int (nI (0)), .int (nI (0)), .int (nI (0))]))] ++ (stW cI o0_1 a_k_1 S_k_1 ++ ([(q_29, .inl (cI, 96, .inl (fun _ => nI 0)))])))) H := by simpa only [List.append_assoc, List.nil_append, List.append_nil] using q9
  replace hD : va_D A (usS cI cO o1_1 rg g ga ((nI 0)) ((nI 0)) G ++ ([(o, .inr (2, [.ref (o0_1), .ref (o1_1), .ref (q_29), .int (nI (0)), .int (nI (0)), .int (nI (0))]))] ++ (stW cI o0_1 a_k_1 S_k_1 ++ ([(q_29, .inl (cI, 96, .inl (fun _ => nI 0)))])))) := by simpa only [List.append_assoc, List.nil_append, List.append_nil] using q8
  have q9 : va_P D vwCl ((usS cI cO o1_1 rg g ga ((nI 0)) ((nI 0)) G) ++ ([(o, .inr (2, [.ref (o0_1), .ref (o1_1), .ref (q_29), .int (nI (0)), .int (nI (0)), .int (nI (0))]))] ++ (stW cI o0_1 a_k_1 S_k_1 ++ ([(q_29, .inl (cI, 96, .inl (fun _ => nI 0)))])))) H := by simpa only [List.append_assoc, List.nil_append, List.append_nil] using hP
  have q8 : va_D A ((usS cI cO o1_1 rg g ga ((nI 0)) ((nI 0)) G) ++ ([(o, .inr (2, [.ref (o0_1), .ref (o1_1), .ref (q_29), .int (nI (0)), .int (nI (0)), .int (nI (0))]))] ++ (stW cI o0_1 a_k_1 S_k_1 ++ ([(q_29, .inl (cI, 96, .inl (fun _ => nI 0)))])))) := by simpa only [List.append_assoc, List.nil_append, List.append_nil] using hD
  replace q9 := va_mvP q9
  replace q8 := va_mvD q8
  replace hP : va_P D vwCl ([(o, .inr (2, [.ref (o0_1), .ref (o1_1), .ref (q_29), .int (nI (0)), .int (nI (0)), .int (nI (0))]))] ++ (usS cI cO o1_1 rg g ga ((nI 0)) ((nI 0)) G ++ (stW cI o0_1 a_k_1 S_k_1 ++ ([(q_29, .inl (cI, 96, .inl (fun _ => nI 0)))])))) H := by simpa only [List.append_assoc, List.nil_append, List.append_nil] using q9
  replace hD : va_D A ([(o, .inr (2, [.ref (o0_1), .ref (o1_1), .ref (q_29), .int (nI (0)), .int (nI (0)), .int (nI (0))]))] ++ (usS cI cO o1_1 rg g ga ((nI 0)) ((nI 0)) G ++ (stW cI o0_1 a_k_1 S_k_1 ++ ([(q_29, .inl (cI, 96, .inl (fun _ => nI 0)))])))) := by simpa only [List.append_assoc, List.nil_append, List.append_nil] using q8
  replace hP : va_P D vwCl (cvU cI cO o o1_1 rg g ga o0_1 a_k_1 q_29 ((nI 0, nI 0, nI 0), S_k_1, (fun _ => nI 0), nI 0, nI 0, G)) H := hP
  replace hD : va_D A (cvU cI cO o o1_1 rg g ga o0_1 a_k_1 q_29 ((nI 0, nI 0, nI 0), S_k_1, (fun _ => nI 0), nI 0, nI 0, G)) := hD
  exact hret (((o1_1, rg, o0_1, q_29), g, ga, a_k_1, ((nI 0, nI 0, nI 0), S_k_1, (fun _ => nI 0), nI 0, nI 0, G))) _ ls _ _ (⟨rfl, h_9, rfl, rfl⟩) hP hD hS dX2_init_34

set_option maxHeartbeats 4000000 in
set_option maxRecDepth 100000 in
theorem c_X3_init (l : Launch) (D : va_G) (cI cO : ClassId) (sz : Nat) (h : Nat) : Met l yX3_init (Cond.code yX3_init cX3_init 2 none :: WL) ({ frames := 1, cells := 5, slots := 2473, locals := 12 } : Room) (va_Pc [.ref (h)] (PN D cI cO ([(h, .inr (3, [.null, .null, .int (nI (0)), .null, .null, .null, .long (0)]))]) sz)) (va_Qv (fun (u : (Nat → Nat) × (Nat → Int32)) => u.2 = w0) (QB D ([(h, .inr (3, [.null, .null, .int (nI (0)), .null, .null, .null, .long (0)]))]) sz (fun (u : (Nat → Nat) × (Nat → Int32)) => mdW cI h u.1 u.2 (fun _ => nI 0) (fun _ => nI 0) (fun _ => nI 0) (fun _ => nI 0) (nI 0) 0)) (va_A ([(h, .inr (3, [.null, .null, .int (nI (0)), .null, .null, .null, .long (0)]))]) sz)) 5 2473 (va_A ([(h, .inr (3, [.null, .null, .int (nI (0)), .null, .null, .null, .long (0)]))]) sz) := by
  refine wn_void (by decide) rfl (Nat.le_of_ble_eq_true rfl) ?_
  intro p e s m args below meth c Q ls A F hin hP hC hO hD hA hret hl
  have hx := F.1
  have hb := F.2.1
  have hml := F.2.2.1
  have hown := F.2.2.2.1
  have hts := F.2.2.2.2
  replace hl : lv_has ls 2 [(0, .ref (h))] := hl
  have hS : va_S A s.heap s.heap [] := va_S.rf
  refine lv_aload_n hx hb dX3_init_0 rfl (lv_at hl 0 rfl) ?_
  refine W.objInit hx hb hown (hts _ qw455) (hts _ qw15) (hts _ qw16) rfl (by rw [hml]; exact hl.1) rfl dX3_init_1 (Nat.le_of_ble_eq_true rfl) (Nat.le_of_ble_eq_true rfl) ?_
  refine W.eq (g2 := F0 m 4 ls []) rfl ?_
  refine lv_aload_n hx hb dX3_init_4 rfl (lv_at hl 0 rfl) ?_
  refine lv_sipush (v := (nI (470))) hx hb dX3_init_5 (by decide) ?_
  refine nw_int hx hb hts hC hP hD hS hA (by decide) (Nat.le_of_ble_eq_true rfl) (Nat.le_of_ble_eq_true rfl) dX3_init_8 (fun q_8 H hP hD hS => ?_)
  refine W.widen (k := 1) (n := 470) (Nat.le_of_ble_eq_true rfl) (Nat.le_of_ble_eq_true rfl) ?_
  replace hP : va_P D vwCl ([(h, .inr (3, [.null, .null, .int (nI (0)), .null, .null, .null, .long (0)]))] ++ ([(q_8, .inl (cI, 470, .inl (fun _ => nI 0)))])) H := by simpa only [List.append_assoc, List.nil_append, List.append_nil] using hP
  replace hD : va_D A ([(h, .inr (3, [.null, .null, .int (nI (0)), .null, .null, .null, .long (0)]))] ++ ([(q_8, .inl (cI, 470, .inl (fun _ => nI 0)))])) := by simpa only [List.append_assoc, List.nil_append, List.append_nil] using hD
  refine ptF3 hx hb hts hown hC hP hD hS hin 0 rfl 0 (by decide) qw456 rfl rfl rfl rfl (Nat.le_of_ble_eq_true rfl) dX3_init_10 (fun H locs hP hD hS => ?_)
  replace hP : va_P D vwCl ([(h, .inr (3, [.ref (q_8), .null, .int (nI (0)), .null, .null, .null, .long (0)]))] ++ ([(q_8, .inl (cI, 470, .inl (fun _ => nI 0)))])) H := by exact hP
  replace hD : va_D A ([(h, .inr (3, [.ref (q_8), .null, .int (nI (0)), .null, .null, .null, .long (0)]))] ++ ([(q_8, .inl (cI, 470, .inl (fun _ => nI 0)))])) := by exact hD
  refine lv_aload_n hx hb dX3_init_13 rfl (lv_at hl 0 rfl) ?_
  refine lv_sipush (v := (nI (1880))) hx hb dX3_init_14 (by decide) ?_
  refine nw_int hx hb hts hC hP hD hS hA (by decide) (Nat.le_of_ble_eq_true rfl) (Nat.le_of_ble_eq_true rfl) dX3_init_17 (fun q_17 H hP hD hS => ?_)
  refine W.widen (k := 2) (n := 2350) (Nat.le_of_ble_eq_true rfl) (Nat.le_of_ble_eq_true rfl) ?_
  replace hP : va_P D vwCl ([(h, .inr (3, [.ref (q_8), .null, .int (nI (0)), .null, .null, .null, .long (0)]))] ++ ([(q_8, .inl (cI, 470, .inl (fun _ => nI 0)))] ++ ([(q_17, .inl (cI, 1880, .inl (fun _ => nI 0)))]))) H := by simpa only [List.append_assoc, List.nil_append, List.append_nil] using hP
  replace hD : va_D A ([(h, .inr (3, [.ref (q_8), .null, .int (nI (0)), .null, .null, .null, .long (0)]))] ++ ([(q_8, .inl (cI, 470, .inl (fun _ => nI 0)))] ++ ([(q_17, .inl (cI, 1880, .inl (fun _ => nI 0)))]))) := by simpa only [List.append_assoc, List.nil_append, List.append_nil] using hD
  refine ptF3 hx hb hts hown hC hP hD hS hin 0 rfl 1 (by decide) qw457 rfl rfl rfl rfl (Nat.le_of_ble_eq_true rfl) dX3_init_19 (fun H locs hP hD hS => ?_)
  replace hP : va_P D vwCl ([(h, .inr (3, [.ref (q_8), .ref (q_17), .int (nI (0)), .null, .null, .null, .long (0)]))] ++ ([(q_8, .inl (cI, 470, .inl (fun _ => nI 0)))] ++ ([(q_17, .inl (cI, 1880, .inl (fun _ => nI 0)))]))) H := by exact hP
  replace hD : va_D A ([(h, .inr (3, [.ref (q_8), .ref (q_17), .int (nI (0)), .null, .null, .null, .long (0)]))] ++ ([(q_8, .inl (cI, 470, .inl (fun _ => nI 0)))] ++ ([(q_17, .inl (cI, 1880, .inl (fun _ => nI 0)))]))) := by exact hD
  refine lv_aload_n hx hb dX3_init_22 rfl (lv_at hl 0 rfl) ?_
  refine lv_iconst (v := (nI (3))) hx hb dX3_init_23 (by decide) ?_
  refine nw_int hx hb hts hC hP hD hS hA (by decide) (Nat.le_of_ble_eq_true rfl) (Nat.le_of_ble_eq_true rfl) dX3_init_24 (fun q_24 H hP hD hS => ?_)
  refine W.widen (k := 3) (n := 2353) (Nat.le_of_ble_eq_true rfl) (Nat.le_of_ble_eq_true rfl) ?_
  replace hP : va_P D vwCl ([(h, .inr (3, [.ref (q_8), .ref (q_17), .int (nI (0)), .null, .null, .null, .long (0)]))] ++ ([(q_8, .inl (cI, 470, .inl (fun _ => nI 0)))] ++ ([(q_17, .inl (cI, 1880, .inl (fun _ => nI 0)))] ++ ([(q_24, .inl (cI, 3, .inl (fun _ => nI 0)))])))) H := by simpa only [List.append_assoc, List.nil_append, List.append_nil] using hP
  replace hD : va_D A ([(h, .inr (3, [.ref (q_8), .ref (q_17), .int (nI (0)), .null, .null, .null, .long (0)]))] ++ ([(q_8, .inl (cI, 470, .inl (fun _ => nI 0)))] ++ ([(q_17, .inl (cI, 1880, .inl (fun _ => nI 0)))] ++ ([(q_24, .inl (cI, 3, .inl (fun _ => nI 0)))])))) := by simpa only [List.append_assoc, List.nil_append, List.append_nil] using hD
  refine ptF3 hx hb hts hown hC hP hD hS hin 0 rfl 3 (by decide) qw459 rfl rfl rfl rfl (Nat.le_of_ble_eq_true rfl) dX3_init_26 (fun H locs hP hD hS => ?_)
  replace hP : va_P D vwCl ([(h, .inr (3, [.ref (q_8), .ref (q_17), .int (nI (0)), .ref (q_24), .null, .null, .long (0)]))] ++ ([(q_8, .inl (cI, 470, .inl (fun _ => nI 0)))] ++ ([(q_17, .inl (cI, 1880, .inl (fun _ => nI 0)))] ++ ([(q_24, .inl (cI, 3, .inl (fun _ => nI 0)))])))) H := by exact hP
  replace hD : va_D A ([(h, .inr (3, [.ref (q_8), .ref (q_17), .int (nI (0)), .ref (q_24), .null, .null, .long (0)]))] ++ ([(q_8, .inl (cI, 470, .inl (fun _ => nI 0)))] ++ ([(q_17, .inl (cI, 1880, .inl (fun _ => nI 0)))] ++ ([(q_24, .inl (cI, 3, .inl (fun _ => nI 0)))])))) := by exact hD
  refine lv_aload_n hx hb dX3_init_29 rfl (lv_at hl 0 rfl) ?_
  refine lv_bipush (v := (nI (96))) hx hb dX3_init_30 (by decide) ?_
  refine nw_int hx hb hts hC hP hD hS hA (by decide) (Nat.le_of_ble_eq_true rfl) (Nat.le_of_ble_eq_true rfl) dX3_init_32 (fun q_32 H hP hD hS => ?_)
  refine W.widen (k := 4) (n := 2449) (Nat.le_of_ble_eq_true rfl) (Nat.le_of_ble_eq_true rfl) ?_
  replace hP : va_P D vwCl ([(h, .inr (3, [.ref (q_8), .ref (q_17), .int (nI (0)), .ref (q_24), .null, .null, .long (0)]))] ++ ([(q_8, .inl (cI, 470, .inl (fun _ => nI 0)))] ++ ([(q_17, .inl (cI, 1880, .inl (fun _ => nI 0)))] ++ ([(q_24, .inl (cI, 3, .inl (fun _ => nI 0)))] ++ ([(q_32, .inl (cI, 96, .inl (fun _ => nI 0)))]))))) H := by simpa only [List.append_assoc, List.nil_append, List.append_nil] using hP
  replace hD : va_D A ([(h, .inr (3, [.ref (q_8), .ref (q_17), .int (nI (0)), .ref (q_24), .null, .null, .long (0)]))] ++ ([(q_8, .inl (cI, 470, .inl (fun _ => nI 0)))] ++ ([(q_17, .inl (cI, 1880, .inl (fun _ => nI 0)))] ++ ([(q_24, .inl (cI, 3, .inl (fun _ => nI 0)))] ++ ([(q_32, .inl (cI, 96, .inl (fun _ => nI 0)))]))))) := by simpa only [List.append_assoc, List.nil_append, List.append_nil] using hD
  refine ptF3 hx hb hts hown hC hP hD hS hin 0 rfl 4 (by decide) qw460 rfl rfl rfl rfl (Nat.le_of_ble_eq_true rfl) dX3_init_34 (fun H locs hP hD hS => ?_)
  replace hP : va_P D vwCl ([(h, .inr (3, [.ref (q_8), .ref (q_17), .int (nI (0)), .ref (q_24), .ref (q_32), .null, .long (0)]))] ++ ([(q_8, .inl (cI, 470, .inl (fun _ => nI 0)))] ++ ([(q_17, .inl (cI, 1880, .inl (fun _ => nI 0)))] ++ ([(q_24, .inl (cI, 3, .inl (fun _ => nI 0)))] ++ ([(q_32, .inl (cI, 96, .inl (fun _ => nI 0)))]))))) H := by exact hP
  replace hD : va_D A ([(h, .inr (3, [.ref (q_8), .ref (q_17), .int (nI (0)), .ref (q_24), .ref (q_32), .null, .long (0)]))] ++ ([(q_8, .inl (cI, 470, .inl (fun _ => nI 0)))] ++ ([(q_17, .inl (cI, 1880, .inl (fun _ => nI 0)))] ++ ([(q_24, .inl (cI, 3, .inl (fun _ => nI 0)))] ++ ([(q_32, .inl (cI, 96, .inl (fun _ => nI 0)))]))))) := by exact hD
  refine lv_aload_n hx hb dX3_init_37 rfl (lv_at hl 0 rfl) ?_
  refine lv_bipush (v := (nI (24))) hx hb dX3_init_38 (by decide) ?_
  refine nw_int hx hb hts hC hP hD hS hA (by decide) (Nat.le_of_ble_eq_true rfl) (Nat.le_of_ble_eq_true rfl) dX3_init_40 (fun q_40 H hP hD hS => ?_)
  refine W.widen (k := 5) (n := 2473) (Nat.le_of_ble_eq_true rfl) (Nat.le_of_ble_eq_true rfl) ?_
  replace hP : va_P D vwCl ([(h, .inr (3, [.ref (q_8), .ref (q_17), .int (nI (0)), .ref (q_24), .ref (q_32), .null, .long (0)]))] ++ ([(q_8, .inl (cI, 470, .inl (fun _ => nI 0)))] ++ ([(q_17, .inl (cI, 1880, .inl (fun _ => nI 0)))] ++ ([(q_24, .inl (cI, 3, .inl (fun _ => nI 0)))] ++ ([(q_32, .inl (cI, 96, .inl (fun _ => nI 0)))] ++ ([(q_40, .inl (cI, 24, .inl (fun _ => nI 0)))])))))) H := by simpa only [List.append_assoc, List.nil_append, List.append_nil] using hP
  replace hD : va_D A ([(h, .inr (3, [.ref (q_8), .ref (q_17), .int (nI (0)), .ref (q_24), .ref (q_32), .null, .long (0)]))] ++ ([(q_8, .inl (cI, 470, .inl (fun _ => nI 0)))] ++ ([(q_17, .inl (cI, 1880, .inl (fun _ => nI 0)))] ++ ([(q_24, .inl (cI, 3, .inl (fun _ => nI 0)))] ++ ([(q_32, .inl (cI, 96, .inl (fun _ => nI 0)))] ++ ([(q_40, .inl (cI, 24, .inl (fun _ => nI 0)))])))))) := by simpa only [List.append_assoc, List.nil_append, List.append_nil] using hD
  refine ptF3 hx hb hts hown hC hP hD hS hin 0 rfl 5 (by decide) qw461 rfl rfl rfl rfl (Nat.le_of_ble_eq_true rfl) dX3_init_42 (fun H locs hP hD hS => ?_)
  replace hP : va_P D vwCl ([(h, .inr (3, [.ref (q_8), .ref (q_17), .int (nI (0)), .ref (q_24), .ref (q_32), .ref (q_40), .long (0)]))] ++ ([(q_8, .inl (cI, 470, .inl (fun _ => nI 0)))] ++ ([(q_17, .inl (cI, 1880, .inl (fun _ => nI 0)))] ++ ([(q_24, .inl (cI, 3, .inl (fun _ => nI 0)))] ++ ([(q_32, .inl (cI, 96, .inl (fun _ => nI 0)))] ++ ([(q_40, .inl (cI, 24, .inl (fun _ => nI 0)))])))))) H := by exact hP
  replace hD : va_D A ([(h, .inr (3, [.ref (q_8), .ref (q_17), .int (nI (0)), .ref (q_24), .ref (q_32), .ref (q_40), .long (0)]))] ++ ([(q_8, .inl (cI, 470, .inl (fun _ => nI 0)))] ++ ([(q_17, .inl (cI, 1880, .inl (fun _ => nI 0)))] ++ ([(q_24, .inl (cI, 3, .inl (fun _ => nI 0)))] ++ ([(q_32, .inl (cI, 96, .inl (fun _ => nI 0)))] ++ ([(q_40, .inl (cI, 24, .inl (fun _ => nI 0)))])))))) := by exact hD
  refine lv_aload_n hx hb dX3_init_45 rfl (lv_at hl 0 rfl) ?_
  refine gt3 hx hb hts hown hC.1 hP 0 rfl 0 (by decide) qw456 rfl dX3_init_46 ?_
  refine lv_sipush (v := (nI (463))) hx hb dX3_init_49 (by decide) ?_
  refine lv_iconst (v := (nI (3))) hx hb dX3_init_52 (by decide) ?_
  refine n_iast hx hb hC.1 hP hD hS 1 0 rfl rfl (by omega) (by decide) dX3_init_53 (fun H locs hP hD hS => ?_)
  obtain ⟨f_1, hf_1⟩ : ∃ z : Nat → Int32, z = upd (fun _ => nI 0) (463) (nI (3)) := ⟨_, rfl⟩
  replace hP : va_P D vwCl ([(h, .inr (3, [.ref (q_8), .ref (q_17), .int (nI (0)), .ref (q_24), .ref (q_32), .ref (q_40), .long (0)]))] ++ ([(q_8, .inl (cI, 470, .inl f_1))] ++ ([(q_17, .inl (cI, 1880, .inl (fun _ => nI 0)))] ++ ([(q_24, .inl (cI, 3, .inl (fun _ => nI 0)))] ++ ([(q_32, .inl (cI, 96, .inl (fun _ => nI 0)))] ++ ([(q_40, .inl (cI, 24, .inl (fun _ => nI 0)))])))))) H := by rw [hf_1]; exact hP
  replace hD : va_D A ([(h, .inr (3, [.ref (q_8), .ref (q_17), .int (nI (0)), .ref (q_24), .ref (q_32), .ref (q_40), .long (0)]))] ++ ([(q_8, .inl (cI, 470, .inl f_1))] ++ ([(q_17, .inl (cI, 1880, .inl (fun _ => nI 0)))] ++ ([(q_24, .inl (cI, 3, .inl (fun _ => nI 0)))] ++ ([(q_32, .inl (cI, 96, .inl (fun _ => nI 0)))] ++ ([(q_40, .inl (cI, 24, .inl (fun _ => nI 0)))])))))) := by rw [hf_1]; exact hD
  refine lv_iconst (v := (nI (0))) hx hb dX3_init_54 (by decide) ?_
  refine lv_istore_n (lv' := [(1, .int (nI (0))), (0, .ref (h))]) hx hb dX3_init_55 rfl hl (by decide) rfl (fun ls hl => ?_)
  have lp_56 : ∀ (fu_56 : Nat) (k : Nat) (wk : Nat → Int32) (H : Heap) (locs : List Loc) (ls : Array Slot), 24 - k < fu_56 → (k ≤ 24) → (∀ x, wk x = if x = 463 then nI 3 else if (197 ≤ x ∧ x < 197 + k) ∨ (221 ≤ x ∧ x < 221 + k) then -1 else nI 0) → va_P D vwCl ([(h, .inr (3, [.ref (q_8), .ref (q_17), .int (nI (0)), .ref (q_24), .ref (q_32), .ref (q_40), .long (0)]))] ++ ([(q_8, .inl (cI, 470, .inl wk))] ++ ([(q_17, .inl (cI, 1880, .inl (fun _ => nI 0)))] ++ ([(q_24, .inl (cI, 3, .inl (fun _ => nI 0)))] ++ ([(q_32, .inl (cI, 96, .inl (fun _ => nI 0)))] ++ ([(q_40, .inl (cI, 24, .inl (fun _ => nI 0)))])))))) H → va_D A ([(h, .inr (3, [.ref (q_8), .ref (q_17), .int (nI (0)), .ref (q_24), .ref (q_32), .ref (q_40), .long (0)]))] ++ ([(q_8, .inl (cI, 470, .inl wk))] ++ ([(q_17, .inl (cI, 1880, .inl (fun _ => nI 0)))] ++ ([(q_24, .inl (cI, 3, .inl (fun _ => nI 0)))] ++ ([(q_32, .inl (cI, 96, .inl (fun _ => nI 0)))] ++ ([(q_40, .inl (cI, 24, .inl (fun _ => nI 0)))])))))) → va_S A s.heap H locs → lv_has ls 2 [(1, .int (nI (k))), (0, .ref (h))] → W p l e ({ frames := 1, cells := 5, slots := 2473, locals := 12 } : Room) s m args below meth c H locs 5 2473 Q (F0 m 56 ls []) := by
    intro fu_56
    induction fu_56 with
    | zero => intro k wk H locs ls hmu_56; exact absurd hmu_56 (Nat.not_lt_zero _)
    | succ fu_56 ih_56 =>
      intro k wk H locs ls hmu_56 hk hwk hP hD hS hl
      refine lv_iload_n hx hb dX3_init_56 rfl (lv_at hl 0 rfl) ?_
      refine lv_bipush (v := (nI (24))) hx hb dX3_init_57 (by decide) ?_
      refine n_icmp_ge (tgt := 90) hx hb dX3_init_59 (by decide) (by omega) (by omega) (fun c_59 => ?_) (fun c_59 => ?_)
      · refine lv_iconst (v := (nI (0))) hx hb dX3_init_90 (by decide) ?_
        refine lv_istore_n (lv' := [(1, .int (nI (0))), (0, .ref (h))]) hx hb dX3_init_91 rfl hl (by decide) rfl (fun ls hl => ?_)
        have lp_92 : ∀ (fu_92 : Nat) (k2 : Nat) (wk2 : Nat → Int32) (H : Heap) (locs : List Loc) (ls : Array Slot), 96 - k2 < fu_92 → (k2 ≤ 96) → (∀ x, wk2 x = if x = 463 then nI 3 else if (197 ≤ x ∧ x < 245) ∨ (366 ≤ x ∧ x < 366 + k2) then -1 else nI 0) → va_P D vwCl ([(h, .inr (3, [.ref (q_8), .ref (q_17), .int (nI (0)), .ref (q_24), .ref (q_32), .ref (q_40), .long (0)]))] ++ ([(q_8, .inl (cI, 470, .inl wk2))] ++ ([(q_17, .inl (cI, 1880, .inl (fun _ => nI 0)))] ++ ([(q_24, .inl (cI, 3, .inl (fun _ => nI 0)))] ++ ([(q_32, .inl (cI, 96, .inl (fun _ => nI 0)))] ++ ([(q_40, .inl (cI, 24, .inl (fun _ => nI 0)))])))))) H → va_D A ([(h, .inr (3, [.ref (q_8), .ref (q_17), .int (nI (0)), .ref (q_24), .ref (q_32), .ref (q_40), .long (0)]))] ++ ([(q_8, .inl (cI, 470, .inl wk2))] ++ ([(q_17, .inl (cI, 1880, .inl (fun _ => nI 0)))] ++ ([(q_24, .inl (cI, 3, .inl (fun _ => nI 0)))] ++ ([(q_32, .inl (cI, 96, .inl (fun _ => nI 0)))] ++ ([(q_40, .inl (cI, 24, .inl (fun _ => nI 0)))])))))) → va_S A s.heap H locs → lv_has ls 2 [(1, .int (nI (k2))), (0, .ref (h))] → W p l e ({ frames := 1, cells := 5, slots := 2473, locals := 12 } : Room) s m args below meth c H locs 5 2473 Q (F0 m 92 ls []) := by
          intro fu_92
          induction fu_92 with
          | zero => intro k2 wk2 H locs ls hmu_92; exact absurd hmu_92 (Nat.not_lt_zero _)
          | succ fu_92 ih_92 =>
            intro k2 wk2 H locs ls hmu_92 hk2 hwk2 hP hD hS hl
            refine lv_iload_n hx hb dX3_init_92 rfl (lv_at hl 0 rfl) ?_
            refine lv_bipush (v := (nI (96))) hx hb dX3_init_93 (by decide) ?_
            refine n_icmp_ge (tgt := 115) hx hb dX3_init_95 (by decide) (by omega) (by omega) (fun c_95 => ?_) (fun c_95 => ?_)
            · replace hP : va_P D vwCl (mdW cI h (l9 q_8 q_17 q_24 q_32 q_40 0 0 0 0) wk2 (fun _ => nI 0) (fun _ => nI 0) (fun _ => nI 0) (fun _ => nI 0) (nI 0) 0) H := hP
              replace hD : va_D A (mdW cI h (l9 q_8 q_17 q_24 q_32 q_40 0 0 0 0) wk2 (fun _ => nI 0) (fun _ => nI 0) (fun _ => nI 0) (fun _ => nI 0) (nI 0) 0) := hD
              exact hret (((l9 q_8 q_17 q_24 q_32 q_40 0 0 0 0), wk2)) _ ls _ _ (mi_4 (by omega) hwk2) hP hD hS dX3_init_115
            · refine lv_aload_n hx hb dX3_init_98 rfl (lv_at hl 1 rfl) ?_
              refine gt3 hx hb hts hown hC.1 hP 0 rfl 0 (by decide) qw456 rfl dX3_init_99 ?_
              refine lv_sipush (v := (nI (366))) hx hb dX3_init_102 (by decide) ?_
              refine lv_iload_n hx hb dX3_init_105 rfl (lv_at hl 0 rfl) ?_
              refine n_iadd hx hb dX3_init_106  ?_
              refine lv_iconst (v := (-1)) hx hb dX3_init_107 (by decide) ?_
              refine n_iast hx hb hC.1 hP hD hS 1 0 rfl rfl (by omega) (by decide) dX3_init_108 (fun H locs hP hD hS => ?_)
              obtain ⟨f_2, hf_2⟩ : ∃ z : Nat → Int32, z = upd wk2 (366 + k2) (-1) := ⟨_, rfl⟩
              replace hP : va_P D vwCl ([(h, .inr (3, [.ref (q_8), .ref (q_17), .int (nI (0)), .ref (q_24), .ref (q_32), .ref (q_40), .long (0)]))] ++ ([(q_8, .inl (cI, 470, .inl f_2))] ++ ([(q_17, .inl (cI, 1880, .inl (fun _ => nI 0)))] ++ ([(q_24, .inl (cI, 3, .inl (fun _ => nI 0)))] ++ ([(q_32, .inl (cI, 96, .inl (fun _ => nI 0)))] ++ ([(q_40, .inl (cI, 24, .inl (fun _ => nI 0)))])))))) H := by rw [hf_2]; exact hP
              replace hD : va_D A ([(h, .inr (3, [.ref (q_8), .ref (q_17), .int (nI (0)), .ref (q_24), .ref (q_32), .ref (q_40), .long (0)]))] ++ ([(q_8, .inl (cI, 470, .inl f_2))] ++ ([(q_17, .inl (cI, 1880, .inl (fun _ => nI 0)))] ++ ([(q_24, .inl (cI, 3, .inl (fun _ => nI 0)))] ++ ([(q_32, .inl (cI, 96, .inl (fun _ => nI 0)))] ++ ([(q_40, .inl (cI, 24, .inl (fun _ => nI 0)))])))))) := by rw [hf_2]; exact hD
              refine n_iinc (a := k2) (b := 1) (lv' := [(1, .int (nI (k2 + 1))), (0, .ref (h))]) hx hb dX3_init_109 hl (k := 0) rfl rfl (by decide) rfl (fun ls hl => ?_)
              refine lv_goto (tgt := 92) hx hb dX3_init_112 (by decide) ?_
              exact ih_92 (k2 + 1) (f_2) _ _ ls (by omega) (by omega) (fun x => by rw [hf_2]; exact mi_3 (by omega) hwk2 x) hP hD hS (lv_sub hl [0, 1] rfl)
        exact lp_92 _ (0) (wk) _ _ ls (Nat.lt_succ_self _) (Nat.zero_le _) (mi_2 (by omega) hwk) hP hD hS (lv_sub hl [0, 1] rfl)
      · refine lv_aload_n hx hb dX3_init_62 rfl (lv_at hl 1 rfl) ?_
        refine gt3 hx hb hts hown hC.1 hP 0 rfl 0 (by decide) qw456 rfl dX3_init_63 ?_
        refine lv_sipush (v := (nI (197))) hx hb dX3_init_66 (by decide) ?_
        refine lv_iload_n hx hb dX3_init_69 rfl (lv_at hl 0 rfl) ?_
        refine n_iadd hx hb dX3_init_70  ?_
        refine lv_iconst (v := (-1)) hx hb dX3_init_71 (by decide) ?_
        refine n_iast hx hb hC.1 hP hD hS 1 0 rfl rfl (by omega) (by decide) dX3_init_72 (fun H locs hP hD hS => ?_)
        obtain ⟨f_3, hf_3⟩ : ∃ z : Nat → Int32, z = upd wk (197 + k) (-1) := ⟨_, rfl⟩
        replace hP : va_P D vwCl ([(h, .inr (3, [.ref (q_8), .ref (q_17), .int (nI (0)), .ref (q_24), .ref (q_32), .ref (q_40), .long (0)]))] ++ ([(q_8, .inl (cI, 470, .inl f_3))] ++ ([(q_17, .inl (cI, 1880, .inl (fun _ => nI 0)))] ++ ([(q_24, .inl (cI, 3, .inl (fun _ => nI 0)))] ++ ([(q_32, .inl (cI, 96, .inl (fun _ => nI 0)))] ++ ([(q_40, .inl (cI, 24, .inl (fun _ => nI 0)))])))))) H := by rw [hf_3]; exact hP
        replace hD : va_D A ([(h, .inr (3, [.ref (q_8), .ref (q_17), .int (nI (0)), .ref (q_24), .ref (q_32), .ref (q_40), .long (0)]))] ++ ([(q_8, .inl (cI, 470, .inl f_3))] ++ ([(q_17, .inl (cI, 1880, .inl (fun _ => nI 0)))] ++ ([(q_24, .inl (cI, 3, .inl (fun _ => nI 0)))] ++ ([(q_32, .inl (cI, 96, .inl (fun _ => nI 0)))] ++ ([(q_40, .inl (cI, 24, .inl (fun _ => nI 0)))])))))) := by rw [hf_3]; exact hD
        refine lv_aload_n hx hb dX3_init_73 rfl (lv_at hl 1 rfl) ?_
        refine gt3 hx hb hts hown hC.1 hP 0 rfl 0 (by decide) qw456 rfl dX3_init_74 ?_
        refine lv_sipush (v := (nI (221))) hx hb dX3_init_77 (by decide) ?_
        refine lv_iload_n hx hb dX3_init_80 rfl (lv_at hl 0 rfl) ?_
        refine n_iadd hx hb dX3_init_81  ?_
        refine lv_iconst (v := (-1)) hx hb dX3_init_82 (by decide) ?_
        refine n_iast hx hb hC.1 hP hD hS 1 0 rfl rfl (by omega) (by decide) dX3_init_83 (fun H locs hP hD hS => ?_)
        obtain ⟨f_4, hf_4⟩ : ∃ z : Nat → Int32, z = upd f_3 (221 + k) (-1) := ⟨_, rfl⟩
        replace hP : va_P D vwCl ([(h, .inr (3, [.ref (q_8), .ref (q_17), .int (nI (0)), .ref (q_24), .ref (q_32), .ref (q_40), .long (0)]))] ++ ([(q_8, .inl (cI, 470, .inl f_4))] ++ ([(q_17, .inl (cI, 1880, .inl (fun _ => nI 0)))] ++ ([(q_24, .inl (cI, 3, .inl (fun _ => nI 0)))] ++ ([(q_32, .inl (cI, 96, .inl (fun _ => nI 0)))] ++ ([(q_40, .inl (cI, 24, .inl (fun _ => nI 0)))])))))) H := by rw [hf_4]; exact hP
        replace hD : va_D A ([(h, .inr (3, [.ref (q_8), .ref (q_17), .int (nI (0)), .ref (q_24), .ref (q_32), .ref (q_40), .long (0)]))] ++ ([(q_8, .inl (cI, 470, .inl f_4))] ++ ([(q_17, .inl (cI, 1880, .inl (fun _ => nI 0)))] ++ ([(q_24, .inl (cI, 3, .inl (fun _ => nI 0)))] ++ ([(q_32, .inl (cI, 96, .inl (fun _ => nI 0)))] ++ ([(q_40, .inl (cI, 24, .inl (fun _ => nI 0)))])))))) := by rw [hf_4]; exact hD
        refine n_iinc (a := k) (b := 1) (lv' := [(1, .int (nI (k + 1))), (0, .ref (h))]) hx hb dX3_init_84 hl (k := 0) rfl rfl (by decide) rfl (fun ls hl => ?_)
        refine lv_goto (tgt := 56) hx hb dX3_init_87 (by decide) ?_
        exact ih_56 (k + 1) (f_4) _ _ ls (by omega) (by omega) (fun x => by rw [hf_4, hf_3]; exact mi_1 (by omega) hwk x) hP hD hS (lv_sub hl [0, 1] rfl)
  exact lp_56 _ (0) (f_1) _ _ ls (Nat.lt_succ_self _) (Nat.zero_le _) (fun x => by rw [hf_1]; exact mi_0 x) hP hD hS (lv_sub hl [0, 1] rfl)
