section
-- ===== PART A: goes FIRST, ahead of the names: the tables' words, and 'selects' of the private methods out of them =====
/-- a private method of a class that the tables say can be made, by its rows of tables_1 -/
def lw_okq (q : MethodName × Nat) : Prop := (q.1.cls ≠ "java/lang/invoke/MethodHandle" ∧ q.1.cls ≠ "java/lang/invoke/VarHandle") ∧ Cond.instantiable q.1.cls q.2 ∈ tables_1 ∧ Cond.privateMethod q.1 ∈ tables_1 ∧ Cond.instanceMethod q.1 ∈ tables_1
theorem lw_p0 : lw_okq (⟨"SignallingPoint", "invalid", "()I"⟩, 6) := ⟨⟨by decide +kernel, by decide +kernel⟩, List.mem_of_getElem? (i := 10) (by decide +kernel), List.mem_of_getElem? (i := 142) (by decide +kernel), List.mem_of_getElem? (i := 143) (by decide +kernel)⟩
theorem lw_p1 : lw_okq (⟨"SignallingPoint", "full", "()I"⟩, 6) := ⟨⟨by decide +kernel, by decide +kernel⟩, List.mem_of_getElem? (i := 10) (by decide +kernel), List.mem_of_getElem? (i := 146) (by decide +kernel), List.mem_of_getElem? (i := 147) (by decide +kernel)⟩
theorem lw_p2 : lw_okq (⟨"SignallingPoint$UndoStack", "save", "(LSignallingPoint$State;)V"⟩, 3) := ⟨⟨by decide +kernel, by decide +kernel⟩, List.mem_of_getElem? (i := 99) (by decide +kernel), List.mem_of_getElem? (i := 150) (by decide +kernel), List.mem_of_getElem? (i := 151) (by decide +kernel)⟩
theorem lw_p3 : lw_okq (⟨"SignallingPoint$State", "copyFrom", "(LSignallingPoint$State;)V"⟩, 19) := ⟨⟨by decide +kernel, by decide +kernel⟩, List.mem_of_getElem? (i := 18) (by decide +kernel), List.mem_of_getElem? (i := 154) (by decide +kernel), List.mem_of_getElem? (i := 155) (by decide +kernel)⟩
theorem lw_p4 : lw_okq (⟨"SignallingPoint$State", "appendLinkset", "(I)I"⟩, 19) := ⟨⟨by decide +kernel, by decide +kernel⟩, List.mem_of_getElem? (i := 18) (by decide +kernel), List.mem_of_getElem? (i := 168) (by decide +kernel), List.mem_of_getElem? (i := 169) (by decide +kernel)⟩
theorem lw_p5 : lw_okq (⟨"SignallingPoint$State", "hasLink", "(II)Z"⟩, 19) := ⟨⟨by decide +kernel, by decide +kernel⟩, List.mem_of_getElem? (i := 18) (by decide +kernel), List.mem_of_getElem? (i := 176) (by decide +kernel), List.mem_of_getElem? (i := 177) (by decide +kernel)⟩
theorem lw_p6 : lw_okq (⟨"SignallingPoint$State", "hasLinkset", "(I)Z"⟩, 19) := ⟨⟨by decide +kernel, by decide +kernel⟩, List.mem_of_getElem? (i := 18) (by decide +kernel), List.mem_of_getElem? (i := 180) (by decide +kernel), List.mem_of_getElem? (i := 181) (by decide +kernel)⟩
theorem lw_p7 : lw_okq (⟨"SignallingPoint$State", "linkWorks", "(II)Z"⟩, 19) := ⟨⟨by decide +kernel, by decide +kernel⟩, List.mem_of_getElem? (i := 18) (by decide +kernel), List.mem_of_getElem? (i := 184) (by decide +kernel), List.mem_of_getElem? (i := 185) (by decide +kernel)⟩
theorem lw_p8 : lw_okq (⟨"SignallingPoint", "rejected", "()I"⟩, 6) := ⟨⟨by decide +kernel, by decide +kernel⟩, List.mem_of_getElem? (i := 10) (by decide +kernel), List.mem_of_getElem? (i := 188) (by decide +kernel), List.mem_of_getElem? (i := 189) (by decide +kernel)⟩
theorem lw_p9 : lw_okq (⟨"SignallingPoint$State", "changeOver", "(II)I"⟩, 19) := ⟨⟨by decide +kernel, by decide +kernel⟩, List.mem_of_getElem? (i := 18) (by decide +kernel), List.mem_of_getElem? (i := 192) (by decide +kernel), List.mem_of_getElem? (i := 193) (by decide +kernel)⟩
theorem lw_p10 : lw_okq (⟨"SignallingPoint$State", "dispatch", "(I)V"⟩, 19) := ⟨⟨by decide +kernel, by decide +kernel⟩, List.mem_of_getElem? (i := 18) (by decide +kernel), List.mem_of_getElem? (i := 199) (by decide +kernel), List.mem_of_getElem? (i := 200) (by decide +kernel)⟩
theorem lw_p11 : lw_okq (⟨"SignallingPoint$State", "linkOfStream", "(I)I"⟩, 19) := ⟨⟨by decide +kernel, by decide +kernel⟩, List.mem_of_getElem? (i := 18) (by decide +kernel), List.mem_of_getElem? (i := 209) (by decide +kernel), List.mem_of_getElem? (i := 210) (by decide +kernel)⟩
theorem lw_p12 : lw_okq (⟨"SignallingPoint$State", "routesTo", "(I)I"⟩, 19) := ⟨⟨by decide +kernel, by decide +kernel⟩, List.mem_of_getElem? (i := 18) (by decide +kernel), List.mem_of_getElem? (i := 213) (by decide +kernel), List.mem_of_getElem? (i := 214) (by decide +kernel)⟩
theorem lw_p13 : lw_okq (⟨"SignallingPoint$State", "preferredRoutes", "(II)I"⟩, 19) := ⟨⟨by decide +kernel, by decide +kernel⟩, List.mem_of_getElem? (i := 18) (by decide +kernel), List.mem_of_getElem? (i := 217) (by decide +kernel), List.mem_of_getElem? (i := 218) (by decide +kernel)⟩
theorem lw_p14 : lw_okq (⟨"SignallingPoint$State", "linkOver", "(II)I"⟩, 19) := ⟨⟨by decide +kernel, by decide +kernel⟩, List.mem_of_getElem? (i := 18) (by decide +kernel), List.mem_of_getElem? (i := 224) (by decide +kernel), List.mem_of_getElem? (i := 225) (by decide +kernel)⟩
theorem lw_p15 : lw_okq (⟨"SignallingPoint$State", "listLinks", "([I)V"⟩, 19) := ⟨⟨by decide +kernel, by decide +kernel⟩, List.mem_of_getElem? (i := 18) (by decide +kernel), List.mem_of_getElem? (i := 241) (by decide +kernel), List.mem_of_getElem? (i := 242) (by decide +kernel)⟩
def lw_privs_1 : List (MethodName × Nat) := [(⟨"SignallingPoint", "invalid", "()I"⟩, 6), (⟨"SignallingPoint", "full", "()I"⟩, 6), (⟨"SignallingPoint$UndoStack", "save", "(LSignallingPoint$State;)V"⟩, 3), (⟨"SignallingPoint$State", "copyFrom", "(LSignallingPoint$State;)V"⟩, 19), (⟨"SignallingPoint$State", "appendLinkset", "(I)I"⟩, 19), (⟨"SignallingPoint$State", "hasLink", "(II)Z"⟩, 19), (⟨"SignallingPoint$State", "hasLinkset", "(I)Z"⟩, 19), (⟨"SignallingPoint$State", "linkWorks", "(II)Z"⟩, 19), (⟨"SignallingPoint", "rejected", "()I"⟩, 6), (⟨"SignallingPoint$State", "changeOver", "(II)I"⟩, 19), (⟨"SignallingPoint$State", "dispatch", "(I)V"⟩, 19), (⟨"SignallingPoint$State", "linkOfStream", "(I)I"⟩, 19), (⟨"SignallingPoint$State", "routesTo", "(I)I"⟩, 19), (⟨"SignallingPoint$State", "preferredRoutes", "(II)I"⟩, 19), (⟨"SignallingPoint$State", "linkOver", "(II)I"⟩, 19), (⟨"SignallingPoint$State", "listLinks", "([I)V"⟩, 19)]
theorem lw_r1 : ∀ q ∈ lw_privs_1, lw_okq q := List.forall_mem_cons.mpr ⟨lw_p0, List.forall_mem_cons.mpr ⟨lw_p1, List.forall_mem_cons.mpr ⟨lw_p2, List.forall_mem_cons.mpr ⟨lw_p3, List.forall_mem_cons.mpr ⟨lw_p4, List.forall_mem_cons.mpr ⟨lw_p5, List.forall_mem_cons.mpr ⟨lw_p6, List.forall_mem_cons.mpr ⟨lw_p7, List.forall_mem_cons.mpr ⟨lw_p8, List.forall_mem_cons.mpr ⟨lw_p9, List.forall_mem_cons.mpr ⟨lw_p10, List.forall_mem_cons.mpr ⟨lw_p11, List.forall_mem_cons.mpr ⟨lw_p12, List.forall_mem_cons.mpr ⟨lw_p13, List.forall_mem_cons.mpr ⟨lw_p14, List.forall_mem_cons.mpr ⟨lw_p15, fun _ h => absurd h List.not_mem_nil⟩⟩⟩⟩⟩⟩⟩⟩⟩⟩⟩⟩⟩⟩⟩⟩
theorem lw_p16 : lw_okq (⟨"SignallingPoint$State", "activate", "(II)V"⟩, 19) := ⟨⟨by decide +kernel, by decide +kernel⟩, List.mem_of_getElem? (i := 18) (by decide +kernel), List.mem_of_getElem? (i := 245) (by decide +kernel), List.mem_of_getElem? (i := 246) (by decide +kernel)⟩
theorem lw_p17 : lw_okq (⟨"SignallingPoint$State", "divertMoved", "([I)I"⟩, 19) := ⟨⟨by decide +kernel, by decide +kernel⟩, List.mem_of_getElem? (i := 18) (by decide +kernel), List.mem_of_getElem? (i := 249) (by decide +kernel), List.mem_of_getElem? (i := 250) (by decide +kernel)⟩
theorem lw_p18 : lw_okq (⟨"SignallingPoint$State", "deliverOldest", "(II)I"⟩, 19) := ⟨⟨by decide +kernel, by decide +kernel⟩, List.mem_of_getElem? (i := 18) (by decide +kernel), List.mem_of_getElem? (i := 258) (by decide +kernel), List.mem_of_getElem? (i := 259) (by decide +kernel)⟩
theorem lw_p19 : lw_okq (⟨"SignallingPoint$State", "deliver", "(I)V"⟩, 19) := ⟨⟨by decide +kernel, by decide +kernel⟩, List.mem_of_getElem? (i := 18) (by decide +kernel), List.mem_of_getElem? (i := 262) (by decide +kernel), List.mem_of_getElem? (i := 263) (by decide +kernel)⟩
theorem lw_p20 : lw_okq (⟨"SignallingPoint$State", "congestionLevel", "(I)I"⟩, 19) := ⟨⟨by decide +kernel, by decide +kernel⟩, List.mem_of_getElem? (i := 18) (by decide +kernel), List.mem_of_getElem? (i := 285) (by decide +kernel), List.mem_of_getElem? (i := 286) (by decide +kernel)⟩
theorem lw_p21 : lw_okq (⟨"SignallingPoint$State", "canHaveRoute", "(II)Z"⟩, 19) := ⟨⟨by decide +kernel, by decide +kernel⟩, List.mem_of_getElem? (i := 18) (by decide +kernel), List.mem_of_getElem? (i := 297) (by decide +kernel), List.mem_of_getElem? (i := 298) (by decide +kernel)⟩
theorem lw_p22 : lw_okq (⟨"SignallingPoint$State", "accept", "(III)I"⟩, 19) := ⟨⟨by decide +kernel, by decide +kernel⟩, List.mem_of_getElem? (i := 18) (by decide +kernel), List.mem_of_getElem? (i := 335) (by decide +kernel), List.mem_of_getElem? (i := 336) (by decide +kernel)⟩
theorem lw_p23 : lw_okq (⟨"SignallingPoint$State", "holds", "(I)Z"⟩, 19) := ⟨⟨by decide +kernel, by decide +kernel⟩, List.mem_of_getElem? (i := 18) (by decide +kernel), List.mem_of_getElem? (i := 345) (by decide +kernel), List.mem_of_getElem? (i := 346) (by decide +kernel)⟩
theorem lw_p24 : lw_okq (⟨"SignallingPoint$State", "hold", "(I)V"⟩, 19) := ⟨⟨by decide +kernel, by decide +kernel⟩, List.mem_of_getElem? (i := 18) (by decide +kernel), List.mem_of_getElem? (i := 349) (by decide +kernel), List.mem_of_getElem? (i := 350) (by decide +kernel)⟩
theorem lw_p25 : lw_okq (⟨"SignallingPoint$State", "releaseHeld", "()I"⟩, 19) := ⟨⟨by decide +kernel, by decide +kernel⟩, List.mem_of_getElem? (i := 18) (by decide +kernel), List.mem_of_getElem? (i := 362) (by decide +kernel), List.mem_of_getElem? (i := 363) (by decide +kernel)⟩
theorem lw_p26 : lw_okq (⟨"SignallingPoint$State", "countLinksTo", "(I)I"⟩, 19) := ⟨⟨by decide +kernel, by decide +kernel⟩, List.mem_of_getElem? (i := 18) (by decide +kernel), List.mem_of_getElem? (i := 404) (by decide +kernel), List.mem_of_getElem? (i := 405) (by decide +kernel)⟩
theorem lw_p27 : lw_okq (⟨"SignallingPoint$UndoStack", "takeBackInto", "(LSignallingPoint$State;)V"⟩, 3) := ⟨⟨by decide +kernel, by decide +kernel⟩, List.mem_of_getElem? (i := 99) (by decide +kernel), List.mem_of_getElem? (i := 412) (by decide +kernel), List.mem_of_getElem? (i := 413) (by decide +kernel)⟩
theorem lw_p28 : lw_okq (⟨"SignallingPoint$State", "mixCounters", "(J)J"⟩, 19) := ⟨⟨by decide +kernel, by decide +kernel⟩, List.mem_of_getElem? (i := 18) (by decide +kernel), List.mem_of_getElem? (i := 429) (by decide +kernel), List.mem_of_getElem? (i := 430) (by decide +kernel)⟩
theorem lw_p29 : lw_okq (⟨"SignallingPoint$State", "mixLinksets", "(J)J"⟩, 19) := ⟨⟨by decide +kernel, by decide +kernel⟩, List.mem_of_getElem? (i := 18) (by decide +kernel), List.mem_of_getElem? (i := 434) (by decide +kernel), List.mem_of_getElem? (i := 435) (by decide +kernel)⟩
theorem lw_p30 : lw_okq (⟨"SignallingPoint$State", "mixQueue", "(JI)J"⟩, 19) := ⟨⟨by decide +kernel, by decide +kernel⟩, List.mem_of_getElem? (i := 18) (by decide +kernel), List.mem_of_getElem? (i := 439) (by decide +kernel), List.mem_of_getElem? (i := 440) (by decide +kernel)⟩
theorem lw_p31 : lw_okq (⟨"SignallingPoint$State", "mixDestination", "(JI)J"⟩, 19) := ⟨⟨by decide +kernel, by decide +kernel⟩, List.mem_of_getElem? (i := 18) (by decide +kernel), List.mem_of_getElem? (i := 443) (by decide +kernel), List.mem_of_getElem? (i := 444) (by decide +kernel)⟩
def lw_privs_2 : List (MethodName × Nat) := [(⟨"SignallingPoint$State", "activate", "(II)V"⟩, 19), (⟨"SignallingPoint$State", "divertMoved", "([I)I"⟩, 19), (⟨"SignallingPoint$State", "deliverOldest", "(II)I"⟩, 19), (⟨"SignallingPoint$State", "deliver", "(I)V"⟩, 19), (⟨"SignallingPoint$State", "congestionLevel", "(I)I"⟩, 19), (⟨"SignallingPoint$State", "canHaveRoute", "(II)Z"⟩, 19), (⟨"SignallingPoint$State", "accept", "(III)I"⟩, 19), (⟨"SignallingPoint$State", "holds", "(I)Z"⟩, 19), (⟨"SignallingPoint$State", "hold", "(I)V"⟩, 19), (⟨"SignallingPoint$State", "releaseHeld", "()I"⟩, 19), (⟨"SignallingPoint$State", "countLinksTo", "(I)I"⟩, 19), (⟨"SignallingPoint$UndoStack", "takeBackInto", "(LSignallingPoint$State;)V"⟩, 3), (⟨"SignallingPoint$State", "mixCounters", "(J)J"⟩, 19), (⟨"SignallingPoint$State", "mixLinksets", "(J)J"⟩, 19), (⟨"SignallingPoint$State", "mixQueue", "(JI)J"⟩, 19), (⟨"SignallingPoint$State", "mixDestination", "(JI)J"⟩, 19)]
theorem lw_r2 : ∀ q ∈ lw_privs_2, lw_okq q := List.forall_mem_cons.mpr ⟨lw_p16, List.forall_mem_cons.mpr ⟨lw_p17, List.forall_mem_cons.mpr ⟨lw_p18, List.forall_mem_cons.mpr ⟨lw_p19, List.forall_mem_cons.mpr ⟨lw_p20, List.forall_mem_cons.mpr ⟨lw_p21, List.forall_mem_cons.mpr ⟨lw_p22, List.forall_mem_cons.mpr ⟨lw_p23, List.forall_mem_cons.mpr ⟨lw_p24, List.forall_mem_cons.mpr ⟨lw_p25, List.forall_mem_cons.mpr ⟨lw_p26, List.forall_mem_cons.mpr ⟨lw_p27, List.forall_mem_cons.mpr ⟨lw_p28, List.forall_mem_cons.mpr ⟨lw_p29, List.forall_mem_cons.mpr ⟨lw_p30, List.forall_mem_cons.mpr ⟨lw_p31, fun _ h => absurd h List.not_mem_nil⟩⟩⟩⟩⟩⟩⟩⟩⟩⟩⟩⟩⟩⟩⟩⟩
theorem lw_p32 : lw_okq (⟨"SignallingPoint$State", "mixHolding", "(J)J"⟩, 19) := ⟨⟨by decide +kernel, by decide +kernel⟩, List.mem_of_getElem? (i := 18) (by decide +kernel), List.mem_of_getElem? (i := 447) (by decide +kernel), List.mem_of_getElem? (i := 448) (by decide +kernel)⟩
theorem lw_p33 : lw_okq (⟨"SignallingPointModel", "fails", "(I)I"⟩, 7) := ⟨⟨by decide +kernel, by decide +kernel⟩, List.mem_of_getElem? (i := 451) (by decide +kernel), List.mem_of_getElem? (i := 483) (by decide +kernel), List.mem_of_getElem? (i := 484) (by decide +kernel)⟩
theorem lw_p34 : lw_okq (⟨"SignallingPointModel", "saves", "()V"⟩, 7) := ⟨⟨by decide +kernel, by decide +kernel⟩, List.mem_of_getElem? (i := 451) (by decide +kernel), List.mem_of_getElem? (i := 494) (by decide +kernel), List.mem_of_getElem? (i := 495) (by decide +kernel)⟩
theorem lw_p35 : lw_okq (⟨"SignallingPointModel", "isLink", "(II)Z"⟩, 7) := ⟨⟨by decide +kernel, by decide +kernel⟩, List.mem_of_getElem? (i := 451) (by decide +kernel), List.mem_of_getElem? (i := 502) (by decide +kernel), List.mem_of_getElem? (i := 503) (by decide +kernel)⟩
theorem lw_p36 : lw_okq (⟨"SignallingPointModel", "isSet", "(I)Z"⟩, 7) := ⟨⟨by decide +kernel, by decide +kernel⟩, List.mem_of_getElem? (i := 451) (by decide +kernel), List.mem_of_getElem? (i := 506) (by decide +kernel), List.mem_of_getElem? (i := 507) (by decide +kernel)⟩
theorem lw_p37 : lw_okq (⟨"SignallingPointModel", "dispatches", "(I)V"⟩, 7) := ⟨⟨by decide +kernel, by decide +kernel⟩, List.mem_of_getElem? (i := 451) (by decide +kernel), List.mem_of_getElem? (i := 510) (by decide +kernel), List.mem_of_getElem? (i := 511) (by decide +kernel)⟩
theorem lw_p38 : lw_okq (⟨"SignallingPointModel", "linkOf", "(I)I"⟩, 7) := ⟨⟨by decide +kernel, by decide +kernel⟩, List.mem_of_getElem? (i := 451) (by decide +kernel), List.mem_of_getElem? (i := 514) (by decide +kernel), List.mem_of_getElem? (i := 515) (by decide +kernel)⟩
theorem lw_p39 : lw_okq (⟨"SignallingPointModel", "routesOf", "(I)I"⟩, 7) := ⟨⟨by decide +kernel, by decide +kernel⟩, List.mem_of_getElem? (i := 451) (by decide +kernel), List.mem_of_getElem? (i := 518) (by decide +kernel), List.mem_of_getElem? (i := 519) (by decide +kernel)⟩
theorem lw_p40 : lw_okq (⟨"SignallingPointModel", "isUsable", "(II)Z"⟩, 7) := ⟨⟨by decide +kernel, by decide +kernel⟩, List.mem_of_getElem? (i := 451) (by decide +kernel), List.mem_of_getElem? (i := 522) (by decide +kernel), List.mem_of_getElem? (i := 523) (by decide +kernel)⟩
theorem lw_p41 : lw_okq (⟨"SignallingPointModel", "activeOf", "(I)I"⟩, 7) := ⟨⟨by decide +kernel, by decide +kernel⟩, List.mem_of_getElem? (i := 451) (by decide +kernel), List.mem_of_getElem? (i := 526) (by decide +kernel), List.mem_of_getElem? (i := 527) (by decide +kernel)⟩
theorem lw_p42 : lw_okq (⟨"SignallingPointModel", "laysBefore", "()V"⟩, 7) := ⟨⟨by decide +kernel, by decide +kernel⟩, List.mem_of_getElem? (i := 451) (by decide +kernel), List.mem_of_getElem? (i := 537) (by decide +kernel), List.mem_of_getElem? (i := 538) (by decide +kernel)⟩
theorem lw_p43 : lw_okq (⟨"SignallingPointModel", "diverts", "()I"⟩, 7) := ⟨⟨by decide +kernel, by decide +kernel⟩, List.mem_of_getElem? (i := 451) (by decide +kernel), List.mem_of_getElem? (i := 541) (by decide +kernel), List.mem_of_getElem? (i := 542) (by decide +kernel)⟩
theorem lw_p44 : lw_okq (⟨"SignallingPointModel", "delivers", "(I)V"⟩, 7) := ⟨⟨by decide +kernel, by decide +kernel⟩, List.mem_of_getElem? (i := 451) (by decide +kernel), List.mem_of_getElem? (i := 549) (by decide +kernel), List.mem_of_getElem? (i := 550) (by decide +kernel)⟩
theorem lw_p45 : lw_okq (⟨"SignallingPointModel", "levelOf", "(I)I"⟩, 7) := ⟨⟨by decide +kernel, by decide +kernel⟩, List.mem_of_getElem? (i := 451) (by decide +kernel), List.mem_of_getElem? (i := 565) (by decide +kernel), List.mem_of_getElem? (i := 566) (by decide +kernel)⟩
theorem lw_p46 : lw_okq (⟨"SignallingPointModel", "isCongested", "(II)Z"⟩, 7) := ⟨⟨by decide +kernel, by decide +kernel⟩, List.mem_of_getElem? (i := 451) (by decide +kernel), List.mem_of_getElem? (i := 607) (by decide +kernel), List.mem_of_getElem? (i := 608) (by decide +kernel)⟩
theorem lw_p47 : lw_okq (⟨"SignallingPointModel", "mix", "(I)V"⟩, 7) := ⟨⟨by decide +kernel, by decide +kernel⟩, List.mem_of_getElem? (i := 451) (by decide +kernel), List.mem_of_getElem? (i := 664) (by decide +kernel), List.mem_of_getElem? (i := 665) (by decide +kernel)⟩
def lw_privs_3 : List (MethodName × Nat) := [(⟨"SignallingPoint$State", "mixHolding", "(J)J"⟩, 19), (⟨"SignallingPointModel", "fails", "(I)I"⟩, 7), (⟨"SignallingPointModel", "saves", "()V"⟩, 7), (⟨"SignallingPointModel", "isLink", "(II)Z"⟩, 7), (⟨"SignallingPointModel", "isSet", "(I)Z"⟩, 7), (⟨"SignallingPointModel", "dispatches", "(I)V"⟩, 7), (⟨"SignallingPointModel", "linkOf", "(I)I"⟩, 7), (⟨"SignallingPointModel", "routesOf", "(I)I"⟩, 7), (⟨"SignallingPointModel", "isUsable", "(II)Z"⟩, 7), (⟨"SignallingPointModel", "activeOf", "(I)I"⟩, 7), (⟨"SignallingPointModel", "laysBefore", "()V"⟩, 7), (⟨"SignallingPointModel", "diverts", "()I"⟩, 7), (⟨"SignallingPointModel", "delivers", "(I)V"⟩, 7), (⟨"SignallingPointModel", "levelOf", "(I)I"⟩, 7), (⟨"SignallingPointModel", "isCongested", "(II)Z"⟩, 7), (⟨"SignallingPointModel", "mix", "(I)V"⟩, 7)]
theorem lw_r3 : ∀ q ∈ lw_privs_3, lw_okq q := List.forall_mem_cons.mpr ⟨lw_p32, List.forall_mem_cons.mpr ⟨lw_p33, List.forall_mem_cons.mpr ⟨lw_p34, List.forall_mem_cons.mpr ⟨lw_p35, List.forall_mem_cons.mpr ⟨lw_p36, List.forall_mem_cons.mpr ⟨lw_p37, List.forall_mem_cons.mpr ⟨lw_p38, List.forall_mem_cons.mpr ⟨lw_p39, List.forall_mem_cons.mpr ⟨lw_p40, List.forall_mem_cons.mpr ⟨lw_p41, List.forall_mem_cons.mpr ⟨lw_p42, List.forall_mem_cons.mpr ⟨lw_p43, List.forall_mem_cons.mpr ⟨lw_p44, List.forall_mem_cons.mpr ⟨lw_p45, List.forall_mem_cons.mpr ⟨lw_p46, List.forall_mem_cons.mpr ⟨lw_p47, fun _ h => absurd h List.not_mem_nil⟩⟩⟩⟩⟩⟩⟩⟩⟩⟩⟩⟩⟩⟩⟩⟩
theorem lw_p48 : lw_okq (⟨"SignallingPointModel", "mixLink", "(I)V"⟩, 7) := ⟨⟨by decide +kernel, by decide +kernel⟩, List.mem_of_getElem? (i := 451) (by decide +kernel), List.mem_of_getElem? (i := 669) (by decide +kernel), List.mem_of_getElem? (i := 670) (by decide +kernel)⟩
theorem lw_p49 : lw_okq (⟨"SignallingPointModel", "mixDestination", "(I)V"⟩, 7) := ⟨⟨by decide +kernel, by decide +kernel⟩, List.mem_of_getElem? (i := 451) (by decide +kernel), List.mem_of_getElem? (i := 673) (by decide +kernel), List.mem_of_getElem? (i := 674) (by decide +kernel)⟩
def lw_privs_4 : List (MethodName × Nat) := [(⟨"SignallingPointModel", "mixLink", "(I)V"⟩, 7), (⟨"SignallingPointModel", "mixDestination", "(I)V"⟩, 7)]
theorem lw_r4 : ∀ q ∈ lw_privs_4, lw_okq q := List.forall_mem_cons.mpr ⟨lw_p48, List.forall_mem_cons.mpr ⟨lw_p49, fun _ h => absurd h List.not_mem_nil⟩⟩
def lw_privs : List (MethodName × Nat) := lw_privs_1 ++ (lw_privs_2 ++ (lw_privs_3 ++ (lw_privs_4)))
def lw_tbl : List Cond := k2_sels lw_privs ++ tables_1
theorem lw_privs_ok : ∀ q ∈ lw_privs, lw_okq q := by
  show ∀ q ∈ lw_privs_1 ++ (lw_privs_2 ++ (lw_privs_3 ++ (lw_privs_4))), lw_okq q
  exact List.forall_mem_append.mpr ⟨lw_r1, List.forall_mem_append.mpr ⟨lw_r2, List.forall_mem_append.mpr ⟨lw_r3, lw_r4⟩⟩⟩
-- ===== end of PART A; then your names; then what follows =====
end
section
def RX0 : String := "SignallingPoint$State"
def TX0 : u_T := fun k => match k with
  | 0 => ("SignallingPoint$State", "time", "I", false)
  | 1 => ("SignallingPoint$State", "holdTime", "I", false)
  | 2 => ("SignallingPoint$State", "sent", "I", false)
  | 3 => ("SignallingPoint$State", "delivered", "I", false)
  | 4 => ("SignallingPoint$State", "overtaken", "I", false)
  | 5 => ("SignallingPoint$State", "unreachable", "I", false)
  | 6 => ("SignallingPoint$State", "congested", "I", false)
  | 7 => ("SignallingPoint$State", "lost", "I", false)
  | 8 => ("SignallingPoint$State", "linksets", "I", false)
  | 9 => ("SignallingPoint$State", "heldCount", "I", false)
  | 10 => ("SignallingPoint$State", "linkCounts", "[I", true)
  | 11 => ("SignallingPoint$State", "activeLinks", "[I", true)
  | 12 => ("SignallingPoint$State", "queueLengths", "[I", true)
  | 13 => ("SignallingPoint$State", "queues", "[I", true)
  | 14 => ("SignallingPoint$State", "routeStates", "[I", true)
  | 15 => ("SignallingPoint$State", "priorities", "[I", true)
  | 16 => ("SignallingPoint$State", "heldUntil", "[I", true)
  | 17 => ("SignallingPoint$State", "highestDelivered", "[I", true)
  | _ => ("SignallingPoint$State", "holding", "[I", true)
def tyX0 : Nat → FieldType := fun k => match k with
  | 0 => .int
  | 1 => .int
  | 2 => .int
  | 3 => .int
  | 4 => .int
  | 5 => .int
  | 6 => .int
  | 7 => .int
  | 8 => .int
  | 9 => .int
  | 10 => .array .int
  | 11 => .array .int
  | 12 => .array .int
  | 13 => .array .int
  | 14 => .array .int
  | 15 => .array .int
  | 16 => .array .int
  | 17 => .array .int
  | _ => .array .int
theorem nmX0 : ∀ a, a < 19 → ∀ b, b < 19 → a ≠ b → (TX0 a).2.1 ≠ (TX0 b).2.1 := by decide +kernel
theorem tyX0_ok : ∀ k, k < 19 → parseFieldDescriptor (TX0 k).2.2.1 = some (tyX0 k) := by decide +kernel
abbrev cX0_init : ByteArray := prog_2_method_1_code
def yX0_init : MethodName := ⟨RX0, "<init>", "()V"⟩
abbrev cX0_copyFrom : ByteArray := prog_2_method_2_code
def yX0_copyFrom : MethodName := ⟨RX0, "copyFrom", "(LSignallingPoint$State;)V"⟩
abbrev cX0_copyRow : ByteArray := prog_2_method_3_code
def yX0_copyRow : MethodName := ⟨RX0, "copyRow", "([I[I)V"⟩
abbrev cX0_hasLinkset : ByteArray := prog_2_method_4_code
def yX0_hasLinkset : MethodName := ⟨RX0, "hasLinkset", "(I)Z"⟩
abbrev cX0_hasLink : ByteArray := prog_2_method_5_code
def yX0_hasLink : MethodName := ⟨RX0, "hasLink", "(II)Z"⟩
abbrev cX0_canHaveRoute : ByteArray := prog_2_method_6_code
def yX0_canHaveRoute : MethodName := ⟨RX0, "canHaveRoute", "(II)Z"⟩
abbrev cX0_linkWorks : ByteArray := prog_2_method_7_code
def yX0_linkWorks : MethodName := ⟨RX0, "linkWorks", "(II)Z"⟩
abbrev cX0_holds : ByteArray := prog_2_method_8_code
def yX0_holds : MethodName := ⟨RX0, "holds", "(I)Z"⟩
abbrev cX0_appendLinkset : ByteArray := prog_2_method_9_code
def yX0_appendLinkset : MethodName := ⟨RX0, "appendLinkset", "(I)I"⟩
abbrev cX0_activate : ByteArray := prog_2_method_10_code
def yX0_activate : MethodName := ⟨RX0, "activate", "(II)V"⟩
abbrev cX0_changeOver : ByteArray := prog_2_method_11_code
def yX0_changeOver : MethodName := ⟨RX0, "changeOver", "(II)I"⟩
abbrev cX0_congestionLevel : ByteArray := prog_2_method_12_code
def yX0_congestionLevel : MethodName := ⟨RX0, "congestionLevel", "(I)I"⟩
abbrev cX0_routesTo : ByteArray := prog_2_method_13_code
def yX0_routesTo : MethodName := ⟨RX0, "routesTo", "(I)I"⟩
abbrev cX0_preferredRoutes : ByteArray := prog_2_method_14_code
def yX0_preferredRoutes : MethodName := ⟨RX0, "preferredRoutes", "(II)I"⟩
abbrev cX0_linkOver : ByteArray := prog_2_method_15_code
def yX0_linkOver : MethodName := ⟨RX0, "linkOver", "(II)I"⟩
abbrev cX0_linkOfStream : ByteArray := prog_2_method_16_code
def yX0_linkOfStream : MethodName := ⟨RX0, "linkOfStream", "(I)I"⟩
abbrev cX0_countLinksTo : ByteArray := prog_2_method_17_code
def yX0_countLinksTo : MethodName := ⟨RX0, "countLinksTo", "(I)I"⟩
abbrev cX0_listLinks : ByteArray := prog_2_method_18_code
def yX0_listLinks : MethodName := ⟨RX0, "listLinks", "([I)V"⟩
abbrev cX0_divertMoved : ByteArray := prog_2_method_19_code
def yX0_divertMoved : MethodName := ⟨RX0, "divertMoved", "([I)I"⟩
abbrev cX0_accept : ByteArray := prog_2_method_20_code
def yX0_accept : MethodName := ⟨RX0, "accept", "(III)I"⟩
abbrev cX0_hold : ByteArray := prog_2_method_21_code
def yX0_hold : MethodName := ⟨RX0, "hold", "(I)V"⟩
abbrev cX0_dispatch : ByteArray := prog_2_method_22_code
def yX0_dispatch : MethodName := ⟨RX0, "dispatch", "(I)V"⟩
abbrev cX0_releaseHeld : ByteArray := prog_2_method_23_code
def yX0_releaseHeld : MethodName := ⟨RX0, "releaseHeld", "()I"⟩
abbrev cX0_deliverOldest : ByteArray := prog_2_method_24_code
def yX0_deliverOldest : MethodName := ⟨RX0, "deliverOldest", "(II)I"⟩
abbrev cX0_deliver : ByteArray := prog_2_method_25_code
def yX0_deliver : MethodName := ⟨RX0, "deliver", "(I)V"⟩
abbrev cX0_mixCounters : ByteArray := prog_2_method_26_code
def yX0_mixCounters : MethodName := ⟨RX0, "mixCounters", "(J)J"⟩
abbrev cX0_mixLinksets : ByteArray := prog_2_method_27_code
def yX0_mixLinksets : MethodName := ⟨RX0, "mixLinksets", "(J)J"⟩
abbrev cX0_mixQueue : ByteArray := prog_2_method_28_code
def yX0_mixQueue : MethodName := ⟨RX0, "mixQueue", "(JI)J"⟩
abbrev cX0_mixDestination : ByteArray := prog_2_method_29_code
def yX0_mixDestination : MethodName := ⟨RX0, "mixDestination", "(JI)J"⟩
abbrev cX0_mixHolding : ByteArray := prog_2_method_30_code
def yX0_mixHolding : MethodName := ⟨RX0, "mixHolding", "(J)J"⟩
def RX1 : String := "SignallingPoint$UndoStack"
def TX1 : u_T := fun k => match k with
  | 0 => ("SignallingPoint$UndoStack", "ring", "[LSignallingPoint$State;", true)
  | 1 => ("SignallingPoint$UndoStack", "next", "I", false)
  | _ => ("SignallingPoint$UndoStack", "size", "I", false)
def tyX1 : Nat → FieldType := fun k => match k with
  | 0 => .array (.object "SignallingPoint$State")
  | 1 => .int
  | _ => .int
theorem nmX1 : ∀ a, a < 3 → ∀ b, b < 3 → a ≠ b → (TX1 a).2.1 ≠ (TX1 b).2.1 := by decide +kernel
theorem tyX1_ok : ∀ k, k < 3 → parseFieldDescriptor (TX1 k).2.2.1 = some (tyX1 k) := by decide +kernel
abbrev cX1_init : ByteArray := prog_3_method_1_code
def yX1_init : MethodName := ⟨RX1, "<init>", "()V"⟩
abbrev cX1_save : ByteArray := prog_3_method_2_code
def yX1_save : MethodName := ⟨RX1, "save", "(LSignallingPoint$State;)V"⟩
abbrev cX1_takeBackInto : ByteArray := prog_3_method_3_code
def yX1_takeBackInto : MethodName := ⟨RX1, "takeBackInto", "(LSignallingPoint$State;)V"⟩
def RX2 : String := "SignallingPoint"
def TX2 : u_T := fun k => match k with
  | 0 => ("SignallingPoint", "now", "LSignallingPoint$State;", true)
  | 1 => ("SignallingPoint", "undoStack", "LSignallingPoint$UndoStack;", true)
  | 2 => ("SignallingPoint", "linksBefore", "[I", true)
  | 3 => ("SignallingPoint", "invalidCalls", "I", false)
  | 4 => ("SignallingPoint", "rejectedCalls", "I", false)
  | _ => ("SignallingPoint", "fullCalls", "I", false)
def tyX2 : Nat → FieldType := fun k => match k with
  | 0 => .object "SignallingPoint$State"
  | 1 => .object "SignallingPoint$UndoStack"
  | 2 => .array .int
  | 3 => .int
  | 4 => .int
  | _ => .int
theorem nmX2 : ∀ a, a < 6 → ∀ b, b < 6 → a ≠ b → (TX2 a).2.1 ≠ (TX2 b).2.1 := by decide +kernel
theorem tyX2_ok : ∀ k, k < 6 → parseFieldDescriptor (TX2 k).2.2.1 = some (tyX2 k) := by decide +kernel
abbrev cX2_init : ByteArray := prog_1_method_1_code
def yX2_init : MethodName := ⟨RX2, "<init>", "()V"⟩
abbrev cX2_addLinkset : ByteArray := prog_1_method_2_code
def yX2_addLinkset : MethodName := ⟨RX2, "addLinkset", "(I)I"⟩
abbrev cX2_failLink : ByteArray := prog_1_method_3_code
def yX2_failLink : MethodName := ⟨RX2, "failLink", "(II)I"⟩
abbrev cX2_restoreLink : ByteArray := prog_1_method_4_code
def yX2_restoreLink : MethodName := ⟨RX2, "restoreLink", "(II)I"⟩
abbrev cX2_acknowledge : ByteArray := prog_1_method_5_code
def yX2_acknowledge : MethodName := ⟨RX2, "acknowledge", "(III)I"⟩
abbrev cX2_queueLength : ByteArray := prog_1_method_6_code
def yX2_queueLength : MethodName := ⟨RX2, "queueLength", "(II)I"⟩
abbrev cX2_queued : ByteArray := prog_1_method_7_code
def yX2_queued : MethodName := ⟨RX2, "queued", "(III)I"⟩
abbrev cX2_congestion : ByteArray := prog_1_method_8_code
def yX2_congestion : MethodName := ⟨RX2, "congestion", "(II)I"⟩
abbrev cX2_isActive : ByteArray := prog_1_method_9_code
def yX2_isActive : MethodName := ⟨RX2, "isActive", "(II)I"⟩
abbrev cX2_addRoute : ByteArray := prog_1_method_10_code
def yX2_addRoute : MethodName := ⟨RX2, "addRoute", "(III)I"⟩
abbrev cX2_removeRoute : ByteArray := prog_1_method_11_code
def yX2_removeRoute : MethodName := ⟨RX2, "removeRoute", "(II)I"⟩
abbrev cX2_setRouteState : ByteArray := prog_1_method_12_code
def yX2_setRouteState : MethodName := ⟨RX2, "setRouteState", "(III)I"⟩
abbrev cX2_routeState : ByteArray := prog_1_method_13_code
def yX2_routeState : MethodName := ⟨RX2, "routeState", "(II)I"⟩
abbrev cX2_currentRoutes : ByteArray := prog_1_method_14_code
def yX2_currentRoutes : MethodName := ⟨RX2, "currentRoutes", "(I)I"⟩
abbrev cX2_currentLink : ByteArray := prog_1_method_15_code
def yX2_currentLink : MethodName := ⟨RX2, "currentLink", "(II)I"⟩
abbrev cX2_send : ByteArray := prog_1_method_16_code
def yX2_send : MethodName := ⟨RX2, "send", "(III)I"⟩
abbrev cX2_setHoldTime : ByteArray := prog_1_method_17_code
def yX2_setHoldTime : MethodName := ⟨RX2, "setHoldTime", "(I)I"⟩
abbrev cX2_tick : ByteArray := prog_1_method_18_code
def yX2_tick : MethodName := ⟨RX2, "tick", "()I"⟩
abbrev cX2_time : ByteArray := prog_1_method_19_code
def yX2_time : MethodName := ⟨RX2, "time", "()I"⟩
abbrev cX2_isHeld : ByteArray := prog_1_method_20_code
def yX2_isHeld : MethodName := ⟨RX2, "isHeld", "(II)I"⟩
abbrev cX2_heldMessages : ByteArray := prog_1_method_21_code
def yX2_heldMessages : MethodName := ⟨RX2, "heldMessages", "()I"⟩
abbrev cX2_delivered : ByteArray := prog_1_method_22_code
def yX2_delivered : MethodName := ⟨RX2, "delivered", "()I"⟩
abbrev cX2_overtaken : ByteArray := prog_1_method_23_code
def yX2_overtaken : MethodName := ⟨RX2, "overtaken", "()I"⟩
abbrev cX2_unreachable : ByteArray := prog_1_method_24_code
def yX2_unreachable : MethodName := ⟨RX2, "unreachable", "()I"⟩
abbrev cX2_congested : ByteArray := prog_1_method_25_code
def yX2_congested : MethodName := ⟨RX2, "congested", "()I"⟩
abbrev cX2_lost : ByteArray := prog_1_method_26_code
def yX2_lost : MethodName := ⟨RX2, "lost", "()I"⟩
abbrev cX2_spread : ByteArray := prog_1_method_27_code
def yX2_spread : MethodName := ⟨RX2, "spread", "(I)I"⟩
abbrev cX2_undo : ByteArray := prog_1_method_28_code
def yX2_undo : MethodName := ⟨RX2, "undo", "()I"⟩
abbrev cX2_errorCount : ByteArray := prog_1_method_29_code
def yX2_errorCount : MethodName := ⟨RX2, "errorCount", "(I)I"⟩
abbrev cX2_digest : ByteArray := prog_1_method_30_code
def yX2_digest : MethodName := ⟨RX2, "digest", "()J"⟩
abbrev cX2_invalid : ByteArray := prog_1_method_31_code
def yX2_invalid : MethodName := ⟨RX2, "invalid", "()I"⟩
abbrev cX2_rejected : ByteArray := prog_1_method_32_code
def yX2_rejected : MethodName := ⟨RX2, "rejected", "()I"⟩
abbrev cX2_full : ByteArray := prog_1_method_33_code
def yX2_full : MethodName := ⟨RX2, "full", "()I"⟩
abbrev cX2_isDestination : ByteArray := prog_1_method_34_code
def yX2_isDestination : MethodName := ⟨RX2, "isDestination", "(I)Z"⟩
abbrev cX2_isStream : ByteArray := prog_1_method_35_code
def yX2_isStream : MethodName := ⟨RX2, "isStream", "(II)Z"⟩
abbrev cX2_linkPlace : ByteArray := prog_1_method_36_code
def yX2_linkPlace : MethodName := ⟨RX2, "linkPlace", "(II)I"⟩
abbrev cX2_routePlace : ByteArray := prog_1_method_37_code
def yX2_routePlace : MethodName := ⟨RX2, "routePlace", "(II)I"⟩
abbrev cX2_streamPlace : ByteArray := prog_1_method_38_code
def yX2_streamPlace : MethodName := ⟨RX2, "streamPlace", "(II)I"⟩
abbrev cX2_messageOf : ByteArray := prog_1_method_39_code
def yX2_messageOf : MethodName := ⟨RX2, "messageOf", "(II)I"⟩
abbrev cX2_numberOf : ByteArray := prog_1_method_40_code
def yX2_numberOf : MethodName := ⟨RX2, "numberOf", "(I)I"⟩
abbrev cX2_streamOf : ByteArray := prog_1_method_41_code
def yX2_streamOf : MethodName := ⟨RX2, "streamOf", "(I)I"⟩
abbrev cX2_setBit : ByteArray := prog_1_method_42_code
def yX2_setBit : MethodName := ⟨RX2, "setBit", "(II)I"⟩
abbrev cX2_mix : ByteArray := prog_1_method_43_code
def yX2_mix : MethodName := ⟨RX2, "mix", "(JI)J"⟩
def RX3 : String := "SignallingPointModel"
def TX3 : u_T := fun k => match k with
  | 0 => ("SignallingPointModel", "w", "[I", true)
  | 1 => ("SignallingPointModel", "past", "[I", true)
  | 2 => ("SignallingPointModel", "saved", "I", false)
  | 3 => ("SignallingPointModel", "errors", "[I", true)
  | 4 => ("SignallingPointModel", "before", "[I", true)
  | 5 => ("SignallingPointModel", "taken", "[I", true)
  | _ => ("SignallingPointModel", "hash", "J", false)
def tyX3 : Nat → FieldType := fun k => match k with
  | 0 => .array .int
  | 1 => .array .int
  | 2 => .int
  | 3 => .array .int
  | 4 => .array .int
  | 5 => .array .int
  | _ => .long
theorem nmX3 : ∀ a, a < 7 → ∀ b, b < 7 → a ≠ b → (TX3 a).2.1 ≠ (TX3 b).2.1 := by decide +kernel
theorem tyX3_ok : ∀ k, k < 7 → parseFieldDescriptor (TX3 k).2.2.1 = some (tyX3 k) := by decide +kernel
abbrev cX3_init : ByteArray := prog_5_method_1_code
def yX3_init : MethodName := ⟨RX3, "<init>", "()V"⟩
abbrev cX3_within : ByteArray := prog_5_method_3_code
def yX3_within : MethodName := ⟨RX3, "within", "(III)Z"⟩
abbrev cX3_fails : ByteArray := prog_5_method_4_code
def yX3_fails : MethodName := ⟨RX3, "fails", "(I)I"⟩
abbrev cX3_saves : ByteArray := prog_5_method_5_code
def yX3_saves : MethodName := ⟨RX3, "saves", "()V"⟩
abbrev cX3_undo : ByteArray := prog_5_method_6_code
def yX3_undo : MethodName := ⟨RX3, "undo", "()I"⟩
abbrev cX3_isSet : ByteArray := prog_5_method_7_code
def yX3_isSet : MethodName := ⟨RX3, "isSet", "(I)Z"⟩
abbrev cX3_isLink : ByteArray := prog_5_method_8_code
def yX3_isLink : MethodName := ⟨RX3, "isLink", "(II)Z"⟩
abbrev cX3_activeOf : ByteArray := prog_5_method_9_code
def yX3_activeOf : MethodName := ⟨RX3, "activeOf", "(I)I"⟩
abbrev cX3_isUsable : ByteArray := prog_5_method_10_code
def yX3_isUsable : MethodName := ⟨RX3, "isUsable", "(II)Z"⟩
abbrev cX3_routesOf : ByteArray := prog_5_method_11_code
def yX3_routesOf : MethodName := ⟨RX3, "routesOf", "(I)I"⟩
abbrev cX3_bits : ByteArray := prog_5_method_12_code
def yX3_bits : MethodName := ⟨RX3, "bits", "(I)I"⟩
abbrev cX3_linkOf : ByteArray := prog_5_method_13_code
def yX3_linkOf : MethodName := ⟨RX3, "linkOf", "(I)I"⟩
abbrev cX3_laysBefore : ByteArray := prog_5_method_14_code
def yX3_laysBefore : MethodName := ⟨RX3, "laysBefore", "()V"⟩
abbrev cX3_diverts : ByteArray := prog_5_method_15_code
def yX3_diverts : MethodName := ⟨RX3, "diverts", "()I"⟩
abbrev cX3_dispatches : ByteArray := prog_5_method_16_code
def yX3_dispatches : MethodName := ⟨RX3, "dispatches", "(I)V"⟩
abbrev cX3_levelOf : ByteArray := prog_5_method_17_code
def yX3_levelOf : MethodName := ⟨RX3, "levelOf", "(I)I"⟩
abbrev cX3_addLinkset : ByteArray := prog_5_method_18_code
def yX3_addLinkset : MethodName := ⟨RX3, "addLinkset", "(I)I"⟩
abbrev cX3_failLink : ByteArray := prog_5_method_19_code
def yX3_failLink : MethodName := ⟨RX3, "failLink", "(II)I"⟩
abbrev cX3_restoreLink : ByteArray := prog_5_method_20_code
def yX3_restoreLink : MethodName := ⟨RX3, "restoreLink", "(II)I"⟩
abbrev cX3_delivers : ByteArray := prog_5_method_21_code
def yX3_delivers : MethodName := ⟨RX3, "delivers", "(I)V"⟩
abbrev cX3_acknowledge : ByteArray := prog_5_method_22_code
def yX3_acknowledge : MethodName := ⟨RX3, "acknowledge", "(III)I"⟩
abbrev cX3_queueLength : ByteArray := prog_5_method_23_code
def yX3_queueLength : MethodName := ⟨RX3, "queueLength", "(II)I"⟩
abbrev cX3_queued : ByteArray := prog_5_method_24_code
def yX3_queued : MethodName := ⟨RX3, "queued", "(III)I"⟩
abbrev cX3_congestion : ByteArray := prog_5_method_25_code
def yX3_congestion : MethodName := ⟨RX3, "congestion", "(II)I"⟩
abbrev cX3_isActive : ByteArray := prog_5_method_26_code
def yX3_isActive : MethodName := ⟨RX3, "isActive", "(II)I"⟩
abbrev cX3_isDestination : ByteArray := prog_5_method_27_code
def yX3_isDestination : MethodName := ⟨RX3, "isDestination", "(I)Z"⟩
abbrev cX3_addRoute : ByteArray := prog_5_method_28_code
def yX3_addRoute : MethodName := ⟨RX3, "addRoute", "(III)I"⟩
abbrev cX3_removeRoute : ByteArray := prog_5_method_29_code
def yX3_removeRoute : MethodName := ⟨RX3, "removeRoute", "(II)I"⟩
abbrev cX3_setRouteState : ByteArray := prog_5_method_30_code
def yX3_setRouteState : MethodName := ⟨RX3, "setRouteState", "(III)I"⟩
abbrev cX3_routeState : ByteArray := prog_5_method_31_code
def yX3_routeState : MethodName := ⟨RX3, "routeState", "(II)I"⟩
abbrev cX3_currentRoutes : ByteArray := prog_5_method_32_code
def yX3_currentRoutes : MethodName := ⟨RX3, "currentRoutes", "(I)I"⟩
abbrev cX3_isStream : ByteArray := prog_5_method_33_code
def yX3_isStream : MethodName := ⟨RX3, "isStream", "(II)Z"⟩
abbrev cX3_currentLink : ByteArray := prog_5_method_34_code
def yX3_currentLink : MethodName := ⟨RX3, "currentLink", "(II)I"⟩
abbrev cX3_isCongested : ByteArray := prog_5_method_35_code
def yX3_isCongested : MethodName := ⟨RX3, "isCongested", "(II)Z"⟩
abbrev cX3_send : ByteArray := prog_5_method_36_code
def yX3_send : MethodName := ⟨RX3, "send", "(III)I"⟩
abbrev cX3_setHoldTime : ByteArray := prog_5_method_37_code
def yX3_setHoldTime : MethodName := ⟨RX3, "setHoldTime", "(I)I"⟩
abbrev cX3_tick : ByteArray := prog_5_method_38_code
def yX3_tick : MethodName := ⟨RX3, "tick", "()I"⟩
abbrev cX3_time : ByteArray := prog_5_method_39_code
def yX3_time : MethodName := ⟨RX3, "time", "()I"⟩
abbrev cX3_isHeld : ByteArray := prog_5_method_40_code
def yX3_isHeld : MethodName := ⟨RX3, "isHeld", "(II)I"⟩
abbrev cX3_heldMessages : ByteArray := prog_5_method_41_code
def yX3_heldMessages : MethodName := ⟨RX3, "heldMessages", "()I"⟩
abbrev cX3_delivered : ByteArray := prog_5_method_42_code
def yX3_delivered : MethodName := ⟨RX3, "delivered", "()I"⟩
abbrev cX3_overtaken : ByteArray := prog_5_method_43_code
def yX3_overtaken : MethodName := ⟨RX3, "overtaken", "()I"⟩
abbrev cX3_unreachable : ByteArray := prog_5_method_44_code
def yX3_unreachable : MethodName := ⟨RX3, "unreachable", "()I"⟩
abbrev cX3_congested : ByteArray := prog_5_method_45_code
def yX3_congested : MethodName := ⟨RX3, "congested", "()I"⟩
abbrev cX3_lost : ByteArray := prog_5_method_46_code
def yX3_lost : MethodName := ⟨RX3, "lost", "()I"⟩
abbrev cX3_spread : ByteArray := prog_5_method_47_code
def yX3_spread : MethodName := ⟨RX3, "spread", "(I)I"⟩
abbrev cX3_errorCount : ByteArray := prog_5_method_48_code
def yX3_errorCount : MethodName := ⟨RX3, "errorCount", "(I)I"⟩
abbrev cX3_mix : ByteArray := prog_5_method_49_code
def yX3_mix : MethodName := ⟨RX3, "mix", "(I)V"⟩
abbrev cX3_mixLink : ByteArray := prog_5_method_50_code
def yX3_mixLink : MethodName := ⟨RX3, "mixLink", "(I)V"⟩
abbrev cX3_mixDestination : ByteArray := prog_5_method_51_code
def yX3_mixDestination : MethodName := ⟨RX3, "mixDestination", "(I)V"⟩
abbrev cX3_digest : ByteArray := prog_5_method_52_code
def yX3_digest : MethodName := ⟨RX3, "digest", "()J"⟩
def RJ6 : String := "java/lang/Integer"
def TJ6 : u_T := fun k => match k with
  | _ => ("", "", "", false)
def tyJ6 : Nat → FieldType := fun k => match k with
  | _ => .int
theorem nmJ6 : ∀ a, a < 0 → ∀ b, b < 0 → a ≠ b → (TJ6 a).2.1 ≠ (TJ6 b).2.1 := by decide +kernel
theorem tyJ6_ok : ∀ k, k < 0 → parseFieldDescriptor (TJ6 k).2.2.1 = some (tyJ6 k) := by decide +kernel
abbrev cJ6_bitCount_0f7a4 : ByteArray := prog_6_method_49_code
def yJ6_bitCount_0f7a4 : MethodName := ⟨RJ6, "bitCount", "(I)I"⟩
def RJ9 : String := "java/lang/Math"
def TJ9 : u_T := fun k => match k with
  | _ => ("", "", "", false)
def tyJ9 : Nat → FieldType := fun k => match k with
  | _ => .int
theorem nmJ9 : ∀ a, a < 0 → ∀ b, b < 0 → a ≠ b → (TJ9 a).2.1 ≠ (TJ9 b).2.1 := by decide +kernel
theorem tyJ9_ok : ∀ k, k < 0 → parseFieldDescriptor (TJ9 k).2.2.1 = some (tyJ9 k) := by decide +kernel
abbrev cJ9_floorDiv_7cf53 : ByteArray := prog_7_method_47_code
def yJ9_floorDiv_7cf53 : MethodName := ⟨RJ9, "floorDiv", "(II)I"⟩
abbrev cJ9_floorMod_7cf53 : ByteArray := prog_7_method_50_code
def yJ9_floorMod_7cf53 : MethodName := ⟨RJ9, "floorMod", "(II)I"⟩
abbrev cJ9_min_7cf53 : ByteArray := prog_7_method_69_code
def yJ9_min_7cf53 : MethodName := ⟨RJ9, "min", "(II)I"⟩
def RJ10 : String := "java/lang/System"
def TJ10 : u_T := fun k => match k with
  | _ => ("", "", "", false)
def tyJ10 : Nat → FieldType := fun k => match k with
  | _ => .int
theorem nmJ10 : ∀ a, a < 0 → ∀ b, b < 0 → a ≠ b → (TJ10 a).2.1 ≠ (TJ10 b).2.1 := by decide +kernel
theorem tyJ10_ok : ∀ k, k < 0 → parseFieldDescriptor (TJ10 k).2.2.1 = some (tyJ10 k) := by decide +kernel
def RJ7 : String := "java/util/Arrays"
def TJ7 : u_T := fun k => match k with
  | _ => ("", "", "", false)
def tyJ7 : Nat → FieldType := fun k => match k with
  | _ => .int
theorem nmJ7 : ∀ a, a < 0 → ∀ b, b < 0 → a ≠ b → (TJ7 a).2.1 ≠ (TJ7 b).2.1 := by decide +kernel
theorem tyJ7_ok : ∀ k, k < 0 → parseFieldDescriptor (TJ7 k).2.2.1 = some (tyJ7 k) := by decide +kernel
abbrev cJ7_fill_53178 : ByteArray := prog_9_method_103_code
def yJ7_fill_53178 : MethodName := ⟨RJ7, "fill", "([II)V"⟩
def RL : String := "SignallingPointLaw"
abbrev cL_law : ByteArray := code
def yL_law : MethodName := ⟨RL, "law", "([I)Z"⟩
abbrev vwCl : List vw_C := [(RX0, TX0, 19), (RX1, TX1, 3), (RX2, TX2, 6), (RX3, TX3, 7)]
end
section
def WL : List Cond := lw_tbl.filter goodWord
theorem WL_in : ∀ w ∈ WL, w ∈ lw_tbl := fun _ h => (List.mem_filter.mp h).1
theorem WL_good {a b : Cond} (hb : b ∈ WL) : GoodIn (a :: WL) (b :: WL) := fun w h => by
  have h1 : w ∈ WL := (List.mem_cons.mp h).elim (fun e => e ▸ hb) id
  exact ⟨List.mem_cons_of_mem _ h1, good_of_word (List.mem_filter.mp h1).2⟩
theorem WL_good2 {b : Cond} (hb : b ∈ WL) : GoodIn WL (b :: WL) := fun w h => by
  have h1 : w ∈ WL := (List.mem_cons.mp h).elim (fun e => e ▸ hb) id
  exact ⟨h1, good_of_word (List.mem_filter.mp h1).2⟩
theorem qw0 : Cond.initialized "SignallingPointLaw" ∈ WL := List.mem_filter.mpr ⟨List.mem_append_right _ (List.mem_of_getElem? (i := 0) (by decide +kernel)), by decide +kernel⟩
theorem qw1 : Cond.initialized "SignallingPoint" ∈ WL := List.mem_filter.mpr ⟨List.mem_append_right _ (List.mem_of_getElem? (i := 1) (by decide +kernel)), by decide +kernel⟩
theorem qw2 : Cond.initialized "SignallingPoint$State" ∈ WL := List.mem_filter.mpr ⟨List.mem_append_right _ (List.mem_of_getElem? (i := 2) (by decide +kernel)), by decide +kernel⟩
theorem qw3 : Cond.initialized "java/util/Arrays" ∈ WL := List.mem_filter.mpr ⟨List.mem_append_right _ (List.mem_of_getElem? (i := 3) (by decide +kernel)), by decide +kernel⟩
theorem qw4 : Cond.initialized "SignallingPoint$UndoStack" ∈ WL := List.mem_filter.mpr ⟨List.mem_append_right _ (List.mem_of_getElem? (i := 4) (by decide +kernel)), by decide +kernel⟩
theorem qw5 : Cond.initialized "SignallingPointModel" ∈ WL := List.mem_filter.mpr ⟨List.mem_append_right _ (List.mem_of_getElem? (i := 5) (by decide +kernel)), by decide +kernel⟩
theorem qw6 : Cond.initialized "java/lang/Math" ∈ WL := List.mem_filter.mpr ⟨List.mem_append_right _ (List.mem_of_getElem? (i := 6) (by decide +kernel)), by decide +kernel⟩
theorem qw7 : Cond.initialized "java/lang/System" ∈ WL := List.mem_filter.mpr ⟨List.mem_append_right _ (List.mem_of_getElem? (i := 7) (by decide +kernel)), by decide +kernel⟩
theorem qw8 : Cond.initialized "java/lang/Integer" ∈ WL := List.mem_filter.mpr ⟨List.mem_append_right _ (List.mem_of_getElem? (i := 8) (by decide +kernel)), by decide +kernel⟩
theorem qw9 : Cond.classLink "SignallingPointLaw" (7 : Nat) "SignallingPoint" ∈ WL := List.mem_filter.mpr ⟨List.mem_append_right _ (List.mem_of_getElem? (i := 9) (by decide +kernel)), by decide +kernel⟩
theorem qw10 : Cond.instantiable "SignallingPoint" (6 : Nat) ∈ WL := List.mem_filter.mpr ⟨List.mem_append_right _ (List.mem_of_getElem? (i := 10) (by decide +kernel)), by decide +kernel⟩
theorem qw11 : Cond.methodLink "SignallingPointLaw" (9 : Nat) ({ cls := "SignallingPoint", name := "<init>", desc := "()V" } : MethodName) ∈ WL := List.mem_filter.mpr ⟨List.mem_append_right _ (List.mem_of_getElem? (i := 11) (by decide +kernel)), by decide +kernel⟩
theorem qw12 : Cond.instanceMethod ({ cls := "SignallingPoint", name := "<init>", desc := "()V" } : MethodName) ∈ WL := List.mem_filter.mpr ⟨List.mem_append_right _ (List.mem_of_getElem? (i := 12) (by decide +kernel)), by decide +kernel⟩
theorem qw13 : Cond.code ({ cls := "SignallingPoint", name := "<init>", desc := "()V" } : MethodName) prog_1_method_1_code (1 : Nat) (Option.none : Option Jvm.ClassFile.FieldType) ∈ WL := List.mem_filter.mpr ⟨List.mem_append_right _ (List.mem_of_getElem? (i := 13) (by decide +kernel)), by decide +kernel⟩
theorem qw14 : Cond.methodLink "SignallingPoint" (3 : Nat) ({ cls := "java/lang/Object", name := "<init>", desc := "()V" } : MethodName) ∈ WL := List.mem_filter.mpr ⟨List.mem_append_right _ (List.mem_of_getElem? (i := 14) (by decide +kernel)), by decide +kernel⟩
theorem qw15 : Cond.instanceMethod ({ cls := "java/lang/Object", name := "<init>", desc := "()V" } : MethodName) ∈ WL := List.mem_filter.mpr ⟨List.mem_append_right _ (List.mem_of_getElem? (i := 15) (by decide +kernel)), by decide +kernel⟩
theorem qw16 : Cond.code ({ cls := "java/lang/Object", name := "<init>", desc := "()V" } : MethodName) object_method_1_code (1 : Nat) (Option.none : Option Jvm.ClassFile.FieldType) ∈ WL := List.mem_filter.mpr ⟨List.mem_append_right _ (List.mem_of_getElem? (i := 16) (by decide +kernel)), by decide +kernel⟩
theorem qw17 : Cond.classLink "SignallingPoint" (9 : Nat) "SignallingPoint$State" ∈ WL := List.mem_filter.mpr ⟨List.mem_append_right _ (List.mem_of_getElem? (i := 17) (by decide +kernel)), by decide +kernel⟩
theorem qw18 : Cond.instantiable "SignallingPoint$State" (19 : Nat) ∈ WL := List.mem_filter.mpr ⟨List.mem_append_right _ (List.mem_of_getElem? (i := 18) (by decide +kernel)), by decide +kernel⟩
theorem qw19 : Cond.methodLinkNest "SignallingPoint" (11 : Nat) ({ cls := "SignallingPoint$State", name := "<init>", desc := "()V" } : MethodName) "SignallingPoint" ∈ lw_tbl := List.mem_append_right _ (List.mem_of_getElem? (i := 19) (by decide +kernel))
theorem qw20 : Cond.instanceMethod ({ cls := "SignallingPoint$State", name := "<init>", desc := "()V" } : MethodName) ∈ WL := List.mem_filter.mpr ⟨List.mem_append_right _ (List.mem_of_getElem? (i := 20) (by decide +kernel)), by decide +kernel⟩
theorem qw21 : Cond.code ({ cls := "SignallingPoint$State", name := "<init>", desc := "()V" } : MethodName) prog_2_method_1_code (1 : Nat) (Option.none : Option Jvm.ClassFile.FieldType) ∈ WL := List.mem_filter.mpr ⟨List.mem_append_right _ (List.mem_of_getElem? (i := 21) (by decide +kernel)), by decide +kernel⟩
theorem qw22 : Cond.methodLink "SignallingPoint$State" (3 : Nat) ({ cls := "java/lang/Object", name := "<init>", desc := "()V" } : MethodName) ∈ WL := List.mem_filter.mpr ⟨List.mem_append_right _ (List.mem_of_getElem? (i := 22) (by decide +kernel)), by decide +kernel⟩
theorem qw23 : Cond.methodLink "SignallingPoint$State" (43 : Nat) ({ cls := "java/util/Arrays", name := "fill", desc := "([II)V" } : MethodName) ∈ WL := List.mem_filter.mpr ⟨List.mem_append_right _ (List.mem_of_getElem? (i := 23) (by decide +kernel)), by decide +kernel⟩
theorem qw24 : Cond.static ({ cls := "java/util/Arrays", name := "fill", desc := "([II)V" } : MethodName) ∈ WL := List.mem_filter.mpr ⟨List.mem_append_right _ (List.mem_of_getElem? (i := 24) (by decide +kernel)), by decide +kernel⟩
theorem qw25 : Cond.code ({ cls := "java/util/Arrays", name := "fill", desc := "([II)V" } : MethodName) prog_9_method_103_code (4 : Nat) (Option.none : Option Jvm.ClassFile.FieldType) ∈ WL := List.mem_filter.mpr ⟨List.mem_append_right _ (List.mem_of_getElem? (i := 25) (by decide +kernel)), by decide +kernel⟩
theorem qw26 : Cond.fieldLink "SignallingPoint$State" (49 : Nat) "SignallingPoint$State" "time" "I" ∈ WL := List.mem_filter.mpr ⟨List.mem_append_right _ (List.mem_of_getElem? (i := 26) (by decide +kernel)), by decide +kernel⟩
theorem qw27 : Cond.fieldLinkNest "SignallingPoint" (122 : Nat) "SignallingPoint$State" "time" "I" "SignallingPoint" ∈ lw_tbl := List.mem_append_right _ (List.mem_of_getElem? (i := 27) (by decide +kernel))
theorem qw28 : Cond.fieldLink "SignallingPoint$State" (9 : Nat) "SignallingPoint$State" "holdTime" "I" ∈ WL := List.mem_filter.mpr ⟨List.mem_append_right _ (List.mem_of_getElem? (i := 28) (by decide +kernel)), by decide +kernel⟩
theorem qw29 : Cond.fieldLinkNest "SignallingPoint" (119 : Nat) "SignallingPoint$State" "holdTime" "I" "SignallingPoint" ∈ lw_tbl := List.mem_append_right _ (List.mem_of_getElem? (i := 29) (by decide +kernel))
theorem qw30 : Cond.fieldLink "SignallingPoint$State" (52 : Nat) "SignallingPoint$State" "sent" "I" ∈ WL := List.mem_filter.mpr ⟨List.mem_append_right _ (List.mem_of_getElem? (i := 30) (by decide +kernel)), by decide +kernel⟩
theorem qw31 : Cond.fieldLink "SignallingPoint$State" (55 : Nat) "SignallingPoint$State" "delivered" "I" ∈ WL := List.mem_filter.mpr ⟨List.mem_append_right _ (List.mem_of_getElem? (i := 31) (by decide +kernel)), by decide +kernel⟩
theorem qw32 : Cond.fieldLinkNest "SignallingPoint" (137 : Nat) "SignallingPoint$State" "delivered" "I" "SignallingPoint" ∈ lw_tbl := List.mem_append_right _ (List.mem_of_getElem? (i := 32) (by decide +kernel))
theorem qw33 : Cond.fieldLink "SignallingPoint$State" (58 : Nat) "SignallingPoint$State" "overtaken" "I" ∈ WL := List.mem_filter.mpr ⟨List.mem_append_right _ (List.mem_of_getElem? (i := 33) (by decide +kernel)), by decide +kernel⟩
theorem qw34 : Cond.fieldLinkNest "SignallingPoint" (140 : Nat) "SignallingPoint$State" "overtaken" "I" "SignallingPoint" ∈ lw_tbl := List.mem_append_right _ (List.mem_of_getElem? (i := 34) (by decide +kernel))
theorem qw35 : Cond.fieldLink "SignallingPoint$State" (61 : Nat) "SignallingPoint$State" "unreachable" "I" ∈ WL := List.mem_filter.mpr ⟨List.mem_append_right _ (List.mem_of_getElem? (i := 35) (by decide +kernel)), by decide +kernel⟩
theorem qw36 : Cond.fieldLinkNest "SignallingPoint" (143 : Nat) "SignallingPoint$State" "unreachable" "I" "SignallingPoint" ∈ lw_tbl := List.mem_append_right _ (List.mem_of_getElem? (i := 36) (by decide +kernel))
theorem qw37 : Cond.fieldLink "SignallingPoint$State" (64 : Nat) "SignallingPoint$State" "congested" "I" ∈ WL := List.mem_filter.mpr ⟨List.mem_append_right _ (List.mem_of_getElem? (i := 37) (by decide +kernel)), by decide +kernel⟩
theorem qw38 : Cond.fieldLinkNest "SignallingPoint" (146 : Nat) "SignallingPoint$State" "congested" "I" "SignallingPoint" ∈ lw_tbl := List.mem_append_right _ (List.mem_of_getElem? (i := 38) (by decide +kernel))
theorem qw39 : Cond.fieldLink "SignallingPoint$State" (67 : Nat) "SignallingPoint$State" "lost" "I" ∈ WL := List.mem_filter.mpr ⟨List.mem_append_right _ (List.mem_of_getElem? (i := 39) (by decide +kernel)), by decide +kernel⟩
theorem qw40 : Cond.fieldLinkNest "SignallingPoint" (149 : Nat) "SignallingPoint$State" "lost" "I" "SignallingPoint" ∈ lw_tbl := List.mem_append_right _ (List.mem_of_getElem? (i := 40) (by decide +kernel))
theorem qw41 : Cond.fieldLinkNest "SignallingPoint" (31 : Nat) "SignallingPoint$State" "linksets" "I" "SignallingPoint" ∈ lw_tbl := List.mem_append_right _ (List.mem_of_getElem? (i := 41) (by decide +kernel))
theorem qw42 : Cond.fieldLink "SignallingPoint$State" (70 : Nat) "SignallingPoint$State" "linksets" "I" ∈ WL := List.mem_filter.mpr ⟨List.mem_append_right _ (List.mem_of_getElem? (i := 42) (by decide +kernel)), by decide +kernel⟩
theorem qw43 : Cond.fieldLink "SignallingPoint$State" (73 : Nat) "SignallingPoint$State" "heldCount" "I" ∈ WL := List.mem_filter.mpr ⟨List.mem_append_right _ (List.mem_of_getElem? (i := 43) (by decide +kernel)), by decide +kernel⟩
theorem qw44 : Cond.fieldLinkNest "SignallingPoint" (134 : Nat) "SignallingPoint$State" "heldCount" "I" "SignallingPoint" ∈ lw_tbl := List.mem_append_right _ (List.mem_of_getElem? (i := 44) (by decide +kernel))
theorem qw45 : Cond.fieldLink "SignallingPoint$State" (15 : Nat) "SignallingPoint$State" "linkCounts" "[I" ∈ WL := List.mem_filter.mpr ⟨List.mem_append_right _ (List.mem_of_getElem? (i := 45) (by decide +kernel)), by decide +kernel⟩
theorem qw46 : Cond.fieldLink "SignallingPoint$State" (19 : Nat) "SignallingPoint$State" "activeLinks" "[I" ∈ WL := List.mem_filter.mpr ⟨List.mem_append_right _ (List.mem_of_getElem? (i := 46) (by decide +kernel)), by decide +kernel⟩
theorem qw47 : Cond.fieldLink "SignallingPoint$State" (22 : Nat) "SignallingPoint$State" "queueLengths" "[I" ∈ WL := List.mem_filter.mpr ⟨List.mem_append_right _ (List.mem_of_getElem? (i := 47) (by decide +kernel)), by decide +kernel⟩
theorem qw48 : Cond.fieldLinkNest "SignallingPoint" (78 : Nat) "SignallingPoint$State" "queueLengths" "[I" "SignallingPoint" ∈ lw_tbl := List.mem_append_right _ (List.mem_of_getElem? (i := 48) (by decide +kernel))
theorem qw49 : Cond.fieldLink "SignallingPoint$State" (25 : Nat) "SignallingPoint$State" "queues" "[I" ∈ WL := List.mem_filter.mpr ⟨List.mem_append_right _ (List.mem_of_getElem? (i := 49) (by decide +kernel)), by decide +kernel⟩
theorem qw50 : Cond.fieldLinkNest "SignallingPoint" (81 : Nat) "SignallingPoint$State" "queues" "[I" "SignallingPoint" ∈ lw_tbl := List.mem_append_right _ (List.mem_of_getElem? (i := 50) (by decide +kernel))
theorem qw51 : Cond.fieldLink "SignallingPoint$State" (28 : Nat) "SignallingPoint$State" "routeStates" "[I" ∈ WL := List.mem_filter.mpr ⟨List.mem_append_right _ (List.mem_of_getElem? (i := 51) (by decide +kernel)), by decide +kernel⟩
theorem qw52 : Cond.fieldLinkNest "SignallingPoint" (96 : Nat) "SignallingPoint$State" "routeStates" "[I" "SignallingPoint" ∈ lw_tbl := List.mem_append_right _ (List.mem_of_getElem? (i := 52) (by decide +kernel))
theorem qw53 : Cond.fieldLink "SignallingPoint$State" (31 : Nat) "SignallingPoint$State" "priorities" "[I" ∈ WL := List.mem_filter.mpr ⟨List.mem_append_right _ (List.mem_of_getElem? (i := 53) (by decide +kernel)), by decide +kernel⟩
theorem qw54 : Cond.fieldLinkNest "SignallingPoint" (99 : Nat) "SignallingPoint$State" "priorities" "[I" "SignallingPoint" ∈ lw_tbl := List.mem_append_right _ (List.mem_of_getElem? (i := 54) (by decide +kernel))
theorem qw55 : Cond.fieldLink "SignallingPoint$State" (34 : Nat) "SignallingPoint$State" "heldUntil" "[I" ∈ WL := List.mem_filter.mpr ⟨List.mem_append_right _ (List.mem_of_getElem? (i := 55) (by decide +kernel)), by decide +kernel⟩
theorem qw56 : Cond.fieldLink "SignallingPoint$State" (37 : Nat) "SignallingPoint$State" "highestDelivered" "[I" ∈ WL := List.mem_filter.mpr ⟨List.mem_append_right _ (List.mem_of_getElem? (i := 56) (by decide +kernel)), by decide +kernel⟩
theorem qw57 : Cond.fieldLink "SignallingPoint$State" (40 : Nat) "SignallingPoint$State" "holding" "[I" ∈ WL := List.mem_filter.mpr ⟨List.mem_append_right _ (List.mem_of_getElem? (i := 57) (by decide +kernel)), by decide +kernel⟩
theorem qw58 : Cond.lays "SignallingPoint$State" "SignallingPoint$State" "time" "I" ∈ WL := List.mem_filter.mpr ⟨List.mem_append_right _ (List.mem_of_getElem? (i := 58) (by decide +kernel)), by decide +kernel⟩
theorem qw60 : Cond.lays "SignallingPoint$State" "SignallingPoint$State" "holdTime" "I" ∈ WL := List.mem_filter.mpr ⟨List.mem_append_right _ (List.mem_of_getElem? (i := 60) (by decide +kernel)), by decide +kernel⟩
theorem qw62 : Cond.lays "SignallingPoint$State" "SignallingPoint$State" "sent" "I" ∈ WL := List.mem_filter.mpr ⟨List.mem_append_right _ (List.mem_of_getElem? (i := 62) (by decide +kernel)), by decide +kernel⟩
theorem qw64 : Cond.lays "SignallingPoint$State" "SignallingPoint$State" "delivered" "I" ∈ WL := List.mem_filter.mpr ⟨List.mem_append_right _ (List.mem_of_getElem? (i := 64) (by decide +kernel)), by decide +kernel⟩
theorem qw66 : Cond.lays "SignallingPoint$State" "SignallingPoint$State" "overtaken" "I" ∈ WL := List.mem_filter.mpr ⟨List.mem_append_right _ (List.mem_of_getElem? (i := 66) (by decide +kernel)), by decide +kernel⟩
theorem qw68 : Cond.lays "SignallingPoint$State" "SignallingPoint$State" "unreachable" "I" ∈ WL := List.mem_filter.mpr ⟨List.mem_append_right _ (List.mem_of_getElem? (i := 68) (by decide +kernel)), by decide +kernel⟩
theorem qw70 : Cond.lays "SignallingPoint$State" "SignallingPoint$State" "congested" "I" ∈ WL := List.mem_filter.mpr ⟨List.mem_append_right _ (List.mem_of_getElem? (i := 70) (by decide +kernel)), by decide +kernel⟩
theorem qw72 : Cond.lays "SignallingPoint$State" "SignallingPoint$State" "lost" "I" ∈ WL := List.mem_filter.mpr ⟨List.mem_append_right _ (List.mem_of_getElem? (i := 72) (by decide +kernel)), by decide +kernel⟩
theorem qw74 : Cond.lays "SignallingPoint$State" "SignallingPoint$State" "linksets" "I" ∈ WL := List.mem_filter.mpr ⟨List.mem_append_right _ (List.mem_of_getElem? (i := 74) (by decide +kernel)), by decide +kernel⟩
theorem qw76 : Cond.lays "SignallingPoint$State" "SignallingPoint$State" "heldCount" "I" ∈ WL := List.mem_filter.mpr ⟨List.mem_append_right _ (List.mem_of_getElem? (i := 76) (by decide +kernel)), by decide +kernel⟩
theorem qw78 : Cond.laysFinal "SignallingPoint$State" "SignallingPoint$State" "linkCounts" "[I" ∈ WL := List.mem_filter.mpr ⟨List.mem_append_right _ (List.mem_of_getElem? (i := 78) (by decide +kernel)), by decide +kernel⟩
theorem qw80 : Cond.laysFinal "SignallingPoint$State" "SignallingPoint$State" "activeLinks" "[I" ∈ WL := List.mem_filter.mpr ⟨List.mem_append_right _ (List.mem_of_getElem? (i := 80) (by decide +kernel)), by decide +kernel⟩
theorem qw82 : Cond.laysFinal "SignallingPoint$State" "SignallingPoint$State" "queueLengths" "[I" ∈ WL := List.mem_filter.mpr ⟨List.mem_append_right _ (List.mem_of_getElem? (i := 82) (by decide +kernel)), by decide +kernel⟩
theorem qw84 : Cond.laysFinal "SignallingPoint$State" "SignallingPoint$State" "queues" "[I" ∈ WL := List.mem_filter.mpr ⟨List.mem_append_right _ (List.mem_of_getElem? (i := 84) (by decide +kernel)), by decide +kernel⟩
theorem qw86 : Cond.laysFinal "SignallingPoint$State" "SignallingPoint$State" "routeStates" "[I" ∈ WL := List.mem_filter.mpr ⟨List.mem_append_right _ (List.mem_of_getElem? (i := 86) (by decide +kernel)), by decide +kernel⟩
theorem qw88 : Cond.laysFinal "SignallingPoint$State" "SignallingPoint$State" "priorities" "[I" ∈ WL := List.mem_filter.mpr ⟨List.mem_append_right _ (List.mem_of_getElem? (i := 88) (by decide +kernel)), by decide +kernel⟩
theorem qw90 : Cond.laysFinal "SignallingPoint$State" "SignallingPoint$State" "heldUntil" "[I" ∈ WL := List.mem_filter.mpr ⟨List.mem_append_right _ (List.mem_of_getElem? (i := 90) (by decide +kernel)), by decide +kernel⟩
theorem qw92 : Cond.laysFinal "SignallingPoint$State" "SignallingPoint$State" "highestDelivered" "[I" ∈ WL := List.mem_filter.mpr ⟨List.mem_append_right _ (List.mem_of_getElem? (i := 92) (by decide +kernel)), by decide +kernel⟩
theorem qw94 : Cond.laysFinal "SignallingPoint$State" "SignallingPoint$State" "holding" "[I" ∈ WL := List.mem_filter.mpr ⟨List.mem_append_right _ (List.mem_of_getElem? (i := 94) (by decide +kernel)), by decide +kernel⟩
theorem qw97 : Cond.arrayClass Jvm.ClassFile.FieldType.int ∈ WL := List.mem_filter.mpr ⟨List.mem_append_right _ (List.mem_of_getElem? (i := 97) (by decide +kernel)), by decide +kernel⟩
theorem qw98 : Cond.classLink "SignallingPoint" (16 : Nat) "SignallingPoint$UndoStack" ∈ WL := List.mem_filter.mpr ⟨List.mem_append_right _ (List.mem_of_getElem? (i := 98) (by decide +kernel)), by decide +kernel⟩
theorem qw99 : Cond.instantiable "SignallingPoint$UndoStack" (3 : Nat) ∈ WL := List.mem_filter.mpr ⟨List.mem_append_right _ (List.mem_of_getElem? (i := 99) (by decide +kernel)), by decide +kernel⟩
theorem qw100 : Cond.methodLinkNest "SignallingPoint" (18 : Nat) ({ cls := "SignallingPoint$UndoStack", name := "<init>", desc := "()V" } : MethodName) "SignallingPoint" ∈ lw_tbl := List.mem_append_right _ (List.mem_of_getElem? (i := 100) (by decide +kernel))
theorem qw101 : Cond.instanceMethod ({ cls := "SignallingPoint$UndoStack", name := "<init>", desc := "()V" } : MethodName) ∈ WL := List.mem_filter.mpr ⟨List.mem_append_right _ (List.mem_of_getElem? (i := 101) (by decide +kernel)), by decide +kernel⟩
theorem qw102 : Cond.code ({ cls := "SignallingPoint$UndoStack", name := "<init>", desc := "()V" } : MethodName) prog_3_method_1_code (2 : Nat) (Option.none : Option Jvm.ClassFile.FieldType) ∈ WL := List.mem_filter.mpr ⟨List.mem_append_right _ (List.mem_of_getElem? (i := 102) (by decide +kernel)), by decide +kernel⟩
theorem qw103 : Cond.methodLink "SignallingPoint$UndoStack" (3 : Nat) ({ cls := "java/lang/Object", name := "<init>", desc := "()V" } : MethodName) ∈ WL := List.mem_filter.mpr ⟨List.mem_append_right _ (List.mem_of_getElem? (i := 103) (by decide +kernel)), by decide +kernel⟩
theorem qw104 : Cond.classLink "SignallingPoint$UndoStack" (9 : Nat) "SignallingPoint$State" ∈ WL := List.mem_filter.mpr ⟨List.mem_append_right _ (List.mem_of_getElem? (i := 104) (by decide +kernel)), by decide +kernel⟩
theorem qw106 : Cond.methodLinkNest "SignallingPoint$UndoStack" (17 : Nat) ({ cls := "SignallingPoint$State", name := "<init>", desc := "()V" } : MethodName) "SignallingPoint" ∈ lw_tbl := List.mem_append_right _ (List.mem_of_getElem? (i := 106) (by decide +kernel))
theorem qw107 : Cond.fieldLink "SignallingPoint$UndoStack" (11 : Nat) "SignallingPoint$UndoStack" "ring" "[LSignallingPoint$State;" ∈ WL := List.mem_filter.mpr ⟨List.mem_append_right _ (List.mem_of_getElem? (i := 107) (by decide +kernel)), by decide +kernel⟩
theorem qw108 : Cond.fieldLink "SignallingPoint$UndoStack" (18 : Nat) "SignallingPoint$UndoStack" "next" "I" ∈ WL := List.mem_filter.mpr ⟨List.mem_append_right _ (List.mem_of_getElem? (i := 108) (by decide +kernel)), by decide +kernel⟩
theorem qw109 : Cond.fieldLink "SignallingPoint$UndoStack" (26 : Nat) "SignallingPoint$UndoStack" "size" "I" ∈ WL := List.mem_filter.mpr ⟨List.mem_append_right _ (List.mem_of_getElem? (i := 109) (by decide +kernel)), by decide +kernel⟩
theorem qw110 : Cond.fieldLinkNest "SignallingPoint" (155 : Nat) "SignallingPoint$UndoStack" "size" "I" "SignallingPoint" ∈ lw_tbl := List.mem_append_right _ (List.mem_of_getElem? (i := 110) (by decide +kernel))
theorem qw111 : Cond.laysFinal "SignallingPoint$UndoStack" "SignallingPoint$UndoStack" "ring" "[LSignallingPoint$State;" ∈ WL := List.mem_filter.mpr ⟨List.mem_append_right _ (List.mem_of_getElem? (i := 111) (by decide +kernel)), by decide +kernel⟩
theorem qw113 : Cond.lays "SignallingPoint$UndoStack" "SignallingPoint$UndoStack" "next" "I" ∈ WL := List.mem_filter.mpr ⟨List.mem_append_right _ (List.mem_of_getElem? (i := 113) (by decide +kernel)), by decide +kernel⟩
theorem qw115 : Cond.lays "SignallingPoint$UndoStack" "SignallingPoint$UndoStack" "size" "I" ∈ WL := List.mem_filter.mpr ⟨List.mem_append_right _ (List.mem_of_getElem? (i := 115) (by decide +kernel)), by decide +kernel⟩
theorem qw118 : Cond.fieldLink "SignallingPoint" (12 : Nat) "SignallingPoint" "now" "LSignallingPoint$State;" ∈ WL := List.mem_filter.mpr ⟨List.mem_append_right _ (List.mem_of_getElem? (i := 118) (by decide +kernel)), by decide +kernel⟩
theorem qw119 : Cond.fieldLink "SignallingPoint" (19 : Nat) "SignallingPoint" "undoStack" "LSignallingPoint$UndoStack;" ∈ WL := List.mem_filter.mpr ⟨List.mem_append_right _ (List.mem_of_getElem? (i := 119) (by decide +kernel)), by decide +kernel⟩
theorem qw120 : Cond.fieldLink "SignallingPoint" (23 : Nat) "SignallingPoint" "linksBefore" "[I" ∈ WL := List.mem_filter.mpr ⟨List.mem_append_right _ (List.mem_of_getElem? (i := 120) (by decide +kernel)), by decide +kernel⟩
theorem qw121 : Cond.fieldLink "SignallingPoint" (161 : Nat) "SignallingPoint" "invalidCalls" "I" ∈ WL := List.mem_filter.mpr ⟨List.mem_append_right _ (List.mem_of_getElem? (i := 121) (by decide +kernel)), by decide +kernel⟩
theorem qw122 : Cond.fieldLink "SignallingPoint" (164 : Nat) "SignallingPoint" "rejectedCalls" "I" ∈ WL := List.mem_filter.mpr ⟨List.mem_append_right _ (List.mem_of_getElem? (i := 122) (by decide +kernel)), by decide +kernel⟩
theorem qw123 : Cond.fieldLink "SignallingPoint" (167 : Nat) "SignallingPoint" "fullCalls" "I" ∈ WL := List.mem_filter.mpr ⟨List.mem_append_right _ (List.mem_of_getElem? (i := 123) (by decide +kernel)), by decide +kernel⟩
theorem qw124 : Cond.laysFinal "SignallingPoint" "SignallingPoint" "now" "LSignallingPoint$State;" ∈ WL := List.mem_filter.mpr ⟨List.mem_append_right _ (List.mem_of_getElem? (i := 124) (by decide +kernel)), by decide +kernel⟩
theorem qw126 : Cond.laysFinal "SignallingPoint" "SignallingPoint" "undoStack" "LSignallingPoint$UndoStack;" ∈ WL := List.mem_filter.mpr ⟨List.mem_append_right _ (List.mem_of_getElem? (i := 126) (by decide +kernel)), by decide +kernel⟩
theorem qw128 : Cond.laysFinal "SignallingPoint" "SignallingPoint" "linksBefore" "[I" ∈ WL := List.mem_filter.mpr ⟨List.mem_append_right _ (List.mem_of_getElem? (i := 128) (by decide +kernel)), by decide +kernel⟩
theorem qw130 : Cond.lays "SignallingPoint" "SignallingPoint" "invalidCalls" "I" ∈ WL := List.mem_filter.mpr ⟨List.mem_append_right _ (List.mem_of_getElem? (i := 130) (by decide +kernel)), by decide +kernel⟩
theorem qw132 : Cond.lays "SignallingPoint" "SignallingPoint" "rejectedCalls" "I" ∈ WL := List.mem_filter.mpr ⟨List.mem_append_right _ (List.mem_of_getElem? (i := 132) (by decide +kernel)), by decide +kernel⟩
theorem qw134 : Cond.lays "SignallingPoint" "SignallingPoint" "fullCalls" "I" ∈ WL := List.mem_filter.mpr ⟨List.mem_append_right _ (List.mem_of_getElem? (i := 134) (by decide +kernel)), by decide +kernel⟩
theorem qw137 : Cond.methodLink "SignallingPointLaw" (13 : Nat) ({ cls := "SignallingPoint", name := "addLinkset", desc := "(I)I" } : MethodName) ∈ WL := List.mem_filter.mpr ⟨List.mem_append_right _ (List.mem_of_getElem? (i := 137) (by decide +kernel)), by decide +kernel⟩
theorem qw138 : Cond.instanceMethod ({ cls := "SignallingPoint", name := "addLinkset", desc := "(I)I" } : MethodName) ∈ WL := List.mem_filter.mpr ⟨List.mem_append_right _ (List.mem_of_getElem? (i := 138) (by decide +kernel)), by decide +kernel⟩
theorem qw139 : Cond.selects "SignallingPoint" ({ cls := "SignallingPoint", name := "addLinkset", desc := "(I)I" } : MethodName) ({ cls := "SignallingPoint", name := "addLinkset", desc := "(I)I" } : MethodName) ∈ WL := List.mem_filter.mpr ⟨List.mem_append_right _ (List.mem_of_getElem? (i := 139) (by decide +kernel)), by decide +kernel⟩
theorem qw140 : Cond.code ({ cls := "SignallingPoint", name := "addLinkset", desc := "(I)I" } : MethodName) prog_1_method_2_code (2 : Nat) (Option.some Jvm.ClassFile.FieldType.int) ∈ WL := List.mem_filter.mpr ⟨List.mem_append_right _ (List.mem_of_getElem? (i := 140) (by decide +kernel)), by decide +kernel⟩
theorem qw141 : Cond.methodLink "SignallingPoint" (27 : Nat) ({ cls := "SignallingPoint", name := "invalid", desc := "()I" } : MethodName) ∈ WL := List.mem_filter.mpr ⟨List.mem_append_right _ (List.mem_of_getElem? (i := 141) (by decide +kernel)), by decide +kernel⟩
theorem qw143 : Cond.instanceMethod ({ cls := "SignallingPoint", name := "invalid", desc := "()I" } : MethodName) ∈ WL := List.mem_filter.mpr ⟨List.mem_append_right _ (List.mem_of_getElem? (i := 143) (by decide +kernel)), by decide +kernel⟩
theorem qw144 : Cond.code ({ cls := "SignallingPoint", name := "invalid", desc := "()I" } : MethodName) prog_1_method_31_code (1 : Nat) (Option.some Jvm.ClassFile.FieldType.int) ∈ WL := List.mem_filter.mpr ⟨List.mem_append_right _ (List.mem_of_getElem? (i := 144) (by decide +kernel)), by decide +kernel⟩
theorem qw145 : Cond.methodLink "SignallingPoint" (35 : Nat) ({ cls := "SignallingPoint", name := "full", desc := "()I" } : MethodName) ∈ WL := List.mem_filter.mpr ⟨List.mem_append_right _ (List.mem_of_getElem? (i := 145) (by decide +kernel)), by decide +kernel⟩
theorem qw147 : Cond.instanceMethod ({ cls := "SignallingPoint", name := "full", desc := "()I" } : MethodName) ∈ WL := List.mem_filter.mpr ⟨List.mem_append_right _ (List.mem_of_getElem? (i := 147) (by decide +kernel)), by decide +kernel⟩
theorem qw148 : Cond.code ({ cls := "SignallingPoint", name := "full", desc := "()I" } : MethodName) prog_1_method_33_code (1 : Nat) (Option.some Jvm.ClassFile.FieldType.int) ∈ WL := List.mem_filter.mpr ⟨List.mem_append_right _ (List.mem_of_getElem? (i := 148) (by decide +kernel)), by decide +kernel⟩
theorem qw149 : Cond.methodLinkNest "SignallingPoint" (38 : Nat) ({ cls := "SignallingPoint$UndoStack", name := "save", desc := "(LSignallingPoint$State;)V" } : MethodName) "SignallingPoint" ∈ lw_tbl := List.mem_append_right _ (List.mem_of_getElem? (i := 149) (by decide +kernel))
theorem qw151 : Cond.instanceMethod ({ cls := "SignallingPoint$UndoStack", name := "save", desc := "(LSignallingPoint$State;)V" } : MethodName) ∈ WL := List.mem_filter.mpr ⟨List.mem_append_right _ (List.mem_of_getElem? (i := 151) (by decide +kernel)), by decide +kernel⟩
theorem qw152 : Cond.code ({ cls := "SignallingPoint$UndoStack", name := "save", desc := "(LSignallingPoint$State;)V" } : MethodName) prog_3_method_2_code (2 : Nat) (Option.none : Option Jvm.ClassFile.FieldType) ∈ WL := List.mem_filter.mpr ⟨List.mem_append_right _ (List.mem_of_getElem? (i := 152) (by decide +kernel)), by decide +kernel⟩
theorem qw153 : Cond.methodLinkNest "SignallingPoint$UndoStack" (22 : Nat) ({ cls := "SignallingPoint$State", name := "copyFrom", desc := "(LSignallingPoint$State;)V" } : MethodName) "SignallingPoint" ∈ lw_tbl := List.mem_append_right _ (List.mem_of_getElem? (i := 153) (by decide +kernel))
theorem qw155 : Cond.instanceMethod ({ cls := "SignallingPoint$State", name := "copyFrom", desc := "(LSignallingPoint$State;)V" } : MethodName) ∈ WL := List.mem_filter.mpr ⟨List.mem_append_right _ (List.mem_of_getElem? (i := 155) (by decide +kernel)), by decide +kernel⟩
theorem qw156 : Cond.code ({ cls := "SignallingPoint$State", name := "copyFrom", desc := "(LSignallingPoint$State;)V" } : MethodName) prog_2_method_2_code (2 : Nat) (Option.none : Option Jvm.ClassFile.FieldType) ∈ WL := List.mem_filter.mpr ⟨List.mem_append_right _ (List.mem_of_getElem? (i := 156) (by decide +kernel)), by decide +kernel⟩
theorem qw157 : Cond.methodLink "SignallingPoint$State" (76 : Nat) ({ cls := "SignallingPoint$State", name := "copyRow", desc := "([I[I)V" } : MethodName) ∈ WL := List.mem_filter.mpr ⟨List.mem_append_right _ (List.mem_of_getElem? (i := 157) (by decide +kernel)), by decide +kernel⟩
theorem qw158 : Cond.static ({ cls := "SignallingPoint$State", name := "copyRow", desc := "([I[I)V" } : MethodName) ∈ WL := List.mem_filter.mpr ⟨List.mem_append_right _ (List.mem_of_getElem? (i := 158) (by decide +kernel)), by decide +kernel⟩
theorem qw159 : Cond.code ({ cls := "SignallingPoint$State", name := "copyRow", desc := "([I[I)V" } : MethodName) prog_2_method_3_code (2 : Nat) (Option.none : Option Jvm.ClassFile.FieldType) ∈ WL := List.mem_filter.mpr ⟨List.mem_append_right _ (List.mem_of_getElem? (i := 159) (by decide +kernel)), by decide +kernel⟩
theorem qw160 : Cond.methodLink "SignallingPoint$State" (80 : Nat) ({ cls := "java/lang/Math", name := "min", desc := "(II)I" } : MethodName) ∈ WL := List.mem_filter.mpr ⟨List.mem_append_right _ (List.mem_of_getElem? (i := 160) (by decide +kernel)), by decide +kernel⟩
theorem qw161 : Cond.static ({ cls := "java/lang/Math", name := "min", desc := "(II)I" } : MethodName) ∈ WL := List.mem_filter.mpr ⟨List.mem_append_right _ (List.mem_of_getElem? (i := 161) (by decide +kernel)), by decide +kernel⟩
theorem qw162 : Cond.code ({ cls := "java/lang/Math", name := "min", desc := "(II)I" } : MethodName) prog_7_method_69_code (2 : Nat) (Option.some Jvm.ClassFile.FieldType.int) ∈ WL := List.mem_filter.mpr ⟨List.mem_append_right _ (List.mem_of_getElem? (i := 162) (by decide +kernel)), by decide +kernel⟩
theorem qw163 : Cond.methodLink "SignallingPoint$State" (86 : Nat) ({ cls := "java/lang/System", name := "arraycopy", desc := "(Ljava/lang/Object;ILjava/lang/Object;II)V" } : MethodName) ∈ WL := List.mem_filter.mpr ⟨List.mem_append_right _ (List.mem_of_getElem? (i := 163) (by decide +kernel)), by decide +kernel⟩
theorem qw164 : Cond.static ({ cls := "java/lang/System", name := "arraycopy", desc := "(Ljava/lang/Object;ILjava/lang/Object;II)V" } : MethodName) ∈ WL := List.mem_filter.mpr ⟨List.mem_append_right _ (List.mem_of_getElem? (i := 164) (by decide +kernel)), by decide +kernel⟩
theorem qw165 : Cond.native ({ cls := "java/lang/System", name := "arraycopy", desc := "(Ljava/lang/Object;ILjava/lang/Object;II)V" } : MethodName) ∈ WL := List.mem_filter.mpr ⟨List.mem_append_right _ (List.mem_of_getElem? (i := 165) (by decide +kernel)), by decide +kernel⟩
theorem qw166 : Cond.methodLink "SignallingPoint$UndoStack" (29 : Nat) ({ cls := "java/lang/Math", name := "min", desc := "(II)I" } : MethodName) ∈ WL := List.mem_filter.mpr ⟨List.mem_append_right _ (List.mem_of_getElem? (i := 166) (by decide +kernel)), by decide +kernel⟩
theorem qw167 : Cond.methodLinkNest "SignallingPoint" (42 : Nat) ({ cls := "SignallingPoint$State", name := "appendLinkset", desc := "(I)I" } : MethodName) "SignallingPoint" ∈ lw_tbl := List.mem_append_right _ (List.mem_of_getElem? (i := 167) (by decide +kernel))
theorem qw169 : Cond.instanceMethod ({ cls := "SignallingPoint$State", name := "appendLinkset", desc := "(I)I" } : MethodName) ∈ WL := List.mem_filter.mpr ⟨List.mem_append_right _ (List.mem_of_getElem? (i := 169) (by decide +kernel)), by decide +kernel⟩
theorem qw170 : Cond.code ({ cls := "SignallingPoint$State", name := "appendLinkset", desc := "(I)I" } : MethodName) prog_2_method_9_code (3 : Nat) (Option.some Jvm.ClassFile.FieldType.int) ∈ WL := List.mem_filter.mpr ⟨List.mem_append_right _ (List.mem_of_getElem? (i := 170) (by decide +kernel)), by decide +kernel⟩
theorem qw171 : Cond.methodLink "SignallingPointLaw" (18 : Nat) ({ cls := "SignallingPoint", name := "failLink", desc := "(II)I" } : MethodName) ∈ WL := List.mem_filter.mpr ⟨List.mem_append_right _ (List.mem_of_getElem? (i := 171) (by decide +kernel)), by decide +kernel⟩
theorem qw172 : Cond.instanceMethod ({ cls := "SignallingPoint", name := "failLink", desc := "(II)I" } : MethodName) ∈ WL := List.mem_filter.mpr ⟨List.mem_append_right _ (List.mem_of_getElem? (i := 172) (by decide +kernel)), by decide +kernel⟩
theorem qw173 : Cond.selects "SignallingPoint" ({ cls := "SignallingPoint", name := "failLink", desc := "(II)I" } : MethodName) ({ cls := "SignallingPoint", name := "failLink", desc := "(II)I" } : MethodName) ∈ WL := List.mem_filter.mpr ⟨List.mem_append_right _ (List.mem_of_getElem? (i := 173) (by decide +kernel)), by decide +kernel⟩
theorem qw174 : Cond.code ({ cls := "SignallingPoint", name := "failLink", desc := "(II)I" } : MethodName) prog_1_method_3_code (3 : Nat) (Option.some Jvm.ClassFile.FieldType.int) ∈ WL := List.mem_filter.mpr ⟨List.mem_append_right _ (List.mem_of_getElem? (i := 174) (by decide +kernel)), by decide +kernel⟩
theorem qw175 : Cond.methodLinkNest "SignallingPoint" (46 : Nat) ({ cls := "SignallingPoint$State", name := "hasLink", desc := "(II)Z" } : MethodName) "SignallingPoint" ∈ lw_tbl := List.mem_append_right _ (List.mem_of_getElem? (i := 175) (by decide +kernel))
theorem qw177 : Cond.instanceMethod ({ cls := "SignallingPoint$State", name := "hasLink", desc := "(II)Z" } : MethodName) ∈ WL := List.mem_filter.mpr ⟨List.mem_append_right _ (List.mem_of_getElem? (i := 177) (by decide +kernel)), by decide +kernel⟩
theorem qw178 : Cond.code ({ cls := "SignallingPoint$State", name := "hasLink", desc := "(II)Z" } : MethodName) prog_2_method_5_code (3 : Nat) (Option.some Jvm.ClassFile.FieldType.boolean) ∈ WL := List.mem_filter.mpr ⟨List.mem_append_right _ (List.mem_of_getElem? (i := 178) (by decide +kernel)), by decide +kernel⟩
theorem qw179 : Cond.methodLink "SignallingPoint$State" (92 : Nat) ({ cls := "SignallingPoint$State", name := "hasLinkset", desc := "(I)Z" } : MethodName) ∈ WL := List.mem_filter.mpr ⟨List.mem_append_right _ (List.mem_of_getElem? (i := 179) (by decide +kernel)), by decide +kernel⟩
theorem qw181 : Cond.instanceMethod ({ cls := "SignallingPoint$State", name := "hasLinkset", desc := "(I)Z" } : MethodName) ∈ WL := List.mem_filter.mpr ⟨List.mem_append_right _ (List.mem_of_getElem? (i := 181) (by decide +kernel)), by decide +kernel⟩
theorem qw182 : Cond.code ({ cls := "SignallingPoint$State", name := "hasLinkset", desc := "(I)Z" } : MethodName) prog_2_method_4_code (2 : Nat) (Option.some Jvm.ClassFile.FieldType.boolean) ∈ WL := List.mem_filter.mpr ⟨List.mem_append_right _ (List.mem_of_getElem? (i := 182) (by decide +kernel)), by decide +kernel⟩
theorem qw183 : Cond.methodLinkNest "SignallingPoint" (50 : Nat) ({ cls := "SignallingPoint$State", name := "linkWorks", desc := "(II)Z" } : MethodName) "SignallingPoint" ∈ lw_tbl := List.mem_append_right _ (List.mem_of_getElem? (i := 183) (by decide +kernel))
theorem qw185 : Cond.instanceMethod ({ cls := "SignallingPoint$State", name := "linkWorks", desc := "(II)Z" } : MethodName) ∈ WL := List.mem_filter.mpr ⟨List.mem_append_right _ (List.mem_of_getElem? (i := 185) (by decide +kernel)), by decide +kernel⟩
theorem qw186 : Cond.code ({ cls := "SignallingPoint$State", name := "linkWorks", desc := "(II)Z" } : MethodName) prog_2_method_7_code (3 : Nat) (Option.some Jvm.ClassFile.FieldType.boolean) ∈ WL := List.mem_filter.mpr ⟨List.mem_append_right _ (List.mem_of_getElem? (i := 186) (by decide +kernel)), by decide +kernel⟩
theorem qw187 : Cond.methodLink "SignallingPoint" (53 : Nat) ({ cls := "SignallingPoint", name := "rejected", desc := "()I" } : MethodName) ∈ WL := List.mem_filter.mpr ⟨List.mem_append_right _ (List.mem_of_getElem? (i := 187) (by decide +kernel)), by decide +kernel⟩
theorem qw189 : Cond.instanceMethod ({ cls := "SignallingPoint", name := "rejected", desc := "()I" } : MethodName) ∈ WL := List.mem_filter.mpr ⟨List.mem_append_right _ (List.mem_of_getElem? (i := 189) (by decide +kernel)), by decide +kernel⟩
theorem qw190 : Cond.code ({ cls := "SignallingPoint", name := "rejected", desc := "()I" } : MethodName) prog_1_method_32_code (1 : Nat) (Option.some Jvm.ClassFile.FieldType.int) ∈ WL := List.mem_filter.mpr ⟨List.mem_append_right _ (List.mem_of_getElem? (i := 190) (by decide +kernel)), by decide +kernel⟩
theorem qw191 : Cond.methodLinkNest "SignallingPoint" (56 : Nat) ({ cls := "SignallingPoint$State", name := "changeOver", desc := "(II)I" } : MethodName) "SignallingPoint" ∈ lw_tbl := List.mem_append_right _ (List.mem_of_getElem? (i := 191) (by decide +kernel))
theorem qw193 : Cond.instanceMethod ({ cls := "SignallingPoint$State", name := "changeOver", desc := "(II)I" } : MethodName) ∈ WL := List.mem_filter.mpr ⟨List.mem_append_right _ (List.mem_of_getElem? (i := 193) (by decide +kernel)), by decide +kernel⟩
theorem qw194 : Cond.code ({ cls := "SignallingPoint$State", name := "changeOver", desc := "(II)I" } : MethodName) prog_2_method_11_code (6 : Nat) (Option.some Jvm.ClassFile.FieldType.int) ∈ WL := List.mem_filter.mpr ⟨List.mem_append_right _ (List.mem_of_getElem? (i := 194) (by decide +kernel)), by decide +kernel⟩
theorem qw195 : Cond.methodLinkNest "SignallingPoint$State" (99 : Nat) ({ cls := "SignallingPoint", name := "linkPlace", desc := "(II)I" } : MethodName) "SignallingPoint" ∈ lw_tbl := List.mem_append_right _ (List.mem_of_getElem? (i := 195) (by decide +kernel))
theorem qw196 : Cond.static ({ cls := "SignallingPoint", name := "linkPlace", desc := "(II)I" } : MethodName) ∈ WL := List.mem_filter.mpr ⟨List.mem_append_right _ (List.mem_of_getElem? (i := 196) (by decide +kernel)), by decide +kernel⟩
theorem qw197 : Cond.code ({ cls := "SignallingPoint", name := "linkPlace", desc := "(II)I" } : MethodName) prog_1_method_36_code (2 : Nat) (Option.some Jvm.ClassFile.FieldType.int) ∈ WL := List.mem_filter.mpr ⟨List.mem_append_right _ (List.mem_of_getElem? (i := 197) (by decide +kernel)), by decide +kernel⟩
theorem qw198 : Cond.methodLink "SignallingPoint$State" (102 : Nat) ({ cls := "SignallingPoint$State", name := "dispatch", desc := "(I)V" } : MethodName) ∈ WL := List.mem_filter.mpr ⟨List.mem_append_right _ (List.mem_of_getElem? (i := 198) (by decide +kernel)), by decide +kernel⟩
theorem qw200 : Cond.instanceMethod ({ cls := "SignallingPoint$State", name := "dispatch", desc := "(I)V" } : MethodName) ∈ WL := List.mem_filter.mpr ⟨List.mem_append_right _ (List.mem_of_getElem? (i := 200) (by decide +kernel)), by decide +kernel⟩
theorem qw201 : Cond.code ({ cls := "SignallingPoint$State", name := "dispatch", desc := "(I)V" } : MethodName) prog_2_method_22_code (4 : Nat) (Option.none : Option Jvm.ClassFile.FieldType) ∈ WL := List.mem_filter.mpr ⟨List.mem_append_right _ (List.mem_of_getElem? (i := 201) (by decide +kernel)), by decide +kernel⟩
theorem qw202 : Cond.methodLinkNest "SignallingPoint$State" (145 : Nat) ({ cls := "SignallingPoint", name := "streamOf", desc := "(I)I" } : MethodName) "SignallingPoint" ∈ lw_tbl := List.mem_append_right _ (List.mem_of_getElem? (i := 202) (by decide +kernel))
theorem qw203 : Cond.static ({ cls := "SignallingPoint", name := "streamOf", desc := "(I)I" } : MethodName) ∈ WL := List.mem_filter.mpr ⟨List.mem_append_right _ (List.mem_of_getElem? (i := 203) (by decide +kernel)), by decide +kernel⟩
theorem qw204 : Cond.code ({ cls := "SignallingPoint", name := "streamOf", desc := "(I)I" } : MethodName) prog_1_method_41_code (1 : Nat) (Option.some Jvm.ClassFile.FieldType.int) ∈ WL := List.mem_filter.mpr ⟨List.mem_append_right _ (List.mem_of_getElem? (i := 204) (by decide +kernel)), by decide +kernel⟩
theorem qw205 : Cond.methodLink "SignallingPoint" (194 : Nat) ({ cls := "java/lang/Math", name := "floorMod", desc := "(II)I" } : MethodName) ∈ WL := List.mem_filter.mpr ⟨List.mem_append_right _ (List.mem_of_getElem? (i := 205) (by decide +kernel)), by decide +kernel⟩
theorem qw206 : Cond.static ({ cls := "java/lang/Math", name := "floorMod", desc := "(II)I" } : MethodName) ∈ WL := List.mem_filter.mpr ⟨List.mem_append_right _ (List.mem_of_getElem? (i := 206) (by decide +kernel)), by decide +kernel⟩
theorem qw207 : Cond.code ({ cls := "java/lang/Math", name := "floorMod", desc := "(II)I" } : MethodName) prog_7_method_50_code (3 : Nat) (Option.some Jvm.ClassFile.FieldType.int) ∈ WL := List.mem_filter.mpr ⟨List.mem_append_right _ (List.mem_of_getElem? (i := 207) (by decide +kernel)), by decide +kernel⟩
theorem qw208 : Cond.methodLink "SignallingPoint$State" (127 : Nat) ({ cls := "SignallingPoint$State", name := "linkOfStream", desc := "(I)I" } : MethodName) ∈ WL := List.mem_filter.mpr ⟨List.mem_append_right _ (List.mem_of_getElem? (i := 208) (by decide +kernel)), by decide +kernel⟩
theorem qw210 : Cond.instanceMethod ({ cls := "SignallingPoint$State", name := "linkOfStream", desc := "(I)I" } : MethodName) ∈ WL := List.mem_filter.mpr ⟨List.mem_append_right _ (List.mem_of_getElem? (i := 210) (by decide +kernel)), by decide +kernel⟩
theorem qw211 : Cond.code ({ cls := "SignallingPoint$State", name := "linkOfStream", desc := "(I)I" } : MethodName) prog_2_method_16_code (2 : Nat) (Option.some Jvm.ClassFile.FieldType.int) ∈ WL := List.mem_filter.mpr ⟨List.mem_append_right _ (List.mem_of_getElem? (i := 211) (by decide +kernel)), by decide +kernel⟩
theorem qw212 : Cond.methodLink "SignallingPoint$State" (121 : Nat) ({ cls := "SignallingPoint$State", name := "routesTo", desc := "(I)I" } : MethodName) ∈ WL := List.mem_filter.mpr ⟨List.mem_append_right _ (List.mem_of_getElem? (i := 212) (by decide +kernel)), by decide +kernel⟩
theorem qw214 : Cond.instanceMethod ({ cls := "SignallingPoint$State", name := "routesTo", desc := "(I)I" } : MethodName) ∈ WL := List.mem_filter.mpr ⟨List.mem_append_right _ (List.mem_of_getElem? (i := 214) (by decide +kernel)), by decide +kernel⟩
theorem qw215 : Cond.code ({ cls := "SignallingPoint$State", name := "routesTo", desc := "(I)I" } : MethodName) prog_2_method_13_code (3 : Nat) (Option.some Jvm.ClassFile.FieldType.int) ∈ WL := List.mem_filter.mpr ⟨List.mem_append_right _ (List.mem_of_getElem? (i := 215) (by decide +kernel)), by decide +kernel⟩
theorem qw216 : Cond.methodLink "SignallingPoint$State" (106 : Nat) ({ cls := "SignallingPoint$State", name := "preferredRoutes", desc := "(II)I" } : MethodName) ∈ WL := List.mem_filter.mpr ⟨List.mem_append_right _ (List.mem_of_getElem? (i := 216) (by decide +kernel)), by decide +kernel⟩
theorem qw218 : Cond.instanceMethod ({ cls := "SignallingPoint$State", name := "preferredRoutes", desc := "(II)I" } : MethodName) ∈ WL := List.mem_filter.mpr ⟨List.mem_append_right _ (List.mem_of_getElem? (i := 218) (by decide +kernel)), by decide +kernel⟩
theorem qw219 : Cond.code ({ cls := "SignallingPoint$State", name := "preferredRoutes", desc := "(II)I" } : MethodName) prog_2_method_14_code (7 : Nat) (Option.some Jvm.ClassFile.FieldType.int) ∈ WL := List.mem_filter.mpr ⟨List.mem_append_right _ (List.mem_of_getElem? (i := 219) (by decide +kernel)), by decide +kernel⟩
theorem qw220 : Cond.methodLinkNest "SignallingPoint$State" (109 : Nat) ({ cls := "SignallingPoint", name := "routePlace", desc := "(II)I" } : MethodName) "SignallingPoint" ∈ lw_tbl := List.mem_append_right _ (List.mem_of_getElem? (i := 220) (by decide +kernel))
theorem qw221 : Cond.static ({ cls := "SignallingPoint", name := "routePlace", desc := "(II)I" } : MethodName) ∈ WL := List.mem_filter.mpr ⟨List.mem_append_right _ (List.mem_of_getElem? (i := 221) (by decide +kernel)), by decide +kernel⟩
theorem qw222 : Cond.code ({ cls := "SignallingPoint", name := "routePlace", desc := "(II)I" } : MethodName) prog_1_method_37_code (2 : Nat) (Option.some Jvm.ClassFile.FieldType.int) ∈ WL := List.mem_filter.mpr ⟨List.mem_append_right _ (List.mem_of_getElem? (i := 222) (by decide +kernel)), by decide +kernel⟩
theorem qw223 : Cond.methodLink "SignallingPoint$State" (124 : Nat) ({ cls := "SignallingPoint$State", name := "linkOver", desc := "(II)I" } : MethodName) ∈ WL := List.mem_filter.mpr ⟨List.mem_append_right _ (List.mem_of_getElem? (i := 223) (by decide +kernel)), by decide +kernel⟩
theorem qw225 : Cond.instanceMethod ({ cls := "SignallingPoint$State", name := "linkOver", desc := "(II)I" } : MethodName) ∈ WL := List.mem_filter.mpr ⟨List.mem_append_right _ (List.mem_of_getElem? (i := 225) (by decide +kernel)), by decide +kernel⟩
theorem qw226 : Cond.code ({ cls := "SignallingPoint$State", name := "linkOver", desc := "(II)I" } : MethodName) prog_2_method_15_code (6 : Nat) (Option.some Jvm.ClassFile.FieldType.int) ∈ WL := List.mem_filter.mpr ⟨List.mem_append_right _ (List.mem_of_getElem? (i := 226) (by decide +kernel)), by decide +kernel⟩
theorem qw227 : Cond.methodLink "SignallingPoint$State" (112 : Nat) ({ cls := "java/lang/Integer", name := "bitCount", desc := "(I)I" } : MethodName) ∈ WL := List.mem_filter.mpr ⟨List.mem_append_right _ (List.mem_of_getElem? (i := 227) (by decide +kernel)), by decide +kernel⟩
theorem qw228 : Cond.static ({ cls := "java/lang/Integer", name := "bitCount", desc := "(I)I" } : MethodName) ∈ WL := List.mem_filter.mpr ⟨List.mem_append_right _ (List.mem_of_getElem? (i := 228) (by decide +kernel)), by decide +kernel⟩
theorem qw229 : Cond.code ({ cls := "java/lang/Integer", name := "bitCount", desc := "(I)I" } : MethodName) prog_6_method_49_code (1 : Nat) (Option.some Jvm.ClassFile.FieldType.int) ∈ WL := List.mem_filter.mpr ⟨List.mem_append_right _ (List.mem_of_getElem? (i := 229) (by decide +kernel)), by decide +kernel⟩
theorem qw230 : Cond.constant "java/lang/Integer" (265 : Nat) (1431655765 : Int32) ∈ WL := List.mem_filter.mpr ⟨List.mem_append_right _ (List.mem_of_getElem? (i := 230) (by decide +kernel)), by decide +kernel⟩
theorem qw231 : Cond.constant "java/lang/Integer" (266 : Nat) (858993459 : Int32) ∈ WL := List.mem_filter.mpr ⟨List.mem_append_right _ (List.mem_of_getElem? (i := 231) (by decide +kernel)), by decide +kernel⟩
theorem qw232 : Cond.constant "java/lang/Integer" (267 : Nat) (252645135 : Int32) ∈ WL := List.mem_filter.mpr ⟨List.mem_append_right _ (List.mem_of_getElem? (i := 232) (by decide +kernel)), by decide +kernel⟩
theorem qw233 : Cond.methodLinkNest "SignallingPoint$State" (118 : Nat) ({ cls := "SignallingPoint", name := "setBit", desc := "(II)I" } : MethodName) "SignallingPoint" ∈ lw_tbl := List.mem_append_right _ (List.mem_of_getElem? (i := 233) (by decide +kernel))
theorem qw234 : Cond.static ({ cls := "SignallingPoint", name := "setBit", desc := "(II)I" } : MethodName) ∈ WL := List.mem_filter.mpr ⟨List.mem_append_right _ (List.mem_of_getElem? (i := 234) (by decide +kernel)), by decide +kernel⟩
theorem qw235 : Cond.code ({ cls := "SignallingPoint", name := "setBit", desc := "(II)I" } : MethodName) prog_1_method_42_code (4 : Nat) (Option.some Jvm.ClassFile.FieldType.int) ∈ WL := List.mem_filter.mpr ⟨List.mem_append_right _ (List.mem_of_getElem? (i := 235) (by decide +kernel)), by decide +kernel⟩
theorem qw236 : Cond.methodLink "SignallingPointLaw" (23 : Nat) ({ cls := "SignallingPoint", name := "restoreLink", desc := "(II)I" } : MethodName) ∈ WL := List.mem_filter.mpr ⟨List.mem_append_right _ (List.mem_of_getElem? (i := 236) (by decide +kernel)), by decide +kernel⟩
theorem qw237 : Cond.instanceMethod ({ cls := "SignallingPoint", name := "restoreLink", desc := "(II)I" } : MethodName) ∈ WL := List.mem_filter.mpr ⟨List.mem_append_right _ (List.mem_of_getElem? (i := 237) (by decide +kernel)), by decide +kernel⟩
theorem qw238 : Cond.selects "SignallingPoint" ({ cls := "SignallingPoint", name := "restoreLink", desc := "(II)I" } : MethodName) ({ cls := "SignallingPoint", name := "restoreLink", desc := "(II)I" } : MethodName) ∈ WL := List.mem_filter.mpr ⟨List.mem_append_right _ (List.mem_of_getElem? (i := 238) (by decide +kernel)), by decide +kernel⟩
theorem qw239 : Cond.code ({ cls := "SignallingPoint", name := "restoreLink", desc := "(II)I" } : MethodName) prog_1_method_4_code (3 : Nat) (Option.some Jvm.ClassFile.FieldType.int) ∈ WL := List.mem_filter.mpr ⟨List.mem_append_right _ (List.mem_of_getElem? (i := 239) (by decide +kernel)), by decide +kernel⟩
theorem qw240 : Cond.methodLinkNest "SignallingPoint" (60 : Nat) ({ cls := "SignallingPoint$State", name := "listLinks", desc := "([I)V" } : MethodName) "SignallingPoint" ∈ lw_tbl := List.mem_append_right _ (List.mem_of_getElem? (i := 240) (by decide +kernel))
theorem qw242 : Cond.instanceMethod ({ cls := "SignallingPoint$State", name := "listLinks", desc := "([I)V" } : MethodName) ∈ WL := List.mem_filter.mpr ⟨List.mem_append_right _ (List.mem_of_getElem? (i := 242) (by decide +kernel)), by decide +kernel⟩
theorem qw243 : Cond.code ({ cls := "SignallingPoint$State", name := "listLinks", desc := "([I)V" } : MethodName) prog_2_method_18_code (3 : Nat) (Option.none : Option Jvm.ClassFile.FieldType) ∈ WL := List.mem_filter.mpr ⟨List.mem_append_right _ (List.mem_of_getElem? (i := 243) (by decide +kernel)), by decide +kernel⟩
theorem qw244 : Cond.methodLinkNest "SignallingPoint" (64 : Nat) ({ cls := "SignallingPoint$State", name := "activate", desc := "(II)V" } : MethodName) "SignallingPoint" ∈ lw_tbl := List.mem_append_right _ (List.mem_of_getElem? (i := 244) (by decide +kernel))
theorem qw246 : Cond.instanceMethod ({ cls := "SignallingPoint$State", name := "activate", desc := "(II)V" } : MethodName) ∈ WL := List.mem_filter.mpr ⟨List.mem_append_right _ (List.mem_of_getElem? (i := 246) (by decide +kernel)), by decide +kernel⟩
theorem qw247 : Cond.code ({ cls := "SignallingPoint$State", name := "activate", desc := "(II)V" } : MethodName) prog_2_method_10_code (3 : Nat) (Option.none : Option Jvm.ClassFile.FieldType) ∈ WL := List.mem_filter.mpr ⟨List.mem_append_right _ (List.mem_of_getElem? (i := 247) (by decide +kernel)), by decide +kernel⟩
theorem qw248 : Cond.methodLinkNest "SignallingPoint" (68 : Nat) ({ cls := "SignallingPoint$State", name := "divertMoved", desc := "([I)I" } : MethodName) "SignallingPoint" ∈ lw_tbl := List.mem_append_right _ (List.mem_of_getElem? (i := 248) (by decide +kernel))
theorem qw250 : Cond.instanceMethod ({ cls := "SignallingPoint$State", name := "divertMoved", desc := "([I)I" } : MethodName) ∈ WL := List.mem_filter.mpr ⟨List.mem_append_right _ (List.mem_of_getElem? (i := 250) (by decide +kernel)), by decide +kernel⟩
theorem qw251 : Cond.code ({ cls := "SignallingPoint$State", name := "divertMoved", desc := "([I)I" } : MethodName) prog_2_method_19_code (4 : Nat) (Option.some Jvm.ClassFile.FieldType.int) ∈ WL := List.mem_filter.mpr ⟨List.mem_append_right _ (List.mem_of_getElem? (i := 251) (by decide +kernel)), by decide +kernel⟩
theorem qw252 : Cond.methodLink "SignallingPointLaw" (27 : Nat) ({ cls := "SignallingPoint", name := "acknowledge", desc := "(III)I" } : MethodName) ∈ WL := List.mem_filter.mpr ⟨List.mem_append_right _ (List.mem_of_getElem? (i := 252) (by decide +kernel)), by decide +kernel⟩
theorem qw253 : Cond.instanceMethod ({ cls := "SignallingPoint", name := "acknowledge", desc := "(III)I" } : MethodName) ∈ WL := List.mem_filter.mpr ⟨List.mem_append_right _ (List.mem_of_getElem? (i := 253) (by decide +kernel)), by decide +kernel⟩
theorem qw254 : Cond.selects "SignallingPoint" ({ cls := "SignallingPoint", name := "acknowledge", desc := "(III)I" } : MethodName) ({ cls := "SignallingPoint", name := "acknowledge", desc := "(III)I" } : MethodName) ∈ WL := List.mem_filter.mpr ⟨List.mem_append_right _ (List.mem_of_getElem? (i := 254) (by decide +kernel)), by decide +kernel⟩
theorem qw255 : Cond.code ({ cls := "SignallingPoint", name := "acknowledge", desc := "(III)I" } : MethodName) prog_1_method_5_code (4 : Nat) (Option.some Jvm.ClassFile.FieldType.int) ∈ WL := List.mem_filter.mpr ⟨List.mem_append_right _ (List.mem_of_getElem? (i := 255) (by decide +kernel)), by decide +kernel⟩
theorem qw256 : Cond.methodLink "SignallingPoint" (72 : Nat) ({ cls := "SignallingPoint", name := "linkPlace", desc := "(II)I" } : MethodName) ∈ WL := List.mem_filter.mpr ⟨List.mem_append_right _ (List.mem_of_getElem? (i := 256) (by decide +kernel)), by decide +kernel⟩
theorem qw257 : Cond.methodLinkNest "SignallingPoint" (75 : Nat) ({ cls := "SignallingPoint$State", name := "deliverOldest", desc := "(II)I" } : MethodName) "SignallingPoint" ∈ lw_tbl := List.mem_append_right _ (List.mem_of_getElem? (i := 257) (by decide +kernel))
theorem qw259 : Cond.instanceMethod ({ cls := "SignallingPoint$State", name := "deliverOldest", desc := "(II)I" } : MethodName) ∈ WL := List.mem_filter.mpr ⟨List.mem_append_right _ (List.mem_of_getElem? (i := 259) (by decide +kernel)), by decide +kernel⟩
theorem qw260 : Cond.code ({ cls := "SignallingPoint$State", name := "deliverOldest", desc := "(II)I" } : MethodName) prog_2_method_24_code (7 : Nat) (Option.some Jvm.ClassFile.FieldType.int) ∈ WL := List.mem_filter.mpr ⟨List.mem_append_right _ (List.mem_of_getElem? (i := 260) (by decide +kernel)), by decide +kernel⟩
theorem qw261 : Cond.methodLink "SignallingPoint$State" (148 : Nat) ({ cls := "SignallingPoint$State", name := "deliver", desc := "(I)V" } : MethodName) ∈ WL := List.mem_filter.mpr ⟨List.mem_append_right _ (List.mem_of_getElem? (i := 261) (by decide +kernel)), by decide +kernel⟩
theorem qw263 : Cond.instanceMethod ({ cls := "SignallingPoint$State", name := "deliver", desc := "(I)V" } : MethodName) ∈ WL := List.mem_filter.mpr ⟨List.mem_append_right _ (List.mem_of_getElem? (i := 263) (by decide +kernel)), by decide +kernel⟩
theorem qw264 : Cond.code ({ cls := "SignallingPoint$State", name := "deliver", desc := "(I)V" } : MethodName) prog_2_method_25_code (4 : Nat) (Option.none : Option Jvm.ClassFile.FieldType) ∈ WL := List.mem_filter.mpr ⟨List.mem_append_right _ (List.mem_of_getElem? (i := 264) (by decide +kernel)), by decide +kernel⟩
theorem qw265 : Cond.methodLinkNest "SignallingPoint$State" (151 : Nat) ({ cls := "SignallingPoint", name := "numberOf", desc := "(I)I" } : MethodName) "SignallingPoint" ∈ lw_tbl := List.mem_append_right _ (List.mem_of_getElem? (i := 265) (by decide +kernel))
theorem qw266 : Cond.static ({ cls := "SignallingPoint", name := "numberOf", desc := "(I)I" } : MethodName) ∈ WL := List.mem_filter.mpr ⟨List.mem_append_right _ (List.mem_of_getElem? (i := 266) (by decide +kernel)), by decide +kernel⟩
theorem qw267 : Cond.code ({ cls := "SignallingPoint", name := "numberOf", desc := "(I)I" } : MethodName) prog_1_method_40_code (1 : Nat) (Option.some Jvm.ClassFile.FieldType.int) ∈ WL := List.mem_filter.mpr ⟨List.mem_append_right _ (List.mem_of_getElem? (i := 267) (by decide +kernel)), by decide +kernel⟩
theorem qw268 : Cond.methodLink "SignallingPoint" (189 : Nat) ({ cls := "java/lang/Math", name := "floorDiv", desc := "(II)I" } : MethodName) ∈ WL := List.mem_filter.mpr ⟨List.mem_append_right _ (List.mem_of_getElem? (i := 268) (by decide +kernel)), by decide +kernel⟩
theorem qw269 : Cond.static ({ cls := "java/lang/Math", name := "floorDiv", desc := "(II)I" } : MethodName) ∈ WL := List.mem_filter.mpr ⟨List.mem_append_right _ (List.mem_of_getElem? (i := 269) (by decide +kernel)), by decide +kernel⟩
theorem qw270 : Cond.code ({ cls := "java/lang/Math", name := "floorDiv", desc := "(II)I" } : MethodName) prog_7_method_47_code (3 : Nat) (Option.some Jvm.ClassFile.FieldType.int) ∈ WL := List.mem_filter.mpr ⟨List.mem_append_right _ (List.mem_of_getElem? (i := 270) (by decide +kernel)), by decide +kernel⟩
theorem qw271 : Cond.methodLink "SignallingPointLaw" (32 : Nat) ({ cls := "SignallingPoint", name := "queueLength", desc := "(II)I" } : MethodName) ∈ WL := List.mem_filter.mpr ⟨List.mem_append_right _ (List.mem_of_getElem? (i := 271) (by decide +kernel)), by decide +kernel⟩
theorem qw272 : Cond.instanceMethod ({ cls := "SignallingPoint", name := "queueLength", desc := "(II)I" } : MethodName) ∈ WL := List.mem_filter.mpr ⟨List.mem_append_right _ (List.mem_of_getElem? (i := 272) (by decide +kernel)), by decide +kernel⟩
theorem qw273 : Cond.selects "SignallingPoint" ({ cls := "SignallingPoint", name := "queueLength", desc := "(II)I" } : MethodName) ({ cls := "SignallingPoint", name := "queueLength", desc := "(II)I" } : MethodName) ∈ WL := List.mem_filter.mpr ⟨List.mem_append_right _ (List.mem_of_getElem? (i := 273) (by decide +kernel)), by decide +kernel⟩
theorem qw274 : Cond.code ({ cls := "SignallingPoint", name := "queueLength", desc := "(II)I" } : MethodName) prog_1_method_6_code (3 : Nat) (Option.some Jvm.ClassFile.FieldType.int) ∈ WL := List.mem_filter.mpr ⟨List.mem_append_right _ (List.mem_of_getElem? (i := 274) (by decide +kernel)), by decide +kernel⟩
theorem qw275 : Cond.methodLink "SignallingPointLaw" (36 : Nat) ({ cls := "SignallingPoint", name := "queued", desc := "(III)I" } : MethodName) ∈ WL := List.mem_filter.mpr ⟨List.mem_append_right _ (List.mem_of_getElem? (i := 275) (by decide +kernel)), by decide +kernel⟩
theorem qw276 : Cond.instanceMethod ({ cls := "SignallingPoint", name := "queued", desc := "(III)I" } : MethodName) ∈ WL := List.mem_filter.mpr ⟨List.mem_append_right _ (List.mem_of_getElem? (i := 276) (by decide +kernel)), by decide +kernel⟩
theorem qw277 : Cond.selects "SignallingPoint" ({ cls := "SignallingPoint", name := "queued", desc := "(III)I" } : MethodName) ({ cls := "SignallingPoint", name := "queued", desc := "(III)I" } : MethodName) ∈ WL := List.mem_filter.mpr ⟨List.mem_append_right _ (List.mem_of_getElem? (i := 277) (by decide +kernel)), by decide +kernel⟩
theorem qw278 : Cond.code ({ cls := "SignallingPoint", name := "queued", desc := "(III)I" } : MethodName) prog_1_method_7_code (5 : Nat) (Option.some Jvm.ClassFile.FieldType.int) ∈ WL := List.mem_filter.mpr ⟨List.mem_append_right _ (List.mem_of_getElem? (i := 278) (by decide +kernel)), by decide +kernel⟩
theorem qw279 : Cond.methodLink "SignallingPoint" (84 : Nat) ({ cls := "SignallingPoint", name := "numberOf", desc := "(I)I" } : MethodName) ∈ WL := List.mem_filter.mpr ⟨List.mem_append_right _ (List.mem_of_getElem? (i := 279) (by decide +kernel)), by decide +kernel⟩
theorem qw280 : Cond.methodLink "SignallingPointLaw" (40 : Nat) ({ cls := "SignallingPoint", name := "congestion", desc := "(II)I" } : MethodName) ∈ WL := List.mem_filter.mpr ⟨List.mem_append_right _ (List.mem_of_getElem? (i := 280) (by decide +kernel)), by decide +kernel⟩
theorem qw281 : Cond.instanceMethod ({ cls := "SignallingPoint", name := "congestion", desc := "(II)I" } : MethodName) ∈ WL := List.mem_filter.mpr ⟨List.mem_append_right _ (List.mem_of_getElem? (i := 281) (by decide +kernel)), by decide +kernel⟩
theorem qw282 : Cond.selects "SignallingPoint" ({ cls := "SignallingPoint", name := "congestion", desc := "(II)I" } : MethodName) ({ cls := "SignallingPoint", name := "congestion", desc := "(II)I" } : MethodName) ∈ WL := List.mem_filter.mpr ⟨List.mem_append_right _ (List.mem_of_getElem? (i := 282) (by decide +kernel)), by decide +kernel⟩
theorem qw283 : Cond.code ({ cls := "SignallingPoint", name := "congestion", desc := "(II)I" } : MethodName) prog_1_method_8_code (3 : Nat) (Option.some Jvm.ClassFile.FieldType.int) ∈ WL := List.mem_filter.mpr ⟨List.mem_append_right _ (List.mem_of_getElem? (i := 283) (by decide +kernel)), by decide +kernel⟩
theorem qw284 : Cond.methodLinkNest "SignallingPoint" (87 : Nat) ({ cls := "SignallingPoint$State", name := "congestionLevel", desc := "(I)I" } : MethodName) "SignallingPoint" ∈ lw_tbl := List.mem_append_right _ (List.mem_of_getElem? (i := 284) (by decide +kernel))
theorem qw286 : Cond.instanceMethod ({ cls := "SignallingPoint$State", name := "congestionLevel", desc := "(I)I" } : MethodName) ∈ WL := List.mem_filter.mpr ⟨List.mem_append_right _ (List.mem_of_getElem? (i := 286) (by decide +kernel)), by decide +kernel⟩
theorem qw287 : Cond.code ({ cls := "SignallingPoint$State", name := "congestionLevel", desc := "(I)I" } : MethodName) prog_2_method_12_code (3 : Nat) (Option.some Jvm.ClassFile.FieldType.int) ∈ WL := List.mem_filter.mpr ⟨List.mem_append_right _ (List.mem_of_getElem? (i := 287) (by decide +kernel)), by decide +kernel⟩
theorem qw288 : Cond.methodLink "SignallingPointLaw" (44 : Nat) ({ cls := "SignallingPoint", name := "isActive", desc := "(II)I" } : MethodName) ∈ WL := List.mem_filter.mpr ⟨List.mem_append_right _ (List.mem_of_getElem? (i := 288) (by decide +kernel)), by decide +kernel⟩
theorem qw289 : Cond.instanceMethod ({ cls := "SignallingPoint", name := "isActive", desc := "(II)I" } : MethodName) ∈ WL := List.mem_filter.mpr ⟨List.mem_append_right _ (List.mem_of_getElem? (i := 289) (by decide +kernel)), by decide +kernel⟩
theorem qw290 : Cond.selects "SignallingPoint" ({ cls := "SignallingPoint", name := "isActive", desc := "(II)I" } : MethodName) ({ cls := "SignallingPoint", name := "isActive", desc := "(II)I" } : MethodName) ∈ WL := List.mem_filter.mpr ⟨List.mem_append_right _ (List.mem_of_getElem? (i := 290) (by decide +kernel)), by decide +kernel⟩
theorem qw291 : Cond.code ({ cls := "SignallingPoint", name := "isActive", desc := "(II)I" } : MethodName) prog_1_method_9_code (3 : Nat) (Option.some Jvm.ClassFile.FieldType.int) ∈ WL := List.mem_filter.mpr ⟨List.mem_append_right _ (List.mem_of_getElem? (i := 291) (by decide +kernel)), by decide +kernel⟩
theorem qw292 : Cond.methodLink "SignallingPointLaw" (48 : Nat) ({ cls := "SignallingPoint", name := "addRoute", desc := "(III)I" } : MethodName) ∈ WL := List.mem_filter.mpr ⟨List.mem_append_right _ (List.mem_of_getElem? (i := 292) (by decide +kernel)), by decide +kernel⟩
theorem qw293 : Cond.instanceMethod ({ cls := "SignallingPoint", name := "addRoute", desc := "(III)I" } : MethodName) ∈ WL := List.mem_filter.mpr ⟨List.mem_append_right _ (List.mem_of_getElem? (i := 293) (by decide +kernel)), by decide +kernel⟩
theorem qw294 : Cond.selects "SignallingPoint" ({ cls := "SignallingPoint", name := "addRoute", desc := "(III)I" } : MethodName) ({ cls := "SignallingPoint", name := "addRoute", desc := "(III)I" } : MethodName) ∈ WL := List.mem_filter.mpr ⟨List.mem_append_right _ (List.mem_of_getElem? (i := 294) (by decide +kernel)), by decide +kernel⟩
theorem qw295 : Cond.code ({ cls := "SignallingPoint", name := "addRoute", desc := "(III)I" } : MethodName) prog_1_method_10_code (5 : Nat) (Option.some Jvm.ClassFile.FieldType.int) ∈ WL := List.mem_filter.mpr ⟨List.mem_append_right _ (List.mem_of_getElem? (i := 295) (by decide +kernel)), by decide +kernel⟩
theorem qw296 : Cond.methodLinkNest "SignallingPoint" (90 : Nat) ({ cls := "SignallingPoint$State", name := "canHaveRoute", desc := "(II)Z" } : MethodName) "SignallingPoint" ∈ lw_tbl := List.mem_append_right _ (List.mem_of_getElem? (i := 296) (by decide +kernel))
theorem qw298 : Cond.instanceMethod ({ cls := "SignallingPoint$State", name := "canHaveRoute", desc := "(II)Z" } : MethodName) ∈ WL := List.mem_filter.mpr ⟨List.mem_append_right _ (List.mem_of_getElem? (i := 298) (by decide +kernel)), by decide +kernel⟩
theorem qw299 : Cond.code ({ cls := "SignallingPoint$State", name := "canHaveRoute", desc := "(II)Z" } : MethodName) prog_2_method_6_code (3 : Nat) (Option.some Jvm.ClassFile.FieldType.boolean) ∈ WL := List.mem_filter.mpr ⟨List.mem_append_right _ (List.mem_of_getElem? (i := 299) (by decide +kernel)), by decide +kernel⟩
theorem qw300 : Cond.methodLinkNest "SignallingPoint$State" (96 : Nat) ({ cls := "SignallingPoint", name := "isDestination", desc := "(I)Z" } : MethodName) "SignallingPoint" ∈ lw_tbl := List.mem_append_right _ (List.mem_of_getElem? (i := 300) (by decide +kernel))
theorem qw301 : Cond.static ({ cls := "SignallingPoint", name := "isDestination", desc := "(I)Z" } : MethodName) ∈ WL := List.mem_filter.mpr ⟨List.mem_append_right _ (List.mem_of_getElem? (i := 301) (by decide +kernel)), by decide +kernel⟩
theorem qw302 : Cond.code ({ cls := "SignallingPoint", name := "isDestination", desc := "(I)Z" } : MethodName) prog_1_method_34_code (1 : Nat) (Option.some Jvm.ClassFile.FieldType.boolean) ∈ WL := List.mem_filter.mpr ⟨List.mem_append_right _ (List.mem_of_getElem? (i := 302) (by decide +kernel)), by decide +kernel⟩
theorem qw303 : Cond.methodLink "SignallingPoint" (93 : Nat) ({ cls := "SignallingPoint", name := "routePlace", desc := "(II)I" } : MethodName) ∈ WL := List.mem_filter.mpr ⟨List.mem_append_right _ (List.mem_of_getElem? (i := 303) (by decide +kernel)), by decide +kernel⟩
theorem qw304 : Cond.methodLink "SignallingPointLaw" (52 : Nat) ({ cls := "SignallingPoint", name := "removeRoute", desc := "(II)I" } : MethodName) ∈ WL := List.mem_filter.mpr ⟨List.mem_append_right _ (List.mem_of_getElem? (i := 304) (by decide +kernel)), by decide +kernel⟩
theorem qw305 : Cond.instanceMethod ({ cls := "SignallingPoint", name := "removeRoute", desc := "(II)I" } : MethodName) ∈ WL := List.mem_filter.mpr ⟨List.mem_append_right _ (List.mem_of_getElem? (i := 305) (by decide +kernel)), by decide +kernel⟩
theorem qw306 : Cond.selects "SignallingPoint" ({ cls := "SignallingPoint", name := "removeRoute", desc := "(II)I" } : MethodName) ({ cls := "SignallingPoint", name := "removeRoute", desc := "(II)I" } : MethodName) ∈ WL := List.mem_filter.mpr ⟨List.mem_append_right _ (List.mem_of_getElem? (i := 306) (by decide +kernel)), by decide +kernel⟩
theorem qw307 : Cond.code ({ cls := "SignallingPoint", name := "removeRoute", desc := "(II)I" } : MethodName) prog_1_method_11_code (5 : Nat) (Option.some Jvm.ClassFile.FieldType.int) ∈ WL := List.mem_filter.mpr ⟨List.mem_append_right _ (List.mem_of_getElem? (i := 307) (by decide +kernel)), by decide +kernel⟩
theorem qw308 : Cond.methodLink "SignallingPointLaw" (56 : Nat) ({ cls := "SignallingPoint", name := "setRouteState", desc := "(III)I" } : MethodName) ∈ WL := List.mem_filter.mpr ⟨List.mem_append_right _ (List.mem_of_getElem? (i := 308) (by decide +kernel)), by decide +kernel⟩
theorem qw309 : Cond.instanceMethod ({ cls := "SignallingPoint", name := "setRouteState", desc := "(III)I" } : MethodName) ∈ WL := List.mem_filter.mpr ⟨List.mem_append_right _ (List.mem_of_getElem? (i := 309) (by decide +kernel)), by decide +kernel⟩
theorem qw310 : Cond.selects "SignallingPoint" ({ cls := "SignallingPoint", name := "setRouteState", desc := "(III)I" } : MethodName) ({ cls := "SignallingPoint", name := "setRouteState", desc := "(III)I" } : MethodName) ∈ WL := List.mem_filter.mpr ⟨List.mem_append_right _ (List.mem_of_getElem? (i := 310) (by decide +kernel)), by decide +kernel⟩
theorem qw311 : Cond.code ({ cls := "SignallingPoint", name := "setRouteState", desc := "(III)I" } : MethodName) prog_1_method_12_code (6 : Nat) (Option.some Jvm.ClassFile.FieldType.int) ∈ WL := List.mem_filter.mpr ⟨List.mem_append_right _ (List.mem_of_getElem? (i := 311) (by decide +kernel)), by decide +kernel⟩
theorem qw312 : Cond.methodLink "SignallingPointLaw" (60 : Nat) ({ cls := "SignallingPoint", name := "routeState", desc := "(II)I" } : MethodName) ∈ WL := List.mem_filter.mpr ⟨List.mem_append_right _ (List.mem_of_getElem? (i := 312) (by decide +kernel)), by decide +kernel⟩
theorem qw313 : Cond.instanceMethod ({ cls := "SignallingPoint", name := "routeState", desc := "(II)I" } : MethodName) ∈ WL := List.mem_filter.mpr ⟨List.mem_append_right _ (List.mem_of_getElem? (i := 313) (by decide +kernel)), by decide +kernel⟩
theorem qw314 : Cond.selects "SignallingPoint" ({ cls := "SignallingPoint", name := "routeState", desc := "(II)I" } : MethodName) ({ cls := "SignallingPoint", name := "routeState", desc := "(II)I" } : MethodName) ∈ WL := List.mem_filter.mpr ⟨List.mem_append_right _ (List.mem_of_getElem? (i := 314) (by decide +kernel)), by decide +kernel⟩
theorem qw315 : Cond.code ({ cls := "SignallingPoint", name := "routeState", desc := "(II)I" } : MethodName) prog_1_method_13_code (3 : Nat) (Option.some Jvm.ClassFile.FieldType.int) ∈ WL := List.mem_filter.mpr ⟨List.mem_append_right _ (List.mem_of_getElem? (i := 315) (by decide +kernel)), by decide +kernel⟩
theorem qw316 : Cond.methodLink "SignallingPointLaw" (64 : Nat) ({ cls := "SignallingPoint", name := "currentRoutes", desc := "(I)I" } : MethodName) ∈ WL := List.mem_filter.mpr ⟨List.mem_append_right _ (List.mem_of_getElem? (i := 316) (by decide +kernel)), by decide +kernel⟩
theorem qw317 : Cond.instanceMethod ({ cls := "SignallingPoint", name := "currentRoutes", desc := "(I)I" } : MethodName) ∈ WL := List.mem_filter.mpr ⟨List.mem_append_right _ (List.mem_of_getElem? (i := 317) (by decide +kernel)), by decide +kernel⟩
theorem qw318 : Cond.selects "SignallingPoint" ({ cls := "SignallingPoint", name := "currentRoutes", desc := "(I)I" } : MethodName) ({ cls := "SignallingPoint", name := "currentRoutes", desc := "(I)I" } : MethodName) ∈ WL := List.mem_filter.mpr ⟨List.mem_append_right _ (List.mem_of_getElem? (i := 318) (by decide +kernel)), by decide +kernel⟩
theorem qw319 : Cond.code ({ cls := "SignallingPoint", name := "currentRoutes", desc := "(I)I" } : MethodName) prog_1_method_14_code (2 : Nat) (Option.some Jvm.ClassFile.FieldType.int) ∈ WL := List.mem_filter.mpr ⟨List.mem_append_right _ (List.mem_of_getElem? (i := 319) (by decide +kernel)), by decide +kernel⟩
theorem qw320 : Cond.methodLink "SignallingPoint" (102 : Nat) ({ cls := "SignallingPoint", name := "isDestination", desc := "(I)Z" } : MethodName) ∈ WL := List.mem_filter.mpr ⟨List.mem_append_right _ (List.mem_of_getElem? (i := 320) (by decide +kernel)), by decide +kernel⟩
theorem qw321 : Cond.methodLinkNest "SignallingPoint" (106 : Nat) ({ cls := "SignallingPoint$State", name := "routesTo", desc := "(I)I" } : MethodName) "SignallingPoint" ∈ lw_tbl := List.mem_append_right _ (List.mem_of_getElem? (i := 321) (by decide +kernel))
theorem qw322 : Cond.methodLink "SignallingPointLaw" (68 : Nat) ({ cls := "SignallingPoint", name := "currentLink", desc := "(II)I" } : MethodName) ∈ WL := List.mem_filter.mpr ⟨List.mem_append_right _ (List.mem_of_getElem? (i := 322) (by decide +kernel)), by decide +kernel⟩
theorem qw323 : Cond.instanceMethod ({ cls := "SignallingPoint", name := "currentLink", desc := "(II)I" } : MethodName) ∈ WL := List.mem_filter.mpr ⟨List.mem_append_right _ (List.mem_of_getElem? (i := 323) (by decide +kernel)), by decide +kernel⟩
theorem qw324 : Cond.selects "SignallingPoint" ({ cls := "SignallingPoint", name := "currentLink", desc := "(II)I" } : MethodName) ({ cls := "SignallingPoint", name := "currentLink", desc := "(II)I" } : MethodName) ∈ WL := List.mem_filter.mpr ⟨List.mem_append_right _ (List.mem_of_getElem? (i := 324) (by decide +kernel)), by decide +kernel⟩
theorem qw325 : Cond.code ({ cls := "SignallingPoint", name := "currentLink", desc := "(II)I" } : MethodName) prog_1_method_15_code (3 : Nat) (Option.some Jvm.ClassFile.FieldType.int) ∈ WL := List.mem_filter.mpr ⟨List.mem_append_right _ (List.mem_of_getElem? (i := 325) (by decide +kernel)), by decide +kernel⟩
theorem qw326 : Cond.methodLink "SignallingPoint" (109 : Nat) ({ cls := "SignallingPoint", name := "isStream", desc := "(II)Z" } : MethodName) ∈ WL := List.mem_filter.mpr ⟨List.mem_append_right _ (List.mem_of_getElem? (i := 326) (by decide +kernel)), by decide +kernel⟩
theorem qw327 : Cond.static ({ cls := "SignallingPoint", name := "isStream", desc := "(II)Z" } : MethodName) ∈ WL := List.mem_filter.mpr ⟨List.mem_append_right _ (List.mem_of_getElem? (i := 327) (by decide +kernel)), by decide +kernel⟩
theorem qw328 : Cond.code ({ cls := "SignallingPoint", name := "isStream", desc := "(II)Z" } : MethodName) prog_1_method_35_code (2 : Nat) (Option.some Jvm.ClassFile.FieldType.boolean) ∈ WL := List.mem_filter.mpr ⟨List.mem_append_right _ (List.mem_of_getElem? (i := 328) (by decide +kernel)), by decide +kernel⟩
theorem qw329 : Cond.methodLinkNest "SignallingPoint" (112 : Nat) ({ cls := "SignallingPoint$State", name := "linkOver", desc := "(II)I" } : MethodName) "SignallingPoint" ∈ lw_tbl := List.mem_append_right _ (List.mem_of_getElem? (i := 329) (by decide +kernel))
theorem qw330 : Cond.methodLink "SignallingPointLaw" (72 : Nat) ({ cls := "SignallingPoint", name := "send", desc := "(III)I" } : MethodName) ∈ WL := List.mem_filter.mpr ⟨List.mem_append_right _ (List.mem_of_getElem? (i := 330) (by decide +kernel)), by decide +kernel⟩
theorem qw331 : Cond.instanceMethod ({ cls := "SignallingPoint", name := "send", desc := "(III)I" } : MethodName) ∈ WL := List.mem_filter.mpr ⟨List.mem_append_right _ (List.mem_of_getElem? (i := 331) (by decide +kernel)), by decide +kernel⟩
theorem qw332 : Cond.selects "SignallingPoint" ({ cls := "SignallingPoint", name := "send", desc := "(III)I" } : MethodName) ({ cls := "SignallingPoint", name := "send", desc := "(III)I" } : MethodName) ∈ WL := List.mem_filter.mpr ⟨List.mem_append_right _ (List.mem_of_getElem? (i := 332) (by decide +kernel)), by decide +kernel⟩
theorem qw333 : Cond.code ({ cls := "SignallingPoint", name := "send", desc := "(III)I" } : MethodName) prog_1_method_16_code (4 : Nat) (Option.some Jvm.ClassFile.FieldType.int) ∈ WL := List.mem_filter.mpr ⟨List.mem_append_right _ (List.mem_of_getElem? (i := 333) (by decide +kernel)), by decide +kernel⟩
theorem qw334 : Cond.methodLinkNest "SignallingPoint" (115 : Nat) ({ cls := "SignallingPoint$State", name := "accept", desc := "(III)I" } : MethodName) "SignallingPoint" ∈ lw_tbl := List.mem_append_right _ (List.mem_of_getElem? (i := 334) (by decide +kernel))
theorem qw336 : Cond.instanceMethod ({ cls := "SignallingPoint$State", name := "accept", desc := "(III)I" } : MethodName) ∈ WL := List.mem_filter.mpr ⟨List.mem_append_right _ (List.mem_of_getElem? (i := 336) (by decide +kernel)), by decide +kernel⟩
theorem qw337 : Cond.code ({ cls := "SignallingPoint$State", name := "accept", desc := "(III)I" } : MethodName) prog_2_method_20_code (8 : Nat) (Option.some Jvm.ClassFile.FieldType.int) ∈ WL := List.mem_filter.mpr ⟨List.mem_append_right _ (List.mem_of_getElem? (i := 337) (by decide +kernel)), by decide +kernel⟩
theorem qw338 : Cond.methodLinkNest "SignallingPoint$State" (130 : Nat) ({ cls := "SignallingPoint", name := "streamPlace", desc := "(II)I" } : MethodName) "SignallingPoint" ∈ lw_tbl := List.mem_append_right _ (List.mem_of_getElem? (i := 338) (by decide +kernel))
theorem qw339 : Cond.static ({ cls := "SignallingPoint", name := "streamPlace", desc := "(II)I" } : MethodName) ∈ WL := List.mem_filter.mpr ⟨List.mem_append_right _ (List.mem_of_getElem? (i := 339) (by decide +kernel)), by decide +kernel⟩
theorem qw340 : Cond.code ({ cls := "SignallingPoint", name := "streamPlace", desc := "(II)I" } : MethodName) prog_1_method_38_code (2 : Nat) (Option.some Jvm.ClassFile.FieldType.int) ∈ WL := List.mem_filter.mpr ⟨List.mem_append_right _ (List.mem_of_getElem? (i := 340) (by decide +kernel)), by decide +kernel⟩
theorem qw341 : Cond.methodLinkNest "SignallingPoint$State" (133 : Nat) ({ cls := "SignallingPoint", name := "messageOf", desc := "(II)I" } : MethodName) "SignallingPoint" ∈ lw_tbl := List.mem_append_right _ (List.mem_of_getElem? (i := 341) (by decide +kernel))
theorem qw342 : Cond.static ({ cls := "SignallingPoint", name := "messageOf", desc := "(II)I" } : MethodName) ∈ WL := List.mem_filter.mpr ⟨List.mem_append_right _ (List.mem_of_getElem? (i := 342) (by decide +kernel)), by decide +kernel⟩
theorem qw343 : Cond.code ({ cls := "SignallingPoint", name := "messageOf", desc := "(II)I" } : MethodName) prog_1_method_39_code (2 : Nat) (Option.some Jvm.ClassFile.FieldType.int) ∈ WL := List.mem_filter.mpr ⟨List.mem_append_right _ (List.mem_of_getElem? (i := 343) (by decide +kernel)), by decide +kernel⟩
theorem qw344 : Cond.methodLink "SignallingPoint$State" (136 : Nat) ({ cls := "SignallingPoint$State", name := "holds", desc := "(I)Z" } : MethodName) ∈ WL := List.mem_filter.mpr ⟨List.mem_append_right _ (List.mem_of_getElem? (i := 344) (by decide +kernel)), by decide +kernel⟩
theorem qw346 : Cond.instanceMethod ({ cls := "SignallingPoint$State", name := "holds", desc := "(I)Z" } : MethodName) ∈ WL := List.mem_filter.mpr ⟨List.mem_append_right _ (List.mem_of_getElem? (i := 346) (by decide +kernel)), by decide +kernel⟩
theorem qw347 : Cond.code ({ cls := "SignallingPoint$State", name := "holds", desc := "(I)Z" } : MethodName) prog_2_method_8_code (2 : Nat) (Option.some Jvm.ClassFile.FieldType.boolean) ∈ WL := List.mem_filter.mpr ⟨List.mem_append_right _ (List.mem_of_getElem? (i := 347) (by decide +kernel)), by decide +kernel⟩
theorem qw348 : Cond.methodLink "SignallingPoint$State" (139 : Nat) ({ cls := "SignallingPoint$State", name := "hold", desc := "(I)V" } : MethodName) ∈ WL := List.mem_filter.mpr ⟨List.mem_append_right _ (List.mem_of_getElem? (i := 348) (by decide +kernel)), by decide +kernel⟩
theorem qw350 : Cond.instanceMethod ({ cls := "SignallingPoint$State", name := "hold", desc := "(I)V" } : MethodName) ∈ WL := List.mem_filter.mpr ⟨List.mem_append_right _ (List.mem_of_getElem? (i := 350) (by decide +kernel)), by decide +kernel⟩
theorem qw351 : Cond.code ({ cls := "SignallingPoint$State", name := "hold", desc := "(I)V" } : MethodName) prog_2_method_21_code (2 : Nat) (Option.none : Option Jvm.ClassFile.FieldType) ∈ WL := List.mem_filter.mpr ⟨List.mem_append_right _ (List.mem_of_getElem? (i := 351) (by decide +kernel)), by decide +kernel⟩
theorem qw352 : Cond.methodLink "SignallingPoint$State" (142 : Nat) ({ cls := "SignallingPoint$State", name := "congestionLevel", desc := "(I)I" } : MethodName) ∈ WL := List.mem_filter.mpr ⟨List.mem_append_right _ (List.mem_of_getElem? (i := 352) (by decide +kernel)), by decide +kernel⟩
theorem qw353 : Cond.methodLink "SignallingPointLaw" (76 : Nat) ({ cls := "SignallingPoint", name := "setHoldTime", desc := "(I)I" } : MethodName) ∈ WL := List.mem_filter.mpr ⟨List.mem_append_right _ (List.mem_of_getElem? (i := 353) (by decide +kernel)), by decide +kernel⟩
theorem qw354 : Cond.instanceMethod ({ cls := "SignallingPoint", name := "setHoldTime", desc := "(I)I" } : MethodName) ∈ WL := List.mem_filter.mpr ⟨List.mem_append_right _ (List.mem_of_getElem? (i := 354) (by decide +kernel)), by decide +kernel⟩
theorem qw355 : Cond.selects "SignallingPoint" ({ cls := "SignallingPoint", name := "setHoldTime", desc := "(I)I" } : MethodName) ({ cls := "SignallingPoint", name := "setHoldTime", desc := "(I)I" } : MethodName) ∈ WL := List.mem_filter.mpr ⟨List.mem_append_right _ (List.mem_of_getElem? (i := 355) (by decide +kernel)), by decide +kernel⟩
theorem qw356 : Cond.code ({ cls := "SignallingPoint", name := "setHoldTime", desc := "(I)I" } : MethodName) prog_1_method_17_code (3 : Nat) (Option.some Jvm.ClassFile.FieldType.int) ∈ WL := List.mem_filter.mpr ⟨List.mem_append_right _ (List.mem_of_getElem? (i := 356) (by decide +kernel)), by decide +kernel⟩
theorem qw357 : Cond.methodLink "SignallingPointLaw" (80 : Nat) ({ cls := "SignallingPoint", name := "tick", desc := "()I" } : MethodName) ∈ WL := List.mem_filter.mpr ⟨List.mem_append_right _ (List.mem_of_getElem? (i := 357) (by decide +kernel)), by decide +kernel⟩
theorem qw358 : Cond.instanceMethod ({ cls := "SignallingPoint", name := "tick", desc := "()I" } : MethodName) ∈ WL := List.mem_filter.mpr ⟨List.mem_append_right _ (List.mem_of_getElem? (i := 358) (by decide +kernel)), by decide +kernel⟩
theorem qw359 : Cond.selects "SignallingPoint" ({ cls := "SignallingPoint", name := "tick", desc := "()I" } : MethodName) ({ cls := "SignallingPoint", name := "tick", desc := "()I" } : MethodName) ∈ WL := List.mem_filter.mpr ⟨List.mem_append_right _ (List.mem_of_getElem? (i := 359) (by decide +kernel)), by decide +kernel⟩
theorem qw360 : Cond.code ({ cls := "SignallingPoint", name := "tick", desc := "()I" } : MethodName) prog_1_method_18_code (1 : Nat) (Option.some Jvm.ClassFile.FieldType.int) ∈ WL := List.mem_filter.mpr ⟨List.mem_append_right _ (List.mem_of_getElem? (i := 360) (by decide +kernel)), by decide +kernel⟩
theorem qw361 : Cond.methodLinkNest "SignallingPoint" (125 : Nat) ({ cls := "SignallingPoint$State", name := "releaseHeld", desc := "()I" } : MethodName) "SignallingPoint" ∈ lw_tbl := List.mem_append_right _ (List.mem_of_getElem? (i := 361) (by decide +kernel))
theorem qw363 : Cond.instanceMethod ({ cls := "SignallingPoint$State", name := "releaseHeld", desc := "()I" } : MethodName) ∈ WL := List.mem_filter.mpr ⟨List.mem_append_right _ (List.mem_of_getElem? (i := 363) (by decide +kernel)), by decide +kernel⟩
theorem qw364 : Cond.code ({ cls := "SignallingPoint$State", name := "releaseHeld", desc := "()I" } : MethodName) prog_2_method_23_code (5 : Nat) (Option.some Jvm.ClassFile.FieldType.int) ∈ WL := List.mem_filter.mpr ⟨List.mem_append_right _ (List.mem_of_getElem? (i := 364) (by decide +kernel)), by decide +kernel⟩
theorem qw365 : Cond.methodLink "SignallingPointLaw" (85 : Nat) ({ cls := "SignallingPoint", name := "time", desc := "()I" } : MethodName) ∈ WL := List.mem_filter.mpr ⟨List.mem_append_right _ (List.mem_of_getElem? (i := 365) (by decide +kernel)), by decide +kernel⟩
theorem qw366 : Cond.instanceMethod ({ cls := "SignallingPoint", name := "time", desc := "()I" } : MethodName) ∈ WL := List.mem_filter.mpr ⟨List.mem_append_right _ (List.mem_of_getElem? (i := 366) (by decide +kernel)), by decide +kernel⟩
theorem qw367 : Cond.selects "SignallingPoint" ({ cls := "SignallingPoint", name := "time", desc := "()I" } : MethodName) ({ cls := "SignallingPoint", name := "time", desc := "()I" } : MethodName) ∈ WL := List.mem_filter.mpr ⟨List.mem_append_right _ (List.mem_of_getElem? (i := 367) (by decide +kernel)), by decide +kernel⟩
theorem qw368 : Cond.code ({ cls := "SignallingPoint", name := "time", desc := "()I" } : MethodName) prog_1_method_19_code (1 : Nat) (Option.some Jvm.ClassFile.FieldType.int) ∈ WL := List.mem_filter.mpr ⟨List.mem_append_right _ (List.mem_of_getElem? (i := 368) (by decide +kernel)), by decide +kernel⟩
theorem qw369 : Cond.methodLink "SignallingPointLaw" (89 : Nat) ({ cls := "SignallingPoint", name := "isHeld", desc := "(II)I" } : MethodName) ∈ WL := List.mem_filter.mpr ⟨List.mem_append_right _ (List.mem_of_getElem? (i := 369) (by decide +kernel)), by decide +kernel⟩
theorem qw370 : Cond.instanceMethod ({ cls := "SignallingPoint", name := "isHeld", desc := "(II)I" } : MethodName) ∈ WL := List.mem_filter.mpr ⟨List.mem_append_right _ (List.mem_of_getElem? (i := 370) (by decide +kernel)), by decide +kernel⟩
theorem qw371 : Cond.selects "SignallingPoint" ({ cls := "SignallingPoint", name := "isHeld", desc := "(II)I" } : MethodName) ({ cls := "SignallingPoint", name := "isHeld", desc := "(II)I" } : MethodName) ∈ WL := List.mem_filter.mpr ⟨List.mem_append_right _ (List.mem_of_getElem? (i := 371) (by decide +kernel)), by decide +kernel⟩
theorem qw372 : Cond.code ({ cls := "SignallingPoint", name := "isHeld", desc := "(II)I" } : MethodName) prog_1_method_20_code (3 : Nat) (Option.some Jvm.ClassFile.FieldType.int) ∈ WL := List.mem_filter.mpr ⟨List.mem_append_right _ (List.mem_of_getElem? (i := 372) (by decide +kernel)), by decide +kernel⟩
theorem qw373 : Cond.methodLink "SignallingPoint" (128 : Nat) ({ cls := "SignallingPoint", name := "streamPlace", desc := "(II)I" } : MethodName) ∈ WL := List.mem_filter.mpr ⟨List.mem_append_right _ (List.mem_of_getElem? (i := 373) (by decide +kernel)), by decide +kernel⟩
theorem qw374 : Cond.methodLinkNest "SignallingPoint" (131 : Nat) ({ cls := "SignallingPoint$State", name := "holds", desc := "(I)Z" } : MethodName) "SignallingPoint" ∈ lw_tbl := List.mem_append_right _ (List.mem_of_getElem? (i := 374) (by decide +kernel))
theorem qw375 : Cond.methodLink "SignallingPointLaw" (93 : Nat) ({ cls := "SignallingPoint", name := "heldMessages", desc := "()I" } : MethodName) ∈ WL := List.mem_filter.mpr ⟨List.mem_append_right _ (List.mem_of_getElem? (i := 375) (by decide +kernel)), by decide +kernel⟩
theorem qw376 : Cond.instanceMethod ({ cls := "SignallingPoint", name := "heldMessages", desc := "()I" } : MethodName) ∈ WL := List.mem_filter.mpr ⟨List.mem_append_right _ (List.mem_of_getElem? (i := 376) (by decide +kernel)), by decide +kernel⟩
theorem qw377 : Cond.selects "SignallingPoint" ({ cls := "SignallingPoint", name := "heldMessages", desc := "()I" } : MethodName) ({ cls := "SignallingPoint", name := "heldMessages", desc := "()I" } : MethodName) ∈ WL := List.mem_filter.mpr ⟨List.mem_append_right _ (List.mem_of_getElem? (i := 377) (by decide +kernel)), by decide +kernel⟩
theorem qw378 : Cond.code ({ cls := "SignallingPoint", name := "heldMessages", desc := "()I" } : MethodName) prog_1_method_21_code (1 : Nat) (Option.some Jvm.ClassFile.FieldType.int) ∈ WL := List.mem_filter.mpr ⟨List.mem_append_right _ (List.mem_of_getElem? (i := 378) (by decide +kernel)), by decide +kernel⟩
theorem qw379 : Cond.methodLink "SignallingPointLaw" (97 : Nat) ({ cls := "SignallingPoint", name := "delivered", desc := "()I" } : MethodName) ∈ WL := List.mem_filter.mpr ⟨List.mem_append_right _ (List.mem_of_getElem? (i := 379) (by decide +kernel)), by decide +kernel⟩
theorem qw380 : Cond.instanceMethod ({ cls := "SignallingPoint", name := "delivered", desc := "()I" } : MethodName) ∈ WL := List.mem_filter.mpr ⟨List.mem_append_right _ (List.mem_of_getElem? (i := 380) (by decide +kernel)), by decide +kernel⟩
theorem qw381 : Cond.selects "SignallingPoint" ({ cls := "SignallingPoint", name := "delivered", desc := "()I" } : MethodName) ({ cls := "SignallingPoint", name := "delivered", desc := "()I" } : MethodName) ∈ WL := List.mem_filter.mpr ⟨List.mem_append_right _ (List.mem_of_getElem? (i := 381) (by decide +kernel)), by decide +kernel⟩
theorem qw382 : Cond.code ({ cls := "SignallingPoint", name := "delivered", desc := "()I" } : MethodName) prog_1_method_22_code (1 : Nat) (Option.some Jvm.ClassFile.FieldType.int) ∈ WL := List.mem_filter.mpr ⟨List.mem_append_right _ (List.mem_of_getElem? (i := 382) (by decide +kernel)), by decide +kernel⟩
theorem qw383 : Cond.methodLink "SignallingPointLaw" (101 : Nat) ({ cls := "SignallingPoint", name := "overtaken", desc := "()I" } : MethodName) ∈ WL := List.mem_filter.mpr ⟨List.mem_append_right _ (List.mem_of_getElem? (i := 383) (by decide +kernel)), by decide +kernel⟩
theorem qw384 : Cond.instanceMethod ({ cls := "SignallingPoint", name := "overtaken", desc := "()I" } : MethodName) ∈ WL := List.mem_filter.mpr ⟨List.mem_append_right _ (List.mem_of_getElem? (i := 384) (by decide +kernel)), by decide +kernel⟩
theorem qw385 : Cond.selects "SignallingPoint" ({ cls := "SignallingPoint", name := "overtaken", desc := "()I" } : MethodName) ({ cls := "SignallingPoint", name := "overtaken", desc := "()I" } : MethodName) ∈ WL := List.mem_filter.mpr ⟨List.mem_append_right _ (List.mem_of_getElem? (i := 385) (by decide +kernel)), by decide +kernel⟩
theorem qw386 : Cond.code ({ cls := "SignallingPoint", name := "overtaken", desc := "()I" } : MethodName) prog_1_method_23_code (1 : Nat) (Option.some Jvm.ClassFile.FieldType.int) ∈ WL := List.mem_filter.mpr ⟨List.mem_append_right _ (List.mem_of_getElem? (i := 386) (by decide +kernel)), by decide +kernel⟩
theorem qw387 : Cond.methodLink "SignallingPointLaw" (105 : Nat) ({ cls := "SignallingPoint", name := "unreachable", desc := "()I" } : MethodName) ∈ WL := List.mem_filter.mpr ⟨List.mem_append_right _ (List.mem_of_getElem? (i := 387) (by decide +kernel)), by decide +kernel⟩
theorem qw388 : Cond.instanceMethod ({ cls := "SignallingPoint", name := "unreachable", desc := "()I" } : MethodName) ∈ WL := List.mem_filter.mpr ⟨List.mem_append_right _ (List.mem_of_getElem? (i := 388) (by decide +kernel)), by decide +kernel⟩
theorem qw389 : Cond.selects "SignallingPoint" ({ cls := "SignallingPoint", name := "unreachable", desc := "()I" } : MethodName) ({ cls := "SignallingPoint", name := "unreachable", desc := "()I" } : MethodName) ∈ WL := List.mem_filter.mpr ⟨List.mem_append_right _ (List.mem_of_getElem? (i := 389) (by decide +kernel)), by decide +kernel⟩
theorem qw390 : Cond.code ({ cls := "SignallingPoint", name := "unreachable", desc := "()I" } : MethodName) prog_1_method_24_code (1 : Nat) (Option.some Jvm.ClassFile.FieldType.int) ∈ WL := List.mem_filter.mpr ⟨List.mem_append_right _ (List.mem_of_getElem? (i := 390) (by decide +kernel)), by decide +kernel⟩
theorem qw391 : Cond.methodLink "SignallingPointLaw" (109 : Nat) ({ cls := "SignallingPoint", name := "congested", desc := "()I" } : MethodName) ∈ WL := List.mem_filter.mpr ⟨List.mem_append_right _ (List.mem_of_getElem? (i := 391) (by decide +kernel)), by decide +kernel⟩
theorem qw392 : Cond.instanceMethod ({ cls := "SignallingPoint", name := "congested", desc := "()I" } : MethodName) ∈ WL := List.mem_filter.mpr ⟨List.mem_append_right _ (List.mem_of_getElem? (i := 392) (by decide +kernel)), by decide +kernel⟩
theorem qw393 : Cond.selects "SignallingPoint" ({ cls := "SignallingPoint", name := "congested", desc := "()I" } : MethodName) ({ cls := "SignallingPoint", name := "congested", desc := "()I" } : MethodName) ∈ WL := List.mem_filter.mpr ⟨List.mem_append_right _ (List.mem_of_getElem? (i := 393) (by decide +kernel)), by decide +kernel⟩
theorem qw394 : Cond.code ({ cls := "SignallingPoint", name := "congested", desc := "()I" } : MethodName) prog_1_method_25_code (1 : Nat) (Option.some Jvm.ClassFile.FieldType.int) ∈ WL := List.mem_filter.mpr ⟨List.mem_append_right _ (List.mem_of_getElem? (i := 394) (by decide +kernel)), by decide +kernel⟩
theorem qw395 : Cond.methodLink "SignallingPointLaw" (113 : Nat) ({ cls := "SignallingPoint", name := "lost", desc := "()I" } : MethodName) ∈ WL := List.mem_filter.mpr ⟨List.mem_append_right _ (List.mem_of_getElem? (i := 395) (by decide +kernel)), by decide +kernel⟩
theorem qw396 : Cond.instanceMethod ({ cls := "SignallingPoint", name := "lost", desc := "()I" } : MethodName) ∈ WL := List.mem_filter.mpr ⟨List.mem_append_right _ (List.mem_of_getElem? (i := 396) (by decide +kernel)), by decide +kernel⟩
theorem qw397 : Cond.selects "SignallingPoint" ({ cls := "SignallingPoint", name := "lost", desc := "()I" } : MethodName) ({ cls := "SignallingPoint", name := "lost", desc := "()I" } : MethodName) ∈ WL := List.mem_filter.mpr ⟨List.mem_append_right _ (List.mem_of_getElem? (i := 397) (by decide +kernel)), by decide +kernel⟩
theorem qw398 : Cond.code ({ cls := "SignallingPoint", name := "lost", desc := "()I" } : MethodName) prog_1_method_26_code (1 : Nat) (Option.some Jvm.ClassFile.FieldType.int) ∈ WL := List.mem_filter.mpr ⟨List.mem_append_right _ (List.mem_of_getElem? (i := 398) (by decide +kernel)), by decide +kernel⟩
theorem qw399 : Cond.methodLink "SignallingPointLaw" (117 : Nat) ({ cls := "SignallingPoint", name := "spread", desc := "(I)I" } : MethodName) ∈ WL := List.mem_filter.mpr ⟨List.mem_append_right _ (List.mem_of_getElem? (i := 399) (by decide +kernel)), by decide +kernel⟩
theorem qw400 : Cond.instanceMethod ({ cls := "SignallingPoint", name := "spread", desc := "(I)I" } : MethodName) ∈ WL := List.mem_filter.mpr ⟨List.mem_append_right _ (List.mem_of_getElem? (i := 400) (by decide +kernel)), by decide +kernel⟩
theorem qw401 : Cond.selects "SignallingPoint" ({ cls := "SignallingPoint", name := "spread", desc := "(I)I" } : MethodName) ({ cls := "SignallingPoint", name := "spread", desc := "(I)I" } : MethodName) ∈ WL := List.mem_filter.mpr ⟨List.mem_append_right _ (List.mem_of_getElem? (i := 401) (by decide +kernel)), by decide +kernel⟩
theorem qw402 : Cond.code ({ cls := "SignallingPoint", name := "spread", desc := "(I)I" } : MethodName) prog_1_method_27_code (2 : Nat) (Option.some Jvm.ClassFile.FieldType.int) ∈ WL := List.mem_filter.mpr ⟨List.mem_append_right _ (List.mem_of_getElem? (i := 402) (by decide +kernel)), by decide +kernel⟩
theorem qw403 : Cond.methodLinkNest "SignallingPoint" (152 : Nat) ({ cls := "SignallingPoint$State", name := "countLinksTo", desc := "(I)I" } : MethodName) "SignallingPoint" ∈ lw_tbl := List.mem_append_right _ (List.mem_of_getElem? (i := 403) (by decide +kernel))
theorem qw405 : Cond.instanceMethod ({ cls := "SignallingPoint$State", name := "countLinksTo", desc := "(I)I" } : MethodName) ∈ WL := List.mem_filter.mpr ⟨List.mem_append_right _ (List.mem_of_getElem? (i := 405) (by decide +kernel)), by decide +kernel⟩
theorem qw406 : Cond.code ({ cls := "SignallingPoint$State", name := "countLinksTo", desc := "(I)I" } : MethodName) prog_2_method_17_code (6 : Nat) (Option.some Jvm.ClassFile.FieldType.int) ∈ WL := List.mem_filter.mpr ⟨List.mem_append_right _ (List.mem_of_getElem? (i := 406) (by decide +kernel)), by decide +kernel⟩
theorem qw407 : Cond.methodLink "SignallingPointLaw" (121 : Nat) ({ cls := "SignallingPoint", name := "undo", desc := "()I" } : MethodName) ∈ WL := List.mem_filter.mpr ⟨List.mem_append_right _ (List.mem_of_getElem? (i := 407) (by decide +kernel)), by decide +kernel⟩
theorem qw408 : Cond.instanceMethod ({ cls := "SignallingPoint", name := "undo", desc := "()I" } : MethodName) ∈ WL := List.mem_filter.mpr ⟨List.mem_append_right _ (List.mem_of_getElem? (i := 408) (by decide +kernel)), by decide +kernel⟩
theorem qw409 : Cond.selects "SignallingPoint" ({ cls := "SignallingPoint", name := "undo", desc := "()I" } : MethodName) ({ cls := "SignallingPoint", name := "undo", desc := "()I" } : MethodName) ∈ WL := List.mem_filter.mpr ⟨List.mem_append_right _ (List.mem_of_getElem? (i := 409) (by decide +kernel)), by decide +kernel⟩
theorem qw410 : Cond.code ({ cls := "SignallingPoint", name := "undo", desc := "()I" } : MethodName) prog_1_method_28_code (1 : Nat) (Option.some Jvm.ClassFile.FieldType.int) ∈ WL := List.mem_filter.mpr ⟨List.mem_append_right _ (List.mem_of_getElem? (i := 410) (by decide +kernel)), by decide +kernel⟩
theorem qw411 : Cond.methodLinkNest "SignallingPoint" (158 : Nat) ({ cls := "SignallingPoint$UndoStack", name := "takeBackInto", desc := "(LSignallingPoint$State;)V" } : MethodName) "SignallingPoint" ∈ lw_tbl := List.mem_append_right _ (List.mem_of_getElem? (i := 411) (by decide +kernel))
theorem qw413 : Cond.instanceMethod ({ cls := "SignallingPoint$UndoStack", name := "takeBackInto", desc := "(LSignallingPoint$State;)V" } : MethodName) ∈ WL := List.mem_filter.mpr ⟨List.mem_append_right _ (List.mem_of_getElem? (i := 413) (by decide +kernel)), by decide +kernel⟩
theorem qw414 : Cond.code ({ cls := "SignallingPoint$UndoStack", name := "takeBackInto", desc := "(LSignallingPoint$State;)V" } : MethodName) prog_3_method_3_code (2 : Nat) (Option.none : Option Jvm.ClassFile.FieldType) ∈ WL := List.mem_filter.mpr ⟨List.mem_append_right _ (List.mem_of_getElem? (i := 414) (by decide +kernel)), by decide +kernel⟩
theorem qw415 : Cond.methodLink "SignallingPointLaw" (125 : Nat) ({ cls := "SignallingPoint", name := "errorCount", desc := "(I)I" } : MethodName) ∈ WL := List.mem_filter.mpr ⟨List.mem_append_right _ (List.mem_of_getElem? (i := 415) (by decide +kernel)), by decide +kernel⟩
theorem qw416 : Cond.instanceMethod ({ cls := "SignallingPoint", name := "errorCount", desc := "(I)I" } : MethodName) ∈ WL := List.mem_filter.mpr ⟨List.mem_append_right _ (List.mem_of_getElem? (i := 416) (by decide +kernel)), by decide +kernel⟩
theorem qw417 : Cond.selects "SignallingPoint" ({ cls := "SignallingPoint", name := "errorCount", desc := "(I)I" } : MethodName) ({ cls := "SignallingPoint", name := "errorCount", desc := "(I)I" } : MethodName) ∈ WL := List.mem_filter.mpr ⟨List.mem_append_right _ (List.mem_of_getElem? (i := 417) (by decide +kernel)), by decide +kernel⟩
theorem qw418 : Cond.code ({ cls := "SignallingPoint", name := "errorCount", desc := "(I)I" } : MethodName) prog_1_method_29_code (2 : Nat) (Option.some Jvm.ClassFile.FieldType.int) ∈ WL := List.mem_filter.mpr ⟨List.mem_append_right _ (List.mem_of_getElem? (i := 418) (by decide +kernel)), by decide +kernel⟩
theorem qw419 : Cond.methodLink "SignallingPointLaw" (129 : Nat) ({ cls := "SignallingPoint", name := "digest", desc := "()J" } : MethodName) ∈ WL := List.mem_filter.mpr ⟨List.mem_append_right _ (List.mem_of_getElem? (i := 419) (by decide +kernel)), by decide +kernel⟩
theorem qw420 : Cond.instanceMethod ({ cls := "SignallingPoint", name := "digest", desc := "()J" } : MethodName) ∈ WL := List.mem_filter.mpr ⟨List.mem_append_right _ (List.mem_of_getElem? (i := 420) (by decide +kernel)), by decide +kernel⟩
theorem qw421 : Cond.selects "SignallingPoint" ({ cls := "SignallingPoint", name := "digest", desc := "()J" } : MethodName) ({ cls := "SignallingPoint", name := "digest", desc := "()J" } : MethodName) ∈ WL := List.mem_filter.mpr ⟨List.mem_append_right _ (List.mem_of_getElem? (i := 421) (by decide +kernel)), by decide +kernel⟩
theorem qw422 : Cond.code ({ cls := "SignallingPoint", name := "digest", desc := "()J" } : MethodName) prog_1_method_30_code (4 : Nat) (Option.some Jvm.ClassFile.FieldType.long) ∈ WL := List.mem_filter.mpr ⟨List.mem_append_right _ (List.mem_of_getElem? (i := 422) (by decide +kernel)), by decide +kernel⟩
theorem qw423 : Cond.constantLong "SignallingPoint" (170 : Nat) (12144 : Int64) ∈ WL := List.mem_filter.mpr ⟨List.mem_append_right _ (List.mem_of_getElem? (i := 423) (by decide +kernel)), by decide +kernel⟩
theorem qw424 : Cond.methodLink "SignallingPoint" (172 : Nat) ({ cls := "SignallingPoint", name := "mix", desc := "(JI)J" } : MethodName) ∈ WL := List.mem_filter.mpr ⟨List.mem_append_right _ (List.mem_of_getElem? (i := 424) (by decide +kernel)), by decide +kernel⟩
theorem qw425 : Cond.static ({ cls := "SignallingPoint", name := "mix", desc := "(JI)J" } : MethodName) ∈ WL := List.mem_filter.mpr ⟨List.mem_append_right _ (List.mem_of_getElem? (i := 425) (by decide +kernel)), by decide +kernel⟩
theorem qw426 : Cond.code ({ cls := "SignallingPoint", name := "mix", desc := "(JI)J" } : MethodName) prog_1_method_43_code (3 : Nat) (Option.some Jvm.ClassFile.FieldType.long) ∈ WL := List.mem_filter.mpr ⟨List.mem_append_right _ (List.mem_of_getElem? (i := 426) (by decide +kernel)), by decide +kernel⟩
theorem qw427 : Cond.constantLong "SignallingPoint" (197 : Nat) (31 : Int64) ∈ WL := List.mem_filter.mpr ⟨List.mem_append_right _ (List.mem_of_getElem? (i := 427) (by decide +kernel)), by decide +kernel⟩
theorem qw428 : Cond.methodLinkNest "SignallingPoint" (176 : Nat) ({ cls := "SignallingPoint$State", name := "mixCounters", desc := "(J)J" } : MethodName) "SignallingPoint" ∈ lw_tbl := List.mem_append_right _ (List.mem_of_getElem? (i := 428) (by decide +kernel))
theorem qw430 : Cond.instanceMethod ({ cls := "SignallingPoint$State", name := "mixCounters", desc := "(J)J" } : MethodName) ∈ WL := List.mem_filter.mpr ⟨List.mem_append_right _ (List.mem_of_getElem? (i := 430) (by decide +kernel)), by decide +kernel⟩
theorem qw431 : Cond.code ({ cls := "SignallingPoint$State", name := "mixCounters", desc := "(J)J" } : MethodName) prog_2_method_26_code (5 : Nat) (Option.some Jvm.ClassFile.FieldType.long) ∈ WL := List.mem_filter.mpr ⟨List.mem_append_right _ (List.mem_of_getElem? (i := 431) (by decide +kernel)), by decide +kernel⟩
theorem qw432 : Cond.methodLinkNest "SignallingPoint$State" (154 : Nat) ({ cls := "SignallingPoint", name := "mix", desc := "(JI)J" } : MethodName) "SignallingPoint" ∈ lw_tbl := List.mem_append_right _ (List.mem_of_getElem? (i := 432) (by decide +kernel))
theorem qw433 : Cond.methodLinkNest "SignallingPoint" (180 : Nat) ({ cls := "SignallingPoint$State", name := "mixLinksets", desc := "(J)J" } : MethodName) "SignallingPoint" ∈ lw_tbl := List.mem_append_right _ (List.mem_of_getElem? (i := 433) (by decide +kernel))
theorem qw435 : Cond.instanceMethod ({ cls := "SignallingPoint$State", name := "mixLinksets", desc := "(J)J" } : MethodName) ∈ WL := List.mem_filter.mpr ⟨List.mem_append_right _ (List.mem_of_getElem? (i := 435) (by decide +kernel)), by decide +kernel⟩
theorem qw436 : Cond.code ({ cls := "SignallingPoint$State", name := "mixLinksets", desc := "(J)J" } : MethodName) prog_2_method_27_code (7 : Nat) (Option.some Jvm.ClassFile.FieldType.long) ∈ WL := List.mem_filter.mpr ⟨List.mem_append_right _ (List.mem_of_getElem? (i := 436) (by decide +kernel)), by decide +kernel⟩
theorem qw437 : Cond.methodLink "SignallingPoint$State" (158 : Nat) ({ cls := "SignallingPoint$State", name := "linkWorks", desc := "(II)Z" } : MethodName) ∈ WL := List.mem_filter.mpr ⟨List.mem_append_right _ (List.mem_of_getElem? (i := 437) (by decide +kernel)), by decide +kernel⟩
theorem qw438 : Cond.methodLink "SignallingPoint$State" (162 : Nat) ({ cls := "SignallingPoint$State", name := "mixQueue", desc := "(JI)J" } : MethodName) ∈ WL := List.mem_filter.mpr ⟨List.mem_append_right _ (List.mem_of_getElem? (i := 438) (by decide +kernel)), by decide +kernel⟩
theorem qw440 : Cond.instanceMethod ({ cls := "SignallingPoint$State", name := "mixQueue", desc := "(JI)J" } : MethodName) ∈ WL := List.mem_filter.mpr ⟨List.mem_append_right _ (List.mem_of_getElem? (i := 440) (by decide +kernel)), by decide +kernel⟩
theorem qw441 : Cond.code ({ cls := "SignallingPoint$State", name := "mixQueue", desc := "(JI)J" } : MethodName) prog_2_method_28_code (7 : Nat) (Option.some Jvm.ClassFile.FieldType.long) ∈ WL := List.mem_filter.mpr ⟨List.mem_append_right _ (List.mem_of_getElem? (i := 441) (by decide +kernel)), by decide +kernel⟩
theorem qw442 : Cond.methodLinkNest "SignallingPoint" (183 : Nat) ({ cls := "SignallingPoint$State", name := "mixDestination", desc := "(JI)J" } : MethodName) "SignallingPoint" ∈ lw_tbl := List.mem_append_right _ (List.mem_of_getElem? (i := 442) (by decide +kernel))
theorem qw444 : Cond.instanceMethod ({ cls := "SignallingPoint$State", name := "mixDestination", desc := "(JI)J" } : MethodName) ∈ WL := List.mem_filter.mpr ⟨List.mem_append_right _ (List.mem_of_getElem? (i := 444) (by decide +kernel)), by decide +kernel⟩
theorem qw445 : Cond.code ({ cls := "SignallingPoint$State", name := "mixDestination", desc := "(JI)J" } : MethodName) prog_2_method_29_code (8 : Nat) (Option.some Jvm.ClassFile.FieldType.long) ∈ WL := List.mem_filter.mpr ⟨List.mem_append_right _ (List.mem_of_getElem? (i := 445) (by decide +kernel)), by decide +kernel⟩
theorem qw446 : Cond.methodLinkNest "SignallingPoint" (186 : Nat) ({ cls := "SignallingPoint$State", name := "mixHolding", desc := "(J)J" } : MethodName) "SignallingPoint" ∈ lw_tbl := List.mem_append_right _ (List.mem_of_getElem? (i := 446) (by decide +kernel))
theorem qw448 : Cond.instanceMethod ({ cls := "SignallingPoint$State", name := "mixHolding", desc := "(J)J" } : MethodName) ∈ WL := List.mem_filter.mpr ⟨List.mem_append_right _ (List.mem_of_getElem? (i := 448) (by decide +kernel)), by decide +kernel⟩
theorem qw449 : Cond.code ({ cls := "SignallingPoint$State", name := "mixHolding", desc := "(J)J" } : MethodName) prog_2_method_30_code (6 : Nat) (Option.some Jvm.ClassFile.FieldType.long) ∈ WL := List.mem_filter.mpr ⟨List.mem_append_right _ (List.mem_of_getElem? (i := 449) (by decide +kernel)), by decide +kernel⟩
theorem qw450 : Cond.classLink "SignallingPointLaw" (10 : Nat) "SignallingPointModel" ∈ WL := List.mem_filter.mpr ⟨List.mem_append_right _ (List.mem_of_getElem? (i := 450) (by decide +kernel)), by decide +kernel⟩
theorem qw451 : Cond.instantiable "SignallingPointModel" (7 : Nat) ∈ WL := List.mem_filter.mpr ⟨List.mem_append_right _ (List.mem_of_getElem? (i := 451) (by decide +kernel)), by decide +kernel⟩
theorem qw452 : Cond.methodLink "SignallingPointLaw" (12 : Nat) ({ cls := "SignallingPointModel", name := "<init>", desc := "()V" } : MethodName) ∈ WL := List.mem_filter.mpr ⟨List.mem_append_right _ (List.mem_of_getElem? (i := 452) (by decide +kernel)), by decide +kernel⟩
theorem qw453 : Cond.instanceMethod ({ cls := "SignallingPointModel", name := "<init>", desc := "()V" } : MethodName) ∈ WL := List.mem_filter.mpr ⟨List.mem_append_right _ (List.mem_of_getElem? (i := 453) (by decide +kernel)), by decide +kernel⟩
theorem qw454 : Cond.code ({ cls := "SignallingPointModel", name := "<init>", desc := "()V" } : MethodName) prog_5_method_1_code (2 : Nat) (Option.none : Option Jvm.ClassFile.FieldType) ∈ WL := List.mem_filter.mpr ⟨List.mem_append_right _ (List.mem_of_getElem? (i := 454) (by decide +kernel)), by decide +kernel⟩
theorem qw455 : Cond.methodLink "SignallingPointModel" (1 : Nat) ({ cls := "java/lang/Object", name := "<init>", desc := "()V" } : MethodName) ∈ WL := List.mem_filter.mpr ⟨List.mem_append_right _ (List.mem_of_getElem? (i := 455) (by decide +kernel)), by decide +kernel⟩
theorem qw456 : Cond.fieldLink "SignallingPointModel" (7 : Nat) "SignallingPointModel" "w" "[I" ∈ WL := List.mem_filter.mpr ⟨List.mem_append_right _ (List.mem_of_getElem? (i := 456) (by decide +kernel)), by decide +kernel⟩
theorem qw457 : Cond.fieldLink "SignallingPointModel" (13 : Nat) "SignallingPointModel" "past" "[I" ∈ WL := List.mem_filter.mpr ⟨List.mem_append_right _ (List.mem_of_getElem? (i := 457) (by decide +kernel)), by decide +kernel⟩
theorem qw458 : Cond.fieldLink "SignallingPointModel" (25 : Nat) "SignallingPointModel" "saved" "I" ∈ WL := List.mem_filter.mpr ⟨List.mem_append_right _ (List.mem_of_getElem? (i := 458) (by decide +kernel)), by decide +kernel⟩
theorem qw459 : Cond.fieldLink "SignallingPointModel" (16 : Nat) "SignallingPointModel" "errors" "[I" ∈ WL := List.mem_filter.mpr ⟨List.mem_append_right _ (List.mem_of_getElem? (i := 459) (by decide +kernel)), by decide +kernel⟩
theorem qw460 : Cond.fieldLink "SignallingPointModel" (19 : Nat) "SignallingPointModel" "before" "[I" ∈ WL := List.mem_filter.mpr ⟨List.mem_append_right _ (List.mem_of_getElem? (i := 460) (by decide +kernel)), by decide +kernel⟩
theorem qw461 : Cond.fieldLink "SignallingPointModel" (22 : Nat) "SignallingPointModel" "taken" "[I" ∈ WL := List.mem_filter.mpr ⟨List.mem_append_right _ (List.mem_of_getElem? (i := 461) (by decide +kernel)), by decide +kernel⟩
theorem qw462 : Cond.fieldLink "SignallingPointModel" (91 : Nat) "SignallingPointModel" "hash" "J" ∈ WL := List.mem_filter.mpr ⟨List.mem_append_right _ (List.mem_of_getElem? (i := 462) (by decide +kernel)), by decide +kernel⟩
theorem qw463 : Cond.laysFinal "SignallingPointModel" "SignallingPointModel" "w" "[I" ∈ WL := List.mem_filter.mpr ⟨List.mem_append_right _ (List.mem_of_getElem? (i := 463) (by decide +kernel)), by decide +kernel⟩
theorem qw465 : Cond.laysFinal "SignallingPointModel" "SignallingPointModel" "past" "[I" ∈ WL := List.mem_filter.mpr ⟨List.mem_append_right _ (List.mem_of_getElem? (i := 465) (by decide +kernel)), by decide +kernel⟩
theorem qw467 : Cond.lays "SignallingPointModel" "SignallingPointModel" "saved" "I" ∈ WL := List.mem_filter.mpr ⟨List.mem_append_right _ (List.mem_of_getElem? (i := 467) (by decide +kernel)), by decide +kernel⟩
theorem qw469 : Cond.laysFinal "SignallingPointModel" "SignallingPointModel" "errors" "[I" ∈ WL := List.mem_filter.mpr ⟨List.mem_append_right _ (List.mem_of_getElem? (i := 469) (by decide +kernel)), by decide +kernel⟩
theorem qw471 : Cond.laysFinal "SignallingPointModel" "SignallingPointModel" "before" "[I" ∈ WL := List.mem_filter.mpr ⟨List.mem_append_right _ (List.mem_of_getElem? (i := 471) (by decide +kernel)), by decide +kernel⟩
theorem qw473 : Cond.laysFinal "SignallingPointModel" "SignallingPointModel" "taken" "[I" ∈ WL := List.mem_filter.mpr ⟨List.mem_append_right _ (List.mem_of_getElem? (i := 473) (by decide +kernel)), by decide +kernel⟩
theorem qw475 : Cond.lays "SignallingPointModel" "SignallingPointModel" "hash" "J" ∈ WL := List.mem_filter.mpr ⟨List.mem_append_right _ (List.mem_of_getElem? (i := 475) (by decide +kernel)), by decide +kernel⟩
theorem qw478 : Cond.methodLink "SignallingPointLaw" (124 : Nat) ({ cls := "SignallingPointModel", name := "undo", desc := "()I" } : MethodName) ∈ WL := List.mem_filter.mpr ⟨List.mem_append_right _ (List.mem_of_getElem? (i := 478) (by decide +kernel)), by decide +kernel⟩
theorem qw479 : Cond.instanceMethod ({ cls := "SignallingPointModel", name := "undo", desc := "()I" } : MethodName) ∈ WL := List.mem_filter.mpr ⟨List.mem_append_right _ (List.mem_of_getElem? (i := 479) (by decide +kernel)), by decide +kernel⟩
theorem qw480 : Cond.selects "SignallingPointModel" ({ cls := "SignallingPointModel", name := "undo", desc := "()I" } : MethodName) ({ cls := "SignallingPointModel", name := "undo", desc := "()I" } : MethodName) ∈ WL := List.mem_filter.mpr ⟨List.mem_append_right _ (List.mem_of_getElem? (i := 480) (by decide +kernel)), by decide +kernel⟩
theorem qw481 : Cond.code ({ cls := "SignallingPointModel", name := "undo", desc := "()I" } : MethodName) prog_5_method_6_code (2 : Nat) (Option.some Jvm.ClassFile.FieldType.int) ∈ WL := List.mem_filter.mpr ⟨List.mem_append_right _ (List.mem_of_getElem? (i := 481) (by decide +kernel)), by decide +kernel⟩
theorem qw482 : Cond.methodLink "SignallingPointModel" (29 : Nat) ({ cls := "SignallingPointModel", name := "fails", desc := "(I)I" } : MethodName) ∈ WL := List.mem_filter.mpr ⟨List.mem_append_right _ (List.mem_of_getElem? (i := 482) (by decide +kernel)), by decide +kernel⟩
theorem qw484 : Cond.instanceMethod ({ cls := "SignallingPointModel", name := "fails", desc := "(I)I" } : MethodName) ∈ WL := List.mem_filter.mpr ⟨List.mem_append_right _ (List.mem_of_getElem? (i := 484) (by decide +kernel)), by decide +kernel⟩
theorem qw485 : Cond.code ({ cls := "SignallingPointModel", name := "fails", desc := "(I)I" } : MethodName) prog_5_method_4_code (2 : Nat) (Option.some Jvm.ClassFile.FieldType.int) ∈ WL := List.mem_filter.mpr ⟨List.mem_append_right _ (List.mem_of_getElem? (i := 485) (by decide +kernel)), by decide +kernel⟩
theorem qw486 : Cond.methodLink "SignallingPointLaw" (17 : Nat) ({ cls := "SignallingPointModel", name := "addLinkset", desc := "(I)I" } : MethodName) ∈ WL := List.mem_filter.mpr ⟨List.mem_append_right _ (List.mem_of_getElem? (i := 486) (by decide +kernel)), by decide +kernel⟩
theorem qw487 : Cond.instanceMethod ({ cls := "SignallingPointModel", name := "addLinkset", desc := "(I)I" } : MethodName) ∈ WL := List.mem_filter.mpr ⟨List.mem_append_right _ (List.mem_of_getElem? (i := 487) (by decide +kernel)), by decide +kernel⟩
theorem qw488 : Cond.selects "SignallingPointModel" ({ cls := "SignallingPointModel", name := "addLinkset", desc := "(I)I" } : MethodName) ({ cls := "SignallingPointModel", name := "addLinkset", desc := "(I)I" } : MethodName) ∈ WL := List.mem_filter.mpr ⟨List.mem_append_right _ (List.mem_of_getElem? (i := 488) (by decide +kernel)), by decide +kernel⟩
theorem qw489 : Cond.code ({ cls := "SignallingPointModel", name := "addLinkset", desc := "(I)I" } : MethodName) prog_5_method_18_code (4 : Nat) (Option.some Jvm.ClassFile.FieldType.int) ∈ WL := List.mem_filter.mpr ⟨List.mem_append_right _ (List.mem_of_getElem? (i := 489) (by decide +kernel)), by decide +kernel⟩
theorem qw490 : Cond.methodLink "SignallingPointModel" (33 : Nat) ({ cls := "SignallingPointModel", name := "within", desc := "(III)Z" } : MethodName) ∈ WL := List.mem_filter.mpr ⟨List.mem_append_right _ (List.mem_of_getElem? (i := 490) (by decide +kernel)), by decide +kernel⟩
theorem qw491 : Cond.static ({ cls := "SignallingPointModel", name := "within", desc := "(III)Z" } : MethodName) ∈ WL := List.mem_filter.mpr ⟨List.mem_append_right _ (List.mem_of_getElem? (i := 491) (by decide +kernel)), by decide +kernel⟩
theorem qw492 : Cond.code ({ cls := "SignallingPointModel", name := "within", desc := "(III)Z" } : MethodName) prog_5_method_3_code (3 : Nat) (Option.some Jvm.ClassFile.FieldType.boolean) ∈ WL := List.mem_filter.mpr ⟨List.mem_append_right _ (List.mem_of_getElem? (i := 492) (by decide +kernel)), by decide +kernel⟩
theorem qw493 : Cond.methodLink "SignallingPointModel" (57 : Nat) ({ cls := "SignallingPointModel", name := "saves", desc := "()V" } : MethodName) ∈ WL := List.mem_filter.mpr ⟨List.mem_append_right _ (List.mem_of_getElem? (i := 493) (by decide +kernel)), by decide +kernel⟩
theorem qw495 : Cond.instanceMethod ({ cls := "SignallingPointModel", name := "saves", desc := "()V" } : MethodName) ∈ WL := List.mem_filter.mpr ⟨List.mem_append_right _ (List.mem_of_getElem? (i := 495) (by decide +kernel)), by decide +kernel⟩
theorem qw496 : Cond.code ({ cls := "SignallingPointModel", name := "saves", desc := "()V" } : MethodName) prog_5_method_5_code (2 : Nat) (Option.none : Option Jvm.ClassFile.FieldType) ∈ WL := List.mem_filter.mpr ⟨List.mem_append_right _ (List.mem_of_getElem? (i := 496) (by decide +kernel)), by decide +kernel⟩
theorem qw497 : Cond.methodLink "SignallingPointLaw" (22 : Nat) ({ cls := "SignallingPointModel", name := "failLink", desc := "(II)I" } : MethodName) ∈ WL := List.mem_filter.mpr ⟨List.mem_append_right _ (List.mem_of_getElem? (i := 497) (by decide +kernel)), by decide +kernel⟩
theorem qw498 : Cond.instanceMethod ({ cls := "SignallingPointModel", name := "failLink", desc := "(II)I" } : MethodName) ∈ WL := List.mem_filter.mpr ⟨List.mem_append_right _ (List.mem_of_getElem? (i := 498) (by decide +kernel)), by decide +kernel⟩
theorem qw499 : Cond.selects "SignallingPointModel" ({ cls := "SignallingPointModel", name := "failLink", desc := "(II)I" } : MethodName) ({ cls := "SignallingPointModel", name := "failLink", desc := "(II)I" } : MethodName) ∈ WL := List.mem_filter.mpr ⟨List.mem_append_right _ (List.mem_of_getElem? (i := 499) (by decide +kernel)), by decide +kernel⟩
theorem qw500 : Cond.code ({ cls := "SignallingPointModel", name := "failLink", desc := "(II)I" } : MethodName) prog_5_method_19_code (6 : Nat) (Option.some Jvm.ClassFile.FieldType.int) ∈ WL := List.mem_filter.mpr ⟨List.mem_append_right _ (List.mem_of_getElem? (i := 500) (by decide +kernel)), by decide +kernel⟩
theorem qw501 : Cond.methodLink "SignallingPointModel" (60 : Nat) ({ cls := "SignallingPointModel", name := "isLink", desc := "(II)Z" } : MethodName) ∈ WL := List.mem_filter.mpr ⟨List.mem_append_right _ (List.mem_of_getElem? (i := 501) (by decide +kernel)), by decide +kernel⟩
theorem qw503 : Cond.instanceMethod ({ cls := "SignallingPointModel", name := "isLink", desc := "(II)Z" } : MethodName) ∈ WL := List.mem_filter.mpr ⟨List.mem_append_right _ (List.mem_of_getElem? (i := 503) (by decide +kernel)), by decide +kernel⟩
theorem qw504 : Cond.code ({ cls := "SignallingPointModel", name := "isLink", desc := "(II)Z" } : MethodName) prog_5_method_8_code (3 : Nat) (Option.some Jvm.ClassFile.FieldType.boolean) ∈ WL := List.mem_filter.mpr ⟨List.mem_append_right _ (List.mem_of_getElem? (i := 504) (by decide +kernel)), by decide +kernel⟩
theorem qw505 : Cond.methodLink "SignallingPointModel" (37 : Nat) ({ cls := "SignallingPointModel", name := "isSet", desc := "(I)Z" } : MethodName) ∈ WL := List.mem_filter.mpr ⟨List.mem_append_right _ (List.mem_of_getElem? (i := 505) (by decide +kernel)), by decide +kernel⟩
theorem qw507 : Cond.instanceMethod ({ cls := "SignallingPointModel", name := "isSet", desc := "(I)Z" } : MethodName) ∈ WL := List.mem_filter.mpr ⟨List.mem_append_right _ (List.mem_of_getElem? (i := 507) (by decide +kernel)), by decide +kernel⟩
theorem qw508 : Cond.code ({ cls := "SignallingPointModel", name := "isSet", desc := "(I)Z" } : MethodName) prog_5_method_7_code (2 : Nat) (Option.some Jvm.ClassFile.FieldType.boolean) ∈ WL := List.mem_filter.mpr ⟨List.mem_append_right _ (List.mem_of_getElem? (i := 508) (by decide +kernel)), by decide +kernel⟩
theorem qw509 : Cond.methodLink "SignallingPointModel" (63 : Nat) ({ cls := "SignallingPointModel", name := "dispatches", desc := "(I)V" } : MethodName) ∈ WL := List.mem_filter.mpr ⟨List.mem_append_right _ (List.mem_of_getElem? (i := 509) (by decide +kernel)), by decide +kernel⟩
theorem qw511 : Cond.instanceMethod ({ cls := "SignallingPointModel", name := "dispatches", desc := "(I)V" } : MethodName) ∈ WL := List.mem_filter.mpr ⟨List.mem_append_right _ (List.mem_of_getElem? (i := 511) (by decide +kernel)), by decide +kernel⟩
theorem qw512 : Cond.code ({ cls := "SignallingPointModel", name := "dispatches", desc := "(I)V" } : MethodName) prog_5_method_16_code (3 : Nat) (Option.none : Option Jvm.ClassFile.FieldType) ∈ WL := List.mem_filter.mpr ⟨List.mem_append_right _ (List.mem_of_getElem? (i := 512) (by decide +kernel)), by decide +kernel⟩
theorem qw513 : Cond.methodLink "SignallingPointModel" (54 : Nat) ({ cls := "SignallingPointModel", name := "linkOf", desc := "(I)I" } : MethodName) ∈ WL := List.mem_filter.mpr ⟨List.mem_append_right _ (List.mem_of_getElem? (i := 513) (by decide +kernel)), by decide +kernel⟩
theorem qw515 : Cond.instanceMethod ({ cls := "SignallingPointModel", name := "linkOf", desc := "(I)I" } : MethodName) ∈ WL := List.mem_filter.mpr ⟨List.mem_append_right _ (List.mem_of_getElem? (i := 515) (by decide +kernel)), by decide +kernel⟩
theorem qw516 : Cond.code ({ cls := "SignallingPointModel", name := "linkOf", desc := "(I)I" } : MethodName) prog_5_method_13_code (7 : Nat) (Option.some Jvm.ClassFile.FieldType.int) ∈ WL := List.mem_filter.mpr ⟨List.mem_append_right _ (List.mem_of_getElem? (i := 516) (by decide +kernel)), by decide +kernel⟩
theorem qw517 : Cond.methodLink "SignallingPointModel" (48 : Nat) ({ cls := "SignallingPointModel", name := "routesOf", desc := "(I)I" } : MethodName) ∈ WL := List.mem_filter.mpr ⟨List.mem_append_right _ (List.mem_of_getElem? (i := 517) (by decide +kernel)), by decide +kernel⟩
theorem qw519 : Cond.instanceMethod ({ cls := "SignallingPointModel", name := "routesOf", desc := "(I)I" } : MethodName) ∈ WL := List.mem_filter.mpr ⟨List.mem_append_right _ (List.mem_of_getElem? (i := 519) (by decide +kernel)), by decide +kernel⟩
theorem qw520 : Cond.code ({ cls := "SignallingPointModel", name := "routesOf", desc := "(I)I" } : MethodName) prog_5_method_11_code (6 : Nat) (Option.some Jvm.ClassFile.FieldType.int) ∈ WL := List.mem_filter.mpr ⟨List.mem_append_right _ (List.mem_of_getElem? (i := 520) (by decide +kernel)), by decide +kernel⟩
theorem qw521 : Cond.methodLink "SignallingPointModel" (44 : Nat) ({ cls := "SignallingPointModel", name := "isUsable", desc := "(II)Z" } : MethodName) ∈ WL := List.mem_filter.mpr ⟨List.mem_append_right _ (List.mem_of_getElem? (i := 521) (by decide +kernel)), by decide +kernel⟩
theorem qw523 : Cond.instanceMethod ({ cls := "SignallingPointModel", name := "isUsable", desc := "(II)Z" } : MethodName) ∈ WL := List.mem_filter.mpr ⟨List.mem_append_right _ (List.mem_of_getElem? (i := 523) (by decide +kernel)), by decide +kernel⟩
theorem qw524 : Cond.code ({ cls := "SignallingPointModel", name := "isUsable", desc := "(II)Z" } : MethodName) prog_5_method_10_code (4 : Nat) (Option.some Jvm.ClassFile.FieldType.boolean) ∈ WL := List.mem_filter.mpr ⟨List.mem_append_right _ (List.mem_of_getElem? (i := 524) (by decide +kernel)), by decide +kernel⟩
theorem qw525 : Cond.methodLink "SignallingPointModel" (41 : Nat) ({ cls := "SignallingPointModel", name := "activeOf", desc := "(I)I" } : MethodName) ∈ WL := List.mem_filter.mpr ⟨List.mem_append_right _ (List.mem_of_getElem? (i := 525) (by decide +kernel)), by decide +kernel⟩
theorem qw527 : Cond.instanceMethod ({ cls := "SignallingPointModel", name := "activeOf", desc := "(I)I" } : MethodName) ∈ WL := List.mem_filter.mpr ⟨List.mem_append_right _ (List.mem_of_getElem? (i := 527) (by decide +kernel)), by decide +kernel⟩
theorem qw528 : Cond.code ({ cls := "SignallingPointModel", name := "activeOf", desc := "(I)I" } : MethodName) prog_5_method_9_code (4 : Nat) (Option.some Jvm.ClassFile.FieldType.int) ∈ WL := List.mem_filter.mpr ⟨List.mem_append_right _ (List.mem_of_getElem? (i := 528) (by decide +kernel)), by decide +kernel⟩
theorem qw529 : Cond.methodLink "SignallingPointModel" (51 : Nat) ({ cls := "SignallingPointModel", name := "bits", desc := "(I)I" } : MethodName) ∈ WL := List.mem_filter.mpr ⟨List.mem_append_right _ (List.mem_of_getElem? (i := 529) (by decide +kernel)), by decide +kernel⟩
theorem qw530 : Cond.static ({ cls := "SignallingPointModel", name := "bits", desc := "(I)I" } : MethodName) ∈ WL := List.mem_filter.mpr ⟨List.mem_append_right _ (List.mem_of_getElem? (i := 530) (by decide +kernel)), by decide +kernel⟩
theorem qw531 : Cond.code ({ cls := "SignallingPointModel", name := "bits", desc := "(I)I" } : MethodName) prog_5_method_12_code (3 : Nat) (Option.some Jvm.ClassFile.FieldType.int) ∈ WL := List.mem_filter.mpr ⟨List.mem_append_right _ (List.mem_of_getElem? (i := 531) (by decide +kernel)), by decide +kernel⟩
theorem qw532 : Cond.methodLink "SignallingPointLaw" (26 : Nat) ({ cls := "SignallingPointModel", name := "restoreLink", desc := "(II)I" } : MethodName) ∈ WL := List.mem_filter.mpr ⟨List.mem_append_right _ (List.mem_of_getElem? (i := 532) (by decide +kernel)), by decide +kernel⟩
theorem qw533 : Cond.instanceMethod ({ cls := "SignallingPointModel", name := "restoreLink", desc := "(II)I" } : MethodName) ∈ WL := List.mem_filter.mpr ⟨List.mem_append_right _ (List.mem_of_getElem? (i := 533) (by decide +kernel)), by decide +kernel⟩
theorem qw534 : Cond.selects "SignallingPointModel" ({ cls := "SignallingPointModel", name := "restoreLink", desc := "(II)I" } : MethodName) ({ cls := "SignallingPointModel", name := "restoreLink", desc := "(II)I" } : MethodName) ∈ WL := List.mem_filter.mpr ⟨List.mem_append_right _ (List.mem_of_getElem? (i := 534) (by decide +kernel)), by decide +kernel⟩
theorem qw535 : Cond.code ({ cls := "SignallingPointModel", name := "restoreLink", desc := "(II)I" } : MethodName) prog_5_method_20_code (3 : Nat) (Option.some Jvm.ClassFile.FieldType.int) ∈ WL := List.mem_filter.mpr ⟨List.mem_append_right _ (List.mem_of_getElem? (i := 535) (by decide +kernel)), by decide +kernel⟩
theorem qw536 : Cond.methodLink "SignallingPointModel" (67 : Nat) ({ cls := "SignallingPointModel", name := "laysBefore", desc := "()V" } : MethodName) ∈ WL := List.mem_filter.mpr ⟨List.mem_append_right _ (List.mem_of_getElem? (i := 536) (by decide +kernel)), by decide +kernel⟩
theorem qw538 : Cond.instanceMethod ({ cls := "SignallingPointModel", name := "laysBefore", desc := "()V" } : MethodName) ∈ WL := List.mem_filter.mpr ⟨List.mem_append_right _ (List.mem_of_getElem? (i := 538) (by decide +kernel)), by decide +kernel⟩
theorem qw539 : Cond.code ({ cls := "SignallingPointModel", name := "laysBefore", desc := "()V" } : MethodName) prog_5_method_14_code (2 : Nat) (Option.none : Option Jvm.ClassFile.FieldType) ∈ WL := List.mem_filter.mpr ⟨List.mem_append_right _ (List.mem_of_getElem? (i := 539) (by decide +kernel)), by decide +kernel⟩
theorem qw540 : Cond.methodLink "SignallingPointModel" (70 : Nat) ({ cls := "SignallingPointModel", name := "diverts", desc := "()I" } : MethodName) ∈ WL := List.mem_filter.mpr ⟨List.mem_append_right _ (List.mem_of_getElem? (i := 540) (by decide +kernel)), by decide +kernel⟩
theorem qw542 : Cond.instanceMethod ({ cls := "SignallingPointModel", name := "diverts", desc := "()I" } : MethodName) ∈ WL := List.mem_filter.mpr ⟨List.mem_append_right _ (List.mem_of_getElem? (i := 542) (by decide +kernel)), by decide +kernel⟩
theorem qw543 : Cond.code ({ cls := "SignallingPointModel", name := "diverts", desc := "()I" } : MethodName) prog_5_method_15_code (4 : Nat) (Option.some Jvm.ClassFile.FieldType.int) ∈ WL := List.mem_filter.mpr ⟨List.mem_append_right _ (List.mem_of_getElem? (i := 543) (by decide +kernel)), by decide +kernel⟩
theorem qw544 : Cond.methodLink "SignallingPointLaw" (31 : Nat) ({ cls := "SignallingPointModel", name := "acknowledge", desc := "(III)I" } : MethodName) ∈ WL := List.mem_filter.mpr ⟨List.mem_append_right _ (List.mem_of_getElem? (i := 544) (by decide +kernel)), by decide +kernel⟩
theorem qw545 : Cond.instanceMethod ({ cls := "SignallingPointModel", name := "acknowledge", desc := "(III)I" } : MethodName) ∈ WL := List.mem_filter.mpr ⟨List.mem_append_right _ (List.mem_of_getElem? (i := 545) (by decide +kernel)), by decide +kernel⟩
theorem qw546 : Cond.selects "SignallingPointModel" ({ cls := "SignallingPointModel", name := "acknowledge", desc := "(III)I" } : MethodName) ({ cls := "SignallingPointModel", name := "acknowledge", desc := "(III)I" } : MethodName) ∈ WL := List.mem_filter.mpr ⟨List.mem_append_right _ (List.mem_of_getElem? (i := 546) (by decide +kernel)), by decide +kernel⟩
theorem qw547 : Cond.code ({ cls := "SignallingPointModel", name := "acknowledge", desc := "(III)I" } : MethodName) prog_5_method_22_code (8 : Nat) (Option.some Jvm.ClassFile.FieldType.int) ∈ WL := List.mem_filter.mpr ⟨List.mem_append_right _ (List.mem_of_getElem? (i := 547) (by decide +kernel)), by decide +kernel⟩
theorem qw548 : Cond.methodLink "SignallingPointModel" (74 : Nat) ({ cls := "SignallingPointModel", name := "delivers", desc := "(I)V" } : MethodName) ∈ WL := List.mem_filter.mpr ⟨List.mem_append_right _ (List.mem_of_getElem? (i := 548) (by decide +kernel)), by decide +kernel⟩
theorem qw550 : Cond.instanceMethod ({ cls := "SignallingPointModel", name := "delivers", desc := "(I)V" } : MethodName) ∈ WL := List.mem_filter.mpr ⟨List.mem_append_right _ (List.mem_of_getElem? (i := 550) (by decide +kernel)), by decide +kernel⟩
theorem qw551 : Cond.code ({ cls := "SignallingPointModel", name := "delivers", desc := "(I)V" } : MethodName) prog_5_method_21_code (3 : Nat) (Option.none : Option Jvm.ClassFile.FieldType) ∈ WL := List.mem_filter.mpr ⟨List.mem_append_right _ (List.mem_of_getElem? (i := 551) (by decide +kernel)), by decide +kernel⟩
theorem qw552 : Cond.methodLink "SignallingPointLaw" (35 : Nat) ({ cls := "SignallingPointModel", name := "queueLength", desc := "(II)I" } : MethodName) ∈ WL := List.mem_filter.mpr ⟨List.mem_append_right _ (List.mem_of_getElem? (i := 552) (by decide +kernel)), by decide +kernel⟩
theorem qw553 : Cond.instanceMethod ({ cls := "SignallingPointModel", name := "queueLength", desc := "(II)I" } : MethodName) ∈ WL := List.mem_filter.mpr ⟨List.mem_append_right _ (List.mem_of_getElem? (i := 553) (by decide +kernel)), by decide +kernel⟩
theorem qw554 : Cond.selects "SignallingPointModel" ({ cls := "SignallingPointModel", name := "queueLength", desc := "(II)I" } : MethodName) ({ cls := "SignallingPointModel", name := "queueLength", desc := "(II)I" } : MethodName) ∈ WL := List.mem_filter.mpr ⟨List.mem_append_right _ (List.mem_of_getElem? (i := 554) (by decide +kernel)), by decide +kernel⟩
theorem qw555 : Cond.code ({ cls := "SignallingPointModel", name := "queueLength", desc := "(II)I" } : MethodName) prog_5_method_23_code (3 : Nat) (Option.some Jvm.ClassFile.FieldType.int) ∈ WL := List.mem_filter.mpr ⟨List.mem_append_right _ (List.mem_of_getElem? (i := 555) (by decide +kernel)), by decide +kernel⟩
theorem qw556 : Cond.methodLink "SignallingPointLaw" (39 : Nat) ({ cls := "SignallingPointModel", name := "queued", desc := "(III)I" } : MethodName) ∈ WL := List.mem_filter.mpr ⟨List.mem_append_right _ (List.mem_of_getElem? (i := 556) (by decide +kernel)), by decide +kernel⟩
theorem qw557 : Cond.instanceMethod ({ cls := "SignallingPointModel", name := "queued", desc := "(III)I" } : MethodName) ∈ WL := List.mem_filter.mpr ⟨List.mem_append_right _ (List.mem_of_getElem? (i := 557) (by decide +kernel)), by decide +kernel⟩
theorem qw558 : Cond.selects "SignallingPointModel" ({ cls := "SignallingPointModel", name := "queued", desc := "(III)I" } : MethodName) ({ cls := "SignallingPointModel", name := "queued", desc := "(III)I" } : MethodName) ∈ WL := List.mem_filter.mpr ⟨List.mem_append_right _ (List.mem_of_getElem? (i := 558) (by decide +kernel)), by decide +kernel⟩
theorem qw559 : Cond.code ({ cls := "SignallingPointModel", name := "queued", desc := "(III)I" } : MethodName) prog_5_method_24_code (5 : Nat) (Option.some Jvm.ClassFile.FieldType.int) ∈ WL := List.mem_filter.mpr ⟨List.mem_append_right _ (List.mem_of_getElem? (i := 559) (by decide +kernel)), by decide +kernel⟩
theorem qw560 : Cond.methodLink "SignallingPointLaw" (43 : Nat) ({ cls := "SignallingPointModel", name := "congestion", desc := "(II)I" } : MethodName) ∈ WL := List.mem_filter.mpr ⟨List.mem_append_right _ (List.mem_of_getElem? (i := 560) (by decide +kernel)), by decide +kernel⟩
theorem qw561 : Cond.instanceMethod ({ cls := "SignallingPointModel", name := "congestion", desc := "(II)I" } : MethodName) ∈ WL := List.mem_filter.mpr ⟨List.mem_append_right _ (List.mem_of_getElem? (i := 561) (by decide +kernel)), by decide +kernel⟩
theorem qw562 : Cond.selects "SignallingPointModel" ({ cls := "SignallingPointModel", name := "congestion", desc := "(II)I" } : MethodName) ({ cls := "SignallingPointModel", name := "congestion", desc := "(II)I" } : MethodName) ∈ WL := List.mem_filter.mpr ⟨List.mem_append_right _ (List.mem_of_getElem? (i := 562) (by decide +kernel)), by decide +kernel⟩
theorem qw563 : Cond.code ({ cls := "SignallingPointModel", name := "congestion", desc := "(II)I" } : MethodName) prog_5_method_25_code (3 : Nat) (Option.some Jvm.ClassFile.FieldType.int) ∈ WL := List.mem_filter.mpr ⟨List.mem_append_right _ (List.mem_of_getElem? (i := 563) (by decide +kernel)), by decide +kernel⟩
theorem qw564 : Cond.methodLink "SignallingPointModel" (77 : Nat) ({ cls := "SignallingPointModel", name := "levelOf", desc := "(I)I" } : MethodName) ∈ WL := List.mem_filter.mpr ⟨List.mem_append_right _ (List.mem_of_getElem? (i := 564) (by decide +kernel)), by decide +kernel⟩
theorem qw566 : Cond.instanceMethod ({ cls := "SignallingPointModel", name := "levelOf", desc := "(I)I" } : MethodName) ∈ WL := List.mem_filter.mpr ⟨List.mem_append_right _ (List.mem_of_getElem? (i := 566) (by decide +kernel)), by decide +kernel⟩
theorem qw567 : Cond.code ({ cls := "SignallingPointModel", name := "levelOf", desc := "(I)I" } : MethodName) prog_5_method_17_code (3 : Nat) (Option.some Jvm.ClassFile.FieldType.int) ∈ WL := List.mem_filter.mpr ⟨List.mem_append_right _ (List.mem_of_getElem? (i := 567) (by decide +kernel)), by decide +kernel⟩
theorem qw568 : Cond.methodLink "SignallingPointLaw" (47 : Nat) ({ cls := "SignallingPointModel", name := "isActive", desc := "(II)I" } : MethodName) ∈ WL := List.mem_filter.mpr ⟨List.mem_append_right _ (List.mem_of_getElem? (i := 568) (by decide +kernel)), by decide +kernel⟩
theorem qw569 : Cond.instanceMethod ({ cls := "SignallingPointModel", name := "isActive", desc := "(II)I" } : MethodName) ∈ WL := List.mem_filter.mpr ⟨List.mem_append_right _ (List.mem_of_getElem? (i := 569) (by decide +kernel)), by decide +kernel⟩
theorem qw570 : Cond.selects "SignallingPointModel" ({ cls := "SignallingPointModel", name := "isActive", desc := "(II)I" } : MethodName) ({ cls := "SignallingPointModel", name := "isActive", desc := "(II)I" } : MethodName) ∈ WL := List.mem_filter.mpr ⟨List.mem_append_right _ (List.mem_of_getElem? (i := 570) (by decide +kernel)), by decide +kernel⟩
theorem qw571 : Cond.code ({ cls := "SignallingPointModel", name := "isActive", desc := "(II)I" } : MethodName) prog_5_method_26_code (3 : Nat) (Option.some Jvm.ClassFile.FieldType.int) ∈ WL := List.mem_filter.mpr ⟨List.mem_append_right _ (List.mem_of_getElem? (i := 571) (by decide +kernel)), by decide +kernel⟩
theorem qw572 : Cond.methodLink "SignallingPointLaw" (51 : Nat) ({ cls := "SignallingPointModel", name := "addRoute", desc := "(III)I" } : MethodName) ∈ WL := List.mem_filter.mpr ⟨List.mem_append_right _ (List.mem_of_getElem? (i := 572) (by decide +kernel)), by decide +kernel⟩
theorem qw573 : Cond.instanceMethod ({ cls := "SignallingPointModel", name := "addRoute", desc := "(III)I" } : MethodName) ∈ WL := List.mem_filter.mpr ⟨List.mem_append_right _ (List.mem_of_getElem? (i := 573) (by decide +kernel)), by decide +kernel⟩
theorem qw574 : Cond.selects "SignallingPointModel" ({ cls := "SignallingPointModel", name := "addRoute", desc := "(III)I" } : MethodName) ({ cls := "SignallingPointModel", name := "addRoute", desc := "(III)I" } : MethodName) ∈ WL := List.mem_filter.mpr ⟨List.mem_append_right _ (List.mem_of_getElem? (i := 574) (by decide +kernel)), by decide +kernel⟩
theorem qw575 : Cond.code ({ cls := "SignallingPointModel", name := "addRoute", desc := "(III)I" } : MethodName) prog_5_method_28_code (5 : Nat) (Option.some Jvm.ClassFile.FieldType.int) ∈ WL := List.mem_filter.mpr ⟨List.mem_append_right _ (List.mem_of_getElem? (i := 575) (by decide +kernel)), by decide +kernel⟩
theorem qw576 : Cond.methodLink "SignallingPointModel" (80 : Nat) ({ cls := "SignallingPointModel", name := "isDestination", desc := "(I)Z" } : MethodName) ∈ WL := List.mem_filter.mpr ⟨List.mem_append_right _ (List.mem_of_getElem? (i := 576) (by decide +kernel)), by decide +kernel⟩
theorem qw577 : Cond.static ({ cls := "SignallingPointModel", name := "isDestination", desc := "(I)Z" } : MethodName) ∈ WL := List.mem_filter.mpr ⟨List.mem_append_right _ (List.mem_of_getElem? (i := 577) (by decide +kernel)), by decide +kernel⟩
theorem qw578 : Cond.code ({ cls := "SignallingPointModel", name := "isDestination", desc := "(I)Z" } : MethodName) prog_5_method_27_code (1 : Nat) (Option.some Jvm.ClassFile.FieldType.boolean) ∈ WL := List.mem_filter.mpr ⟨List.mem_append_right _ (List.mem_of_getElem? (i := 578) (by decide +kernel)), by decide +kernel⟩
theorem qw579 : Cond.methodLink "SignallingPointLaw" (55 : Nat) ({ cls := "SignallingPointModel", name := "removeRoute", desc := "(II)I" } : MethodName) ∈ WL := List.mem_filter.mpr ⟨List.mem_append_right _ (List.mem_of_getElem? (i := 579) (by decide +kernel)), by decide +kernel⟩
theorem qw580 : Cond.instanceMethod ({ cls := "SignallingPointModel", name := "removeRoute", desc := "(II)I" } : MethodName) ∈ WL := List.mem_filter.mpr ⟨List.mem_append_right _ (List.mem_of_getElem? (i := 580) (by decide +kernel)), by decide +kernel⟩
theorem qw581 : Cond.selects "SignallingPointModel" ({ cls := "SignallingPointModel", name := "removeRoute", desc := "(II)I" } : MethodName) ({ cls := "SignallingPointModel", name := "removeRoute", desc := "(II)I" } : MethodName) ∈ WL := List.mem_filter.mpr ⟨List.mem_append_right _ (List.mem_of_getElem? (i := 581) (by decide +kernel)), by decide +kernel⟩
theorem qw582 : Cond.code ({ cls := "SignallingPointModel", name := "removeRoute", desc := "(II)I" } : MethodName) prog_5_method_29_code (5 : Nat) (Option.some Jvm.ClassFile.FieldType.int) ∈ WL := List.mem_filter.mpr ⟨List.mem_append_right _ (List.mem_of_getElem? (i := 582) (by decide +kernel)), by decide +kernel⟩
theorem qw583 : Cond.methodLink "SignallingPointLaw" (59 : Nat) ({ cls := "SignallingPointModel", name := "setRouteState", desc := "(III)I" } : MethodName) ∈ WL := List.mem_filter.mpr ⟨List.mem_append_right _ (List.mem_of_getElem? (i := 583) (by decide +kernel)), by decide +kernel⟩
theorem qw584 : Cond.instanceMethod ({ cls := "SignallingPointModel", name := "setRouteState", desc := "(III)I" } : MethodName) ∈ WL := List.mem_filter.mpr ⟨List.mem_append_right _ (List.mem_of_getElem? (i := 584) (by decide +kernel)), by decide +kernel⟩
theorem qw585 : Cond.selects "SignallingPointModel" ({ cls := "SignallingPointModel", name := "setRouteState", desc := "(III)I" } : MethodName) ({ cls := "SignallingPointModel", name := "setRouteState", desc := "(III)I" } : MethodName) ∈ WL := List.mem_filter.mpr ⟨List.mem_append_right _ (List.mem_of_getElem? (i := 585) (by decide +kernel)), by decide +kernel⟩
theorem qw586 : Cond.code ({ cls := "SignallingPointModel", name := "setRouteState", desc := "(III)I" } : MethodName) prog_5_method_30_code (6 : Nat) (Option.some Jvm.ClassFile.FieldType.int) ∈ WL := List.mem_filter.mpr ⟨List.mem_append_right _ (List.mem_of_getElem? (i := 586) (by decide +kernel)), by decide +kernel⟩
theorem qw587 : Cond.methodLink "SignallingPointLaw" (63 : Nat) ({ cls := "SignallingPointModel", name := "routeState", desc := "(II)I" } : MethodName) ∈ WL := List.mem_filter.mpr ⟨List.mem_append_right _ (List.mem_of_getElem? (i := 587) (by decide +kernel)), by decide +kernel⟩
theorem qw588 : Cond.instanceMethod ({ cls := "SignallingPointModel", name := "routeState", desc := "(II)I" } : MethodName) ∈ WL := List.mem_filter.mpr ⟨List.mem_append_right _ (List.mem_of_getElem? (i := 588) (by decide +kernel)), by decide +kernel⟩
theorem qw589 : Cond.selects "SignallingPointModel" ({ cls := "SignallingPointModel", name := "routeState", desc := "(II)I" } : MethodName) ({ cls := "SignallingPointModel", name := "routeState", desc := "(II)I" } : MethodName) ∈ WL := List.mem_filter.mpr ⟨List.mem_append_right _ (List.mem_of_getElem? (i := 589) (by decide +kernel)), by decide +kernel⟩
theorem qw590 : Cond.code ({ cls := "SignallingPointModel", name := "routeState", desc := "(II)I" } : MethodName) prog_5_method_31_code (3 : Nat) (Option.some Jvm.ClassFile.FieldType.int) ∈ WL := List.mem_filter.mpr ⟨List.mem_append_right _ (List.mem_of_getElem? (i := 590) (by decide +kernel)), by decide +kernel⟩
theorem qw591 : Cond.methodLink "SignallingPointLaw" (67 : Nat) ({ cls := "SignallingPointModel", name := "currentRoutes", desc := "(I)I" } : MethodName) ∈ WL := List.mem_filter.mpr ⟨List.mem_append_right _ (List.mem_of_getElem? (i := 591) (by decide +kernel)), by decide +kernel⟩
theorem qw592 : Cond.instanceMethod ({ cls := "SignallingPointModel", name := "currentRoutes", desc := "(I)I" } : MethodName) ∈ WL := List.mem_filter.mpr ⟨List.mem_append_right _ (List.mem_of_getElem? (i := 592) (by decide +kernel)), by decide +kernel⟩
theorem qw593 : Cond.selects "SignallingPointModel" ({ cls := "SignallingPointModel", name := "currentRoutes", desc := "(I)I" } : MethodName) ({ cls := "SignallingPointModel", name := "currentRoutes", desc := "(I)I" } : MethodName) ∈ WL := List.mem_filter.mpr ⟨List.mem_append_right _ (List.mem_of_getElem? (i := 593) (by decide +kernel)), by decide +kernel⟩
theorem qw594 : Cond.code ({ cls := "SignallingPointModel", name := "currentRoutes", desc := "(I)I" } : MethodName) prog_5_method_32_code (2 : Nat) (Option.some Jvm.ClassFile.FieldType.int) ∈ WL := List.mem_filter.mpr ⟨List.mem_append_right _ (List.mem_of_getElem? (i := 594) (by decide +kernel)), by decide +kernel⟩
theorem qw595 : Cond.methodLink "SignallingPointLaw" (71 : Nat) ({ cls := "SignallingPointModel", name := "currentLink", desc := "(II)I" } : MethodName) ∈ WL := List.mem_filter.mpr ⟨List.mem_append_right _ (List.mem_of_getElem? (i := 595) (by decide +kernel)), by decide +kernel⟩
theorem qw596 : Cond.instanceMethod ({ cls := "SignallingPointModel", name := "currentLink", desc := "(II)I" } : MethodName) ∈ WL := List.mem_filter.mpr ⟨List.mem_append_right _ (List.mem_of_getElem? (i := 596) (by decide +kernel)), by decide +kernel⟩
theorem qw597 : Cond.selects "SignallingPointModel" ({ cls := "SignallingPointModel", name := "currentLink", desc := "(II)I" } : MethodName) ({ cls := "SignallingPointModel", name := "currentLink", desc := "(II)I" } : MethodName) ∈ WL := List.mem_filter.mpr ⟨List.mem_append_right _ (List.mem_of_getElem? (i := 597) (by decide +kernel)), by decide +kernel⟩
theorem qw598 : Cond.code ({ cls := "SignallingPointModel", name := "currentLink", desc := "(II)I" } : MethodName) prog_5_method_34_code (3 : Nat) (Option.some Jvm.ClassFile.FieldType.int) ∈ WL := List.mem_filter.mpr ⟨List.mem_append_right _ (List.mem_of_getElem? (i := 598) (by decide +kernel)), by decide +kernel⟩
theorem qw599 : Cond.methodLink "SignallingPointModel" (83 : Nat) ({ cls := "SignallingPointModel", name := "isStream", desc := "(II)Z" } : MethodName) ∈ WL := List.mem_filter.mpr ⟨List.mem_append_right _ (List.mem_of_getElem? (i := 599) (by decide +kernel)), by decide +kernel⟩
theorem qw600 : Cond.static ({ cls := "SignallingPointModel", name := "isStream", desc := "(II)Z" } : MethodName) ∈ WL := List.mem_filter.mpr ⟨List.mem_append_right _ (List.mem_of_getElem? (i := 600) (by decide +kernel)), by decide +kernel⟩
theorem qw601 : Cond.code ({ cls := "SignallingPointModel", name := "isStream", desc := "(II)Z" } : MethodName) prog_5_method_33_code (2 : Nat) (Option.some Jvm.ClassFile.FieldType.boolean) ∈ WL := List.mem_filter.mpr ⟨List.mem_append_right _ (List.mem_of_getElem? (i := 601) (by decide +kernel)), by decide +kernel⟩
theorem qw602 : Cond.methodLink "SignallingPointLaw" (75 : Nat) ({ cls := "SignallingPointModel", name := "send", desc := "(III)I" } : MethodName) ∈ WL := List.mem_filter.mpr ⟨List.mem_append_right _ (List.mem_of_getElem? (i := 602) (by decide +kernel)), by decide +kernel⟩
theorem qw603 : Cond.instanceMethod ({ cls := "SignallingPointModel", name := "send", desc := "(III)I" } : MethodName) ∈ WL := List.mem_filter.mpr ⟨List.mem_append_right _ (List.mem_of_getElem? (i := 603) (by decide +kernel)), by decide +kernel⟩
theorem qw604 : Cond.selects "SignallingPointModel" ({ cls := "SignallingPointModel", name := "send", desc := "(III)I" } : MethodName) ({ cls := "SignallingPointModel", name := "send", desc := "(III)I" } : MethodName) ∈ WL := List.mem_filter.mpr ⟨List.mem_append_right _ (List.mem_of_getElem? (i := 604) (by decide +kernel)), by decide +kernel⟩
theorem qw605 : Cond.code ({ cls := "SignallingPointModel", name := "send", desc := "(III)I" } : MethodName) prog_5_method_36_code (6 : Nat) (Option.some Jvm.ClassFile.FieldType.int) ∈ WL := List.mem_filter.mpr ⟨List.mem_append_right _ (List.mem_of_getElem? (i := 605) (by decide +kernel)), by decide +kernel⟩
theorem qw606 : Cond.methodLink "SignallingPointModel" (86 : Nat) ({ cls := "SignallingPointModel", name := "isCongested", desc := "(II)Z" } : MethodName) ∈ WL := List.mem_filter.mpr ⟨List.mem_append_right _ (List.mem_of_getElem? (i := 606) (by decide +kernel)), by decide +kernel⟩
theorem qw608 : Cond.instanceMethod ({ cls := "SignallingPointModel", name := "isCongested", desc := "(II)Z" } : MethodName) ∈ WL := List.mem_filter.mpr ⟨List.mem_append_right _ (List.mem_of_getElem? (i := 608) (by decide +kernel)), by decide +kernel⟩
theorem qw609 : Cond.code ({ cls := "SignallingPointModel", name := "isCongested", desc := "(II)Z" } : MethodName) prog_5_method_35_code (4 : Nat) (Option.some Jvm.ClassFile.FieldType.boolean) ∈ WL := List.mem_filter.mpr ⟨List.mem_append_right _ (List.mem_of_getElem? (i := 609) (by decide +kernel)), by decide +kernel⟩
theorem qw610 : Cond.methodLink "SignallingPointLaw" (79 : Nat) ({ cls := "SignallingPointModel", name := "setHoldTime", desc := "(I)I" } : MethodName) ∈ WL := List.mem_filter.mpr ⟨List.mem_append_right _ (List.mem_of_getElem? (i := 610) (by decide +kernel)), by decide +kernel⟩
theorem qw611 : Cond.instanceMethod ({ cls := "SignallingPointModel", name := "setHoldTime", desc := "(I)I" } : MethodName) ∈ WL := List.mem_filter.mpr ⟨List.mem_append_right _ (List.mem_of_getElem? (i := 611) (by decide +kernel)), by decide +kernel⟩
theorem qw612 : Cond.selects "SignallingPointModel" ({ cls := "SignallingPointModel", name := "setHoldTime", desc := "(I)I" } : MethodName) ({ cls := "SignallingPointModel", name := "setHoldTime", desc := "(I)I" } : MethodName) ∈ WL := List.mem_filter.mpr ⟨List.mem_append_right _ (List.mem_of_getElem? (i := 612) (by decide +kernel)), by decide +kernel⟩
theorem qw613 : Cond.code ({ cls := "SignallingPointModel", name := "setHoldTime", desc := "(I)I" } : MethodName) prog_5_method_37_code (3 : Nat) (Option.some Jvm.ClassFile.FieldType.int) ∈ WL := List.mem_filter.mpr ⟨List.mem_append_right _ (List.mem_of_getElem? (i := 613) (by decide +kernel)), by decide +kernel⟩
theorem qw614 : Cond.methodLink "SignallingPointLaw" (84 : Nat) ({ cls := "SignallingPointModel", name := "tick", desc := "()I" } : MethodName) ∈ WL := List.mem_filter.mpr ⟨List.mem_append_right _ (List.mem_of_getElem? (i := 614) (by decide +kernel)), by decide +kernel⟩
theorem qw615 : Cond.instanceMethod ({ cls := "SignallingPointModel", name := "tick", desc := "()I" } : MethodName) ∈ WL := List.mem_filter.mpr ⟨List.mem_append_right _ (List.mem_of_getElem? (i := 615) (by decide +kernel)), by decide +kernel⟩
theorem qw616 : Cond.selects "SignallingPointModel" ({ cls := "SignallingPointModel", name := "tick", desc := "()I" } : MethodName) ({ cls := "SignallingPointModel", name := "tick", desc := "()I" } : MethodName) ∈ WL := List.mem_filter.mpr ⟨List.mem_append_right _ (List.mem_of_getElem? (i := 616) (by decide +kernel)), by decide +kernel⟩
theorem qw617 : Cond.code ({ cls := "SignallingPointModel", name := "tick", desc := "()I" } : MethodName) prog_5_method_38_code (5 : Nat) (Option.some Jvm.ClassFile.FieldType.int) ∈ WL := List.mem_filter.mpr ⟨List.mem_append_right _ (List.mem_of_getElem? (i := 617) (by decide +kernel)), by decide +kernel⟩
theorem qw618 : Cond.methodLink "SignallingPointLaw" (88 : Nat) ({ cls := "SignallingPointModel", name := "time", desc := "()I" } : MethodName) ∈ WL := List.mem_filter.mpr ⟨List.mem_append_right _ (List.mem_of_getElem? (i := 618) (by decide +kernel)), by decide +kernel⟩
theorem qw619 : Cond.instanceMethod ({ cls := "SignallingPointModel", name := "time", desc := "()I" } : MethodName) ∈ WL := List.mem_filter.mpr ⟨List.mem_append_right _ (List.mem_of_getElem? (i := 619) (by decide +kernel)), by decide +kernel⟩
theorem qw620 : Cond.selects "SignallingPointModel" ({ cls := "SignallingPointModel", name := "time", desc := "()I" } : MethodName) ({ cls := "SignallingPointModel", name := "time", desc := "()I" } : MethodName) ∈ WL := List.mem_filter.mpr ⟨List.mem_append_right _ (List.mem_of_getElem? (i := 620) (by decide +kernel)), by decide +kernel⟩
theorem qw621 : Cond.code ({ cls := "SignallingPointModel", name := "time", desc := "()I" } : MethodName) prog_5_method_39_code (1 : Nat) (Option.some Jvm.ClassFile.FieldType.int) ∈ WL := List.mem_filter.mpr ⟨List.mem_append_right _ (List.mem_of_getElem? (i := 621) (by decide +kernel)), by decide +kernel⟩
theorem qw622 : Cond.methodLink "SignallingPointLaw" (92 : Nat) ({ cls := "SignallingPointModel", name := "isHeld", desc := "(II)I" } : MethodName) ∈ WL := List.mem_filter.mpr ⟨List.mem_append_right _ (List.mem_of_getElem? (i := 622) (by decide +kernel)), by decide +kernel⟩
theorem qw623 : Cond.instanceMethod ({ cls := "SignallingPointModel", name := "isHeld", desc := "(II)I" } : MethodName) ∈ WL := List.mem_filter.mpr ⟨List.mem_append_right _ (List.mem_of_getElem? (i := 623) (by decide +kernel)), by decide +kernel⟩
theorem qw624 : Cond.selects "SignallingPointModel" ({ cls := "SignallingPointModel", name := "isHeld", desc := "(II)I" } : MethodName) ({ cls := "SignallingPointModel", name := "isHeld", desc := "(II)I" } : MethodName) ∈ WL := List.mem_filter.mpr ⟨List.mem_append_right _ (List.mem_of_getElem? (i := 624) (by decide +kernel)), by decide +kernel⟩
theorem qw625 : Cond.code ({ cls := "SignallingPointModel", name := "isHeld", desc := "(II)I" } : MethodName) prog_5_method_40_code (3 : Nat) (Option.some Jvm.ClassFile.FieldType.int) ∈ WL := List.mem_filter.mpr ⟨List.mem_append_right _ (List.mem_of_getElem? (i := 625) (by decide +kernel)), by decide +kernel⟩
theorem qw626 : Cond.methodLink "SignallingPointLaw" (96 : Nat) ({ cls := "SignallingPointModel", name := "heldMessages", desc := "()I" } : MethodName) ∈ WL := List.mem_filter.mpr ⟨List.mem_append_right _ (List.mem_of_getElem? (i := 626) (by decide +kernel)), by decide +kernel⟩
theorem qw627 : Cond.instanceMethod ({ cls := "SignallingPointModel", name := "heldMessages", desc := "()I" } : MethodName) ∈ WL := List.mem_filter.mpr ⟨List.mem_append_right _ (List.mem_of_getElem? (i := 627) (by decide +kernel)), by decide +kernel⟩
theorem qw628 : Cond.selects "SignallingPointModel" ({ cls := "SignallingPointModel", name := "heldMessages", desc := "()I" } : MethodName) ({ cls := "SignallingPointModel", name := "heldMessages", desc := "()I" } : MethodName) ∈ WL := List.mem_filter.mpr ⟨List.mem_append_right _ (List.mem_of_getElem? (i := 628) (by decide +kernel)), by decide +kernel⟩
theorem qw629 : Cond.code ({ cls := "SignallingPointModel", name := "heldMessages", desc := "()I" } : MethodName) prog_5_method_41_code (1 : Nat) (Option.some Jvm.ClassFile.FieldType.int) ∈ WL := List.mem_filter.mpr ⟨List.mem_append_right _ (List.mem_of_getElem? (i := 629) (by decide +kernel)), by decide +kernel⟩
theorem qw630 : Cond.methodLink "SignallingPointLaw" (100 : Nat) ({ cls := "SignallingPointModel", name := "delivered", desc := "()I" } : MethodName) ∈ WL := List.mem_filter.mpr ⟨List.mem_append_right _ (List.mem_of_getElem? (i := 630) (by decide +kernel)), by decide +kernel⟩
theorem qw631 : Cond.instanceMethod ({ cls := "SignallingPointModel", name := "delivered", desc := "()I" } : MethodName) ∈ WL := List.mem_filter.mpr ⟨List.mem_append_right _ (List.mem_of_getElem? (i := 631) (by decide +kernel)), by decide +kernel⟩
theorem qw632 : Cond.selects "SignallingPointModel" ({ cls := "SignallingPointModel", name := "delivered", desc := "()I" } : MethodName) ({ cls := "SignallingPointModel", name := "delivered", desc := "()I" } : MethodName) ∈ WL := List.mem_filter.mpr ⟨List.mem_append_right _ (List.mem_of_getElem? (i := 632) (by decide +kernel)), by decide +kernel⟩
theorem qw633 : Cond.code ({ cls := "SignallingPointModel", name := "delivered", desc := "()I" } : MethodName) prog_5_method_42_code (1 : Nat) (Option.some Jvm.ClassFile.FieldType.int) ∈ WL := List.mem_filter.mpr ⟨List.mem_append_right _ (List.mem_of_getElem? (i := 633) (by decide +kernel)), by decide +kernel⟩
theorem qw634 : Cond.methodLink "SignallingPointLaw" (104 : Nat) ({ cls := "SignallingPointModel", name := "overtaken", desc := "()I" } : MethodName) ∈ WL := List.mem_filter.mpr ⟨List.mem_append_right _ (List.mem_of_getElem? (i := 634) (by decide +kernel)), by decide +kernel⟩
theorem qw635 : Cond.instanceMethod ({ cls := "SignallingPointModel", name := "overtaken", desc := "()I" } : MethodName) ∈ WL := List.mem_filter.mpr ⟨List.mem_append_right _ (List.mem_of_getElem? (i := 635) (by decide +kernel)), by decide +kernel⟩
theorem qw636 : Cond.selects "SignallingPointModel" ({ cls := "SignallingPointModel", name := "overtaken", desc := "()I" } : MethodName) ({ cls := "SignallingPointModel", name := "overtaken", desc := "()I" } : MethodName) ∈ WL := List.mem_filter.mpr ⟨List.mem_append_right _ (List.mem_of_getElem? (i := 636) (by decide +kernel)), by decide +kernel⟩
theorem qw637 : Cond.code ({ cls := "SignallingPointModel", name := "overtaken", desc := "()I" } : MethodName) prog_5_method_43_code (1 : Nat) (Option.some Jvm.ClassFile.FieldType.int) ∈ WL := List.mem_filter.mpr ⟨List.mem_append_right _ (List.mem_of_getElem? (i := 637) (by decide +kernel)), by decide +kernel⟩
theorem qw638 : Cond.methodLink "SignallingPointLaw" (108 : Nat) ({ cls := "SignallingPointModel", name := "unreachable", desc := "()I" } : MethodName) ∈ WL := List.mem_filter.mpr ⟨List.mem_append_right _ (List.mem_of_getElem? (i := 638) (by decide +kernel)), by decide +kernel⟩
theorem qw639 : Cond.instanceMethod ({ cls := "SignallingPointModel", name := "unreachable", desc := "()I" } : MethodName) ∈ WL := List.mem_filter.mpr ⟨List.mem_append_right _ (List.mem_of_getElem? (i := 639) (by decide +kernel)), by decide +kernel⟩
theorem qw640 : Cond.selects "SignallingPointModel" ({ cls := "SignallingPointModel", name := "unreachable", desc := "()I" } : MethodName) ({ cls := "SignallingPointModel", name := "unreachable", desc := "()I" } : MethodName) ∈ WL := List.mem_filter.mpr ⟨List.mem_append_right _ (List.mem_of_getElem? (i := 640) (by decide +kernel)), by decide +kernel⟩
theorem qw641 : Cond.code ({ cls := "SignallingPointModel", name := "unreachable", desc := "()I" } : MethodName) prog_5_method_44_code (1 : Nat) (Option.some Jvm.ClassFile.FieldType.int) ∈ WL := List.mem_filter.mpr ⟨List.mem_append_right _ (List.mem_of_getElem? (i := 641) (by decide +kernel)), by decide +kernel⟩
theorem qw642 : Cond.methodLink "SignallingPointLaw" (112 : Nat) ({ cls := "SignallingPointModel", name := "congested", desc := "()I" } : MethodName) ∈ WL := List.mem_filter.mpr ⟨List.mem_append_right _ (List.mem_of_getElem? (i := 642) (by decide +kernel)), by decide +kernel⟩
theorem qw643 : Cond.instanceMethod ({ cls := "SignallingPointModel", name := "congested", desc := "()I" } : MethodName) ∈ WL := List.mem_filter.mpr ⟨List.mem_append_right _ (List.mem_of_getElem? (i := 643) (by decide +kernel)), by decide +kernel⟩
theorem qw644 : Cond.selects "SignallingPointModel" ({ cls := "SignallingPointModel", name := "congested", desc := "()I" } : MethodName) ({ cls := "SignallingPointModel", name := "congested", desc := "()I" } : MethodName) ∈ WL := List.mem_filter.mpr ⟨List.mem_append_right _ (List.mem_of_getElem? (i := 644) (by decide +kernel)), by decide +kernel⟩
theorem qw645 : Cond.code ({ cls := "SignallingPointModel", name := "congested", desc := "()I" } : MethodName) prog_5_method_45_code (1 : Nat) (Option.some Jvm.ClassFile.FieldType.int) ∈ WL := List.mem_filter.mpr ⟨List.mem_append_right _ (List.mem_of_getElem? (i := 645) (by decide +kernel)), by decide +kernel⟩
theorem qw646 : Cond.methodLink "SignallingPointLaw" (116 : Nat) ({ cls := "SignallingPointModel", name := "lost", desc := "()I" } : MethodName) ∈ WL := List.mem_filter.mpr ⟨List.mem_append_right _ (List.mem_of_getElem? (i := 646) (by decide +kernel)), by decide +kernel⟩
theorem qw647 : Cond.instanceMethod ({ cls := "SignallingPointModel", name := "lost", desc := "()I" } : MethodName) ∈ WL := List.mem_filter.mpr ⟨List.mem_append_right _ (List.mem_of_getElem? (i := 647) (by decide +kernel)), by decide +kernel⟩
theorem qw648 : Cond.selects "SignallingPointModel" ({ cls := "SignallingPointModel", name := "lost", desc := "()I" } : MethodName) ({ cls := "SignallingPointModel", name := "lost", desc := "()I" } : MethodName) ∈ WL := List.mem_filter.mpr ⟨List.mem_append_right _ (List.mem_of_getElem? (i := 648) (by decide +kernel)), by decide +kernel⟩
theorem qw649 : Cond.code ({ cls := "SignallingPointModel", name := "lost", desc := "()I" } : MethodName) prog_5_method_46_code (1 : Nat) (Option.some Jvm.ClassFile.FieldType.int) ∈ WL := List.mem_filter.mpr ⟨List.mem_append_right _ (List.mem_of_getElem? (i := 649) (by decide +kernel)), by decide +kernel⟩
theorem qw650 : Cond.methodLink "SignallingPointLaw" (120 : Nat) ({ cls := "SignallingPointModel", name := "spread", desc := "(I)I" } : MethodName) ∈ WL := List.mem_filter.mpr ⟨List.mem_append_right _ (List.mem_of_getElem? (i := 650) (by decide +kernel)), by decide +kernel⟩
theorem qw651 : Cond.instanceMethod ({ cls := "SignallingPointModel", name := "spread", desc := "(I)I" } : MethodName) ∈ WL := List.mem_filter.mpr ⟨List.mem_append_right _ (List.mem_of_getElem? (i := 651) (by decide +kernel)), by decide +kernel⟩
theorem qw652 : Cond.selects "SignallingPointModel" ({ cls := "SignallingPointModel", name := "spread", desc := "(I)I" } : MethodName) ({ cls := "SignallingPointModel", name := "spread", desc := "(I)I" } : MethodName) ∈ WL := List.mem_filter.mpr ⟨List.mem_append_right _ (List.mem_of_getElem? (i := 652) (by decide +kernel)), by decide +kernel⟩
theorem qw653 : Cond.code ({ cls := "SignallingPointModel", name := "spread", desc := "(I)I" } : MethodName) prog_5_method_47_code (6 : Nat) (Option.some Jvm.ClassFile.FieldType.int) ∈ WL := List.mem_filter.mpr ⟨List.mem_append_right _ (List.mem_of_getElem? (i := 653) (by decide +kernel)), by decide +kernel⟩
theorem qw654 : Cond.methodLink "SignallingPointLaw" (128 : Nat) ({ cls := "SignallingPointModel", name := "errorCount", desc := "(I)I" } : MethodName) ∈ WL := List.mem_filter.mpr ⟨List.mem_append_right _ (List.mem_of_getElem? (i := 654) (by decide +kernel)), by decide +kernel⟩
theorem qw655 : Cond.instanceMethod ({ cls := "SignallingPointModel", name := "errorCount", desc := "(I)I" } : MethodName) ∈ WL := List.mem_filter.mpr ⟨List.mem_append_right _ (List.mem_of_getElem? (i := 655) (by decide +kernel)), by decide +kernel⟩
theorem qw656 : Cond.selects "SignallingPointModel" ({ cls := "SignallingPointModel", name := "errorCount", desc := "(I)I" } : MethodName) ({ cls := "SignallingPointModel", name := "errorCount", desc := "(I)I" } : MethodName) ∈ WL := List.mem_filter.mpr ⟨List.mem_append_right _ (List.mem_of_getElem? (i := 656) (by decide +kernel)), by decide +kernel⟩
theorem qw657 : Cond.code ({ cls := "SignallingPointModel", name := "errorCount", desc := "(I)I" } : MethodName) prog_5_method_48_code (2 : Nat) (Option.some Jvm.ClassFile.FieldType.int) ∈ WL := List.mem_filter.mpr ⟨List.mem_append_right _ (List.mem_of_getElem? (i := 657) (by decide +kernel)), by decide +kernel⟩
theorem qw658 : Cond.methodLink "SignallingPointLaw" (133 : Nat) ({ cls := "SignallingPointModel", name := "digest", desc := "()J" } : MethodName) ∈ WL := List.mem_filter.mpr ⟨List.mem_append_right _ (List.mem_of_getElem? (i := 658) (by decide +kernel)), by decide +kernel⟩
theorem qw659 : Cond.instanceMethod ({ cls := "SignallingPointModel", name := "digest", desc := "()J" } : MethodName) ∈ WL := List.mem_filter.mpr ⟨List.mem_append_right _ (List.mem_of_getElem? (i := 659) (by decide +kernel)), by decide +kernel⟩
theorem qw660 : Cond.selects "SignallingPointModel" ({ cls := "SignallingPointModel", name := "digest", desc := "()J" } : MethodName) ({ cls := "SignallingPointModel", name := "digest", desc := "()J" } : MethodName) ∈ WL := List.mem_filter.mpr ⟨List.mem_append_right _ (List.mem_of_getElem? (i := 660) (by decide +kernel)), by decide +kernel⟩
theorem qw661 : Cond.code ({ cls := "SignallingPointModel", name := "digest", desc := "()J" } : MethodName) prog_5_method_52_code (3 : Nat) (Option.some Jvm.ClassFile.FieldType.long) ∈ WL := List.mem_filter.mpr ⟨List.mem_append_right _ (List.mem_of_getElem? (i := 661) (by decide +kernel)), by decide +kernel⟩
theorem qw662 : Cond.constantLong "SignallingPointModel" (98 : Nat) (12144 : Int64) ∈ WL := List.mem_filter.mpr ⟨List.mem_append_right _ (List.mem_of_getElem? (i := 662) (by decide +kernel)), by decide +kernel⟩
theorem qw663 : Cond.methodLink "SignallingPointModel" (95 : Nat) ({ cls := "SignallingPointModel", name := "mix", desc := "(I)V" } : MethodName) ∈ WL := List.mem_filter.mpr ⟨List.mem_append_right _ (List.mem_of_getElem? (i := 663) (by decide +kernel)), by decide +kernel⟩
theorem qw665 : Cond.instanceMethod ({ cls := "SignallingPointModel", name := "mix", desc := "(I)V" } : MethodName) ∈ WL := List.mem_filter.mpr ⟨List.mem_append_right _ (List.mem_of_getElem? (i := 665) (by decide +kernel)), by decide +kernel⟩
theorem qw666 : Cond.code ({ cls := "SignallingPointModel", name := "mix", desc := "(I)V" } : MethodName) prog_5_method_49_code (2 : Nat) (Option.none : Option Jvm.ClassFile.FieldType) ∈ WL := List.mem_filter.mpr ⟨List.mem_append_right _ (List.mem_of_getElem? (i := 666) (by decide +kernel)), by decide +kernel⟩
theorem qw667 : Cond.constantLong "SignallingPointModel" (89 : Nat) (31 : Int64) ∈ WL := List.mem_filter.mpr ⟨List.mem_append_right _ (List.mem_of_getElem? (i := 667) (by decide +kernel)), by decide +kernel⟩
theorem qw668 : Cond.methodLink "SignallingPointModel" (100 : Nat) ({ cls := "SignallingPointModel", name := "mixLink", desc := "(I)V" } : MethodName) ∈ WL := List.mem_filter.mpr ⟨List.mem_append_right _ (List.mem_of_getElem? (i := 668) (by decide +kernel)), by decide +kernel⟩
theorem qw670 : Cond.instanceMethod ({ cls := "SignallingPointModel", name := "mixLink", desc := "(I)V" } : MethodName) ∈ WL := List.mem_filter.mpr ⟨List.mem_append_right _ (List.mem_of_getElem? (i := 670) (by decide +kernel)), by decide +kernel⟩
theorem qw671 : Cond.code ({ cls := "SignallingPointModel", name := "mixLink", desc := "(I)V" } : MethodName) prog_5_method_50_code (3 : Nat) (Option.none : Option Jvm.ClassFile.FieldType) ∈ WL := List.mem_filter.mpr ⟨List.mem_append_right _ (List.mem_of_getElem? (i := 671) (by decide +kernel)), by decide +kernel⟩
theorem qw672 : Cond.methodLink "SignallingPointModel" (103 : Nat) ({ cls := "SignallingPointModel", name := "mixDestination", desc := "(I)V" } : MethodName) ∈ WL := List.mem_filter.mpr ⟨List.mem_append_right _ (List.mem_of_getElem? (i := 672) (by decide +kernel)), by decide +kernel⟩
theorem qw674 : Cond.instanceMethod ({ cls := "SignallingPointModel", name := "mixDestination", desc := "(I)V" } : MethodName) ∈ WL := List.mem_filter.mpr ⟨List.mem_append_right _ (List.mem_of_getElem? (i := 674) (by decide +kernel)), by decide +kernel⟩
theorem qw675 : Cond.code ({ cls := "SignallingPointModel", name := "mixDestination", desc := "(I)V" } : MethodName) prog_5_method_51_code (3 : Nat) (Option.none : Option Jvm.ClassFile.FieldType) ∈ WL := List.mem_filter.mpr ⟨List.mem_append_right _ (List.mem_of_getElem? (i := 675) (by decide +kernel)), by decide +kernel⟩
theorem qs0 : Cond.selects "SignallingPoint" ⟨"SignallingPoint", "invalid", "()I"⟩ ⟨"SignallingPoint", "invalid", "()I"⟩ ∈ WL := List.mem_filter.mpr ⟨List.mem_append_left _ (List.mem_of_getElem? (i := 0) (by decide +kernel)), by decide +kernel⟩
theorem qs1 : Cond.selects "SignallingPoint" ⟨"SignallingPoint", "full", "()I"⟩ ⟨"SignallingPoint", "full", "()I"⟩ ∈ WL := List.mem_filter.mpr ⟨List.mem_append_left _ (List.mem_of_getElem? (i := 1) (by decide +kernel)), by decide +kernel⟩
theorem qs2 : Cond.selects "SignallingPoint$UndoStack" ⟨"SignallingPoint$UndoStack", "save", "(LSignallingPoint$State;)V"⟩ ⟨"SignallingPoint$UndoStack", "save", "(LSignallingPoint$State;)V"⟩ ∈ WL := List.mem_filter.mpr ⟨List.mem_append_left _ (List.mem_of_getElem? (i := 2) (by decide +kernel)), by decide +kernel⟩
theorem qs3 : Cond.selects "SignallingPoint$State" ⟨"SignallingPoint$State", "copyFrom", "(LSignallingPoint$State;)V"⟩ ⟨"SignallingPoint$State", "copyFrom", "(LSignallingPoint$State;)V"⟩ ∈ WL := List.mem_filter.mpr ⟨List.mem_append_left _ (List.mem_of_getElem? (i := 3) (by decide +kernel)), by decide +kernel⟩
theorem qs4 : Cond.selects "SignallingPoint$State" ⟨"SignallingPoint$State", "appendLinkset", "(I)I"⟩ ⟨"SignallingPoint$State", "appendLinkset", "(I)I"⟩ ∈ WL := List.mem_filter.mpr ⟨List.mem_append_left _ (List.mem_of_getElem? (i := 4) (by decide +kernel)), by decide +kernel⟩
theorem qs5 : Cond.selects "SignallingPoint$State" ⟨"SignallingPoint$State", "hasLink", "(II)Z"⟩ ⟨"SignallingPoint$State", "hasLink", "(II)Z"⟩ ∈ WL := List.mem_filter.mpr ⟨List.mem_append_left _ (List.mem_of_getElem? (i := 5) (by decide +kernel)), by decide +kernel⟩
theorem qs6 : Cond.selects "SignallingPoint$State" ⟨"SignallingPoint$State", "hasLinkset", "(I)Z"⟩ ⟨"SignallingPoint$State", "hasLinkset", "(I)Z"⟩ ∈ WL := List.mem_filter.mpr ⟨List.mem_append_left _ (List.mem_of_getElem? (i := 6) (by decide +kernel)), by decide +kernel⟩
theorem qs7 : Cond.selects "SignallingPoint$State" ⟨"SignallingPoint$State", "linkWorks", "(II)Z"⟩ ⟨"SignallingPoint$State", "linkWorks", "(II)Z"⟩ ∈ WL := List.mem_filter.mpr ⟨List.mem_append_left _ (List.mem_of_getElem? (i := 7) (by decide +kernel)), by decide +kernel⟩
theorem qs8 : Cond.selects "SignallingPoint" ⟨"SignallingPoint", "rejected", "()I"⟩ ⟨"SignallingPoint", "rejected", "()I"⟩ ∈ WL := List.mem_filter.mpr ⟨List.mem_append_left _ (List.mem_of_getElem? (i := 8) (by decide +kernel)), by decide +kernel⟩
theorem qs9 : Cond.selects "SignallingPoint$State" ⟨"SignallingPoint$State", "changeOver", "(II)I"⟩ ⟨"SignallingPoint$State", "changeOver", "(II)I"⟩ ∈ WL := List.mem_filter.mpr ⟨List.mem_append_left _ (List.mem_of_getElem? (i := 9) (by decide +kernel)), by decide +kernel⟩
theorem qs10 : Cond.selects "SignallingPoint$State" ⟨"SignallingPoint$State", "dispatch", "(I)V"⟩ ⟨"SignallingPoint$State", "dispatch", "(I)V"⟩ ∈ WL := List.mem_filter.mpr ⟨List.mem_append_left _ (List.mem_of_getElem? (i := 10) (by decide +kernel)), by decide +kernel⟩
theorem qs11 : Cond.selects "SignallingPoint$State" ⟨"SignallingPoint$State", "linkOfStream", "(I)I"⟩ ⟨"SignallingPoint$State", "linkOfStream", "(I)I"⟩ ∈ WL := List.mem_filter.mpr ⟨List.mem_append_left _ (List.mem_of_getElem? (i := 11) (by decide +kernel)), by decide +kernel⟩
theorem qs12 : Cond.selects "SignallingPoint$State" ⟨"SignallingPoint$State", "routesTo", "(I)I"⟩ ⟨"SignallingPoint$State", "routesTo", "(I)I"⟩ ∈ WL := List.mem_filter.mpr ⟨List.mem_append_left _ (List.mem_of_getElem? (i := 12) (by decide +kernel)), by decide +kernel⟩
theorem qs13 : Cond.selects "SignallingPoint$State" ⟨"SignallingPoint$State", "preferredRoutes", "(II)I"⟩ ⟨"SignallingPoint$State", "preferredRoutes", "(II)I"⟩ ∈ WL := List.mem_filter.mpr ⟨List.mem_append_left _ (List.mem_of_getElem? (i := 13) (by decide +kernel)), by decide +kernel⟩
theorem qs14 : Cond.selects "SignallingPoint$State" ⟨"SignallingPoint$State", "linkOver", "(II)I"⟩ ⟨"SignallingPoint$State", "linkOver", "(II)I"⟩ ∈ WL := List.mem_filter.mpr ⟨List.mem_append_left _ (List.mem_of_getElem? (i := 14) (by decide +kernel)), by decide +kernel⟩
theorem qs15 : Cond.selects "SignallingPoint$State" ⟨"SignallingPoint$State", "listLinks", "([I)V"⟩ ⟨"SignallingPoint$State", "listLinks", "([I)V"⟩ ∈ WL := List.mem_filter.mpr ⟨List.mem_append_left _ (List.mem_of_getElem? (i := 15) (by decide +kernel)), by decide +kernel⟩
theorem qs16 : Cond.selects "SignallingPoint$State" ⟨"SignallingPoint$State", "activate", "(II)V"⟩ ⟨"SignallingPoint$State", "activate", "(II)V"⟩ ∈ WL := List.mem_filter.mpr ⟨List.mem_append_left _ (List.mem_of_getElem? (i := 16) (by decide +kernel)), by decide +kernel⟩
theorem qs17 : Cond.selects "SignallingPoint$State" ⟨"SignallingPoint$State", "divertMoved", "([I)I"⟩ ⟨"SignallingPoint$State", "divertMoved", "([I)I"⟩ ∈ WL := List.mem_filter.mpr ⟨List.mem_append_left _ (List.mem_of_getElem? (i := 17) (by decide +kernel)), by decide +kernel⟩
theorem qs18 : Cond.selects "SignallingPoint$State" ⟨"SignallingPoint$State", "deliverOldest", "(II)I"⟩ ⟨"SignallingPoint$State", "deliverOldest", "(II)I"⟩ ∈ WL := List.mem_filter.mpr ⟨List.mem_append_left _ (List.mem_of_getElem? (i := 18) (by decide +kernel)), by decide +kernel⟩
theorem qs19 : Cond.selects "SignallingPoint$State" ⟨"SignallingPoint$State", "deliver", "(I)V"⟩ ⟨"SignallingPoint$State", "deliver", "(I)V"⟩ ∈ WL := List.mem_filter.mpr ⟨List.mem_append_left _ (List.mem_of_getElem? (i := 19) (by decide +kernel)), by decide +kernel⟩
theorem qs20 : Cond.selects "SignallingPoint$State" ⟨"SignallingPoint$State", "congestionLevel", "(I)I"⟩ ⟨"SignallingPoint$State", "congestionLevel", "(I)I"⟩ ∈ WL := List.mem_filter.mpr ⟨List.mem_append_left _ (List.mem_of_getElem? (i := 20) (by decide +kernel)), by decide +kernel⟩
theorem qs21 : Cond.selects "SignallingPoint$State" ⟨"SignallingPoint$State", "canHaveRoute", "(II)Z"⟩ ⟨"SignallingPoint$State", "canHaveRoute", "(II)Z"⟩ ∈ WL := List.mem_filter.mpr ⟨List.mem_append_left _ (List.mem_of_getElem? (i := 21) (by decide +kernel)), by decide +kernel⟩
theorem qs22 : Cond.selects "SignallingPoint$State" ⟨"SignallingPoint$State", "accept", "(III)I"⟩ ⟨"SignallingPoint$State", "accept", "(III)I"⟩ ∈ WL := List.mem_filter.mpr ⟨List.mem_append_left _ (List.mem_of_getElem? (i := 22) (by decide +kernel)), by decide +kernel⟩
theorem qs23 : Cond.selects "SignallingPoint$State" ⟨"SignallingPoint$State", "holds", "(I)Z"⟩ ⟨"SignallingPoint$State", "holds", "(I)Z"⟩ ∈ WL := List.mem_filter.mpr ⟨List.mem_append_left _ (List.mem_of_getElem? (i := 23) (by decide +kernel)), by decide +kernel⟩
theorem qs24 : Cond.selects "SignallingPoint$State" ⟨"SignallingPoint$State", "hold", "(I)V"⟩ ⟨"SignallingPoint$State", "hold", "(I)V"⟩ ∈ WL := List.mem_filter.mpr ⟨List.mem_append_left _ (List.mem_of_getElem? (i := 24) (by decide +kernel)), by decide +kernel⟩
theorem qs25 : Cond.selects "SignallingPoint$State" ⟨"SignallingPoint$State", "releaseHeld", "()I"⟩ ⟨"SignallingPoint$State", "releaseHeld", "()I"⟩ ∈ WL := List.mem_filter.mpr ⟨List.mem_append_left _ (List.mem_of_getElem? (i := 25) (by decide +kernel)), by decide +kernel⟩
theorem qs26 : Cond.selects "SignallingPoint$State" ⟨"SignallingPoint$State", "countLinksTo", "(I)I"⟩ ⟨"SignallingPoint$State", "countLinksTo", "(I)I"⟩ ∈ WL := List.mem_filter.mpr ⟨List.mem_append_left _ (List.mem_of_getElem? (i := 26) (by decide +kernel)), by decide +kernel⟩
theorem qs27 : Cond.selects "SignallingPoint$UndoStack" ⟨"SignallingPoint$UndoStack", "takeBackInto", "(LSignallingPoint$State;)V"⟩ ⟨"SignallingPoint$UndoStack", "takeBackInto", "(LSignallingPoint$State;)V"⟩ ∈ WL := List.mem_filter.mpr ⟨List.mem_append_left _ (List.mem_of_getElem? (i := 27) (by decide +kernel)), by decide +kernel⟩
theorem qs28 : Cond.selects "SignallingPoint$State" ⟨"SignallingPoint$State", "mixCounters", "(J)J"⟩ ⟨"SignallingPoint$State", "mixCounters", "(J)J"⟩ ∈ WL := List.mem_filter.mpr ⟨List.mem_append_left _ (List.mem_of_getElem? (i := 28) (by decide +kernel)), by decide +kernel⟩
theorem qs29 : Cond.selects "SignallingPoint$State" ⟨"SignallingPoint$State", "mixLinksets", "(J)J"⟩ ⟨"SignallingPoint$State", "mixLinksets", "(J)J"⟩ ∈ WL := List.mem_filter.mpr ⟨List.mem_append_left _ (List.mem_of_getElem? (i := 29) (by decide +kernel)), by decide +kernel⟩
theorem qs30 : Cond.selects "SignallingPoint$State" ⟨"SignallingPoint$State", "mixQueue", "(JI)J"⟩ ⟨"SignallingPoint$State", "mixQueue", "(JI)J"⟩ ∈ WL := List.mem_filter.mpr ⟨List.mem_append_left _ (List.mem_of_getElem? (i := 30) (by decide +kernel)), by decide +kernel⟩
theorem qs31 : Cond.selects "SignallingPoint$State" ⟨"SignallingPoint$State", "mixDestination", "(JI)J"⟩ ⟨"SignallingPoint$State", "mixDestination", "(JI)J"⟩ ∈ WL := List.mem_filter.mpr ⟨List.mem_append_left _ (List.mem_of_getElem? (i := 31) (by decide +kernel)), by decide +kernel⟩
theorem qs32 : Cond.selects "SignallingPoint$State" ⟨"SignallingPoint$State", "mixHolding", "(J)J"⟩ ⟨"SignallingPoint$State", "mixHolding", "(J)J"⟩ ∈ WL := List.mem_filter.mpr ⟨List.mem_append_left _ (List.mem_of_getElem? (i := 32) (by decide +kernel)), by decide +kernel⟩
theorem qs33 : Cond.selects "SignallingPointModel" ⟨"SignallingPointModel", "fails", "(I)I"⟩ ⟨"SignallingPointModel", "fails", "(I)I"⟩ ∈ WL := List.mem_filter.mpr ⟨List.mem_append_left _ (List.mem_of_getElem? (i := 33) (by decide +kernel)), by decide +kernel⟩
theorem qs34 : Cond.selects "SignallingPointModel" ⟨"SignallingPointModel", "saves", "()V"⟩ ⟨"SignallingPointModel", "saves", "()V"⟩ ∈ WL := List.mem_filter.mpr ⟨List.mem_append_left _ (List.mem_of_getElem? (i := 34) (by decide +kernel)), by decide +kernel⟩
theorem qs35 : Cond.selects "SignallingPointModel" ⟨"SignallingPointModel", "isLink", "(II)Z"⟩ ⟨"SignallingPointModel", "isLink", "(II)Z"⟩ ∈ WL := List.mem_filter.mpr ⟨List.mem_append_left _ (List.mem_of_getElem? (i := 35) (by decide +kernel)), by decide +kernel⟩
theorem qs36 : Cond.selects "SignallingPointModel" ⟨"SignallingPointModel", "isSet", "(I)Z"⟩ ⟨"SignallingPointModel", "isSet", "(I)Z"⟩ ∈ WL := List.mem_filter.mpr ⟨List.mem_append_left _ (List.mem_of_getElem? (i := 36) (by decide +kernel)), by decide +kernel⟩
theorem qs37 : Cond.selects "SignallingPointModel" ⟨"SignallingPointModel", "dispatches", "(I)V"⟩ ⟨"SignallingPointModel", "dispatches", "(I)V"⟩ ∈ WL := List.mem_filter.mpr ⟨List.mem_append_left _ (List.mem_of_getElem? (i := 37) (by decide +kernel)), by decide +kernel⟩
theorem qs38 : Cond.selects "SignallingPointModel" ⟨"SignallingPointModel", "linkOf", "(I)I"⟩ ⟨"SignallingPointModel", "linkOf", "(I)I"⟩ ∈ WL := List.mem_filter.mpr ⟨List.mem_append_left _ (List.mem_of_getElem? (i := 38) (by decide +kernel)), by decide +kernel⟩
theorem qs39 : Cond.selects "SignallingPointModel" ⟨"SignallingPointModel", "routesOf", "(I)I"⟩ ⟨"SignallingPointModel", "routesOf", "(I)I"⟩ ∈ WL := List.mem_filter.mpr ⟨List.mem_append_left _ (List.mem_of_getElem? (i := 39) (by decide +kernel)), by decide +kernel⟩
theorem qs40 : Cond.selects "SignallingPointModel" ⟨"SignallingPointModel", "isUsable", "(II)Z"⟩ ⟨"SignallingPointModel", "isUsable", "(II)Z"⟩ ∈ WL := List.mem_filter.mpr ⟨List.mem_append_left _ (List.mem_of_getElem? (i := 40) (by decide +kernel)), by decide +kernel⟩
theorem qs41 : Cond.selects "SignallingPointModel" ⟨"SignallingPointModel", "activeOf", "(I)I"⟩ ⟨"SignallingPointModel", "activeOf", "(I)I"⟩ ∈ WL := List.mem_filter.mpr ⟨List.mem_append_left _ (List.mem_of_getElem? (i := 41) (by decide +kernel)), by decide +kernel⟩
theorem qs42 : Cond.selects "SignallingPointModel" ⟨"SignallingPointModel", "laysBefore", "()V"⟩ ⟨"SignallingPointModel", "laysBefore", "()V"⟩ ∈ WL := List.mem_filter.mpr ⟨List.mem_append_left _ (List.mem_of_getElem? (i := 42) (by decide +kernel)), by decide +kernel⟩
theorem qs43 : Cond.selects "SignallingPointModel" ⟨"SignallingPointModel", "diverts", "()I"⟩ ⟨"SignallingPointModel", "diverts", "()I"⟩ ∈ WL := List.mem_filter.mpr ⟨List.mem_append_left _ (List.mem_of_getElem? (i := 43) (by decide +kernel)), by decide +kernel⟩
theorem qs44 : Cond.selects "SignallingPointModel" ⟨"SignallingPointModel", "delivers", "(I)V"⟩ ⟨"SignallingPointModel", "delivers", "(I)V"⟩ ∈ WL := List.mem_filter.mpr ⟨List.mem_append_left _ (List.mem_of_getElem? (i := 44) (by decide +kernel)), by decide +kernel⟩
theorem qs45 : Cond.selects "SignallingPointModel" ⟨"SignallingPointModel", "levelOf", "(I)I"⟩ ⟨"SignallingPointModel", "levelOf", "(I)I"⟩ ∈ WL := List.mem_filter.mpr ⟨List.mem_append_left _ (List.mem_of_getElem? (i := 45) (by decide +kernel)), by decide +kernel⟩
theorem qs46 : Cond.selects "SignallingPointModel" ⟨"SignallingPointModel", "isCongested", "(II)Z"⟩ ⟨"SignallingPointModel", "isCongested", "(II)Z"⟩ ∈ WL := List.mem_filter.mpr ⟨List.mem_append_left _ (List.mem_of_getElem? (i := 46) (by decide +kernel)), by decide +kernel⟩
theorem qs47 : Cond.selects "SignallingPointModel" ⟨"SignallingPointModel", "mix", "(I)V"⟩ ⟨"SignallingPointModel", "mix", "(I)V"⟩ ∈ WL := List.mem_filter.mpr ⟨List.mem_append_left _ (List.mem_of_getElem? (i := 47) (by decide +kernel)), by decide +kernel⟩
theorem qs48 : Cond.selects "SignallingPointModel" ⟨"SignallingPointModel", "mixLink", "(I)V"⟩ ⟨"SignallingPointModel", "mixLink", "(I)V"⟩ ∈ WL := List.mem_filter.mpr ⟨List.mem_append_left _ (List.mem_of_getElem? (i := 48) (by decide +kernel)), by decide +kernel⟩
theorem qs49 : Cond.selects "SignallingPointModel" ⟨"SignallingPointModel", "mixDestination", "(I)V"⟩ ⟨"SignallingPointModel", "mixDestination", "(I)V"⟩ ∈ WL := List.mem_filter.mpr ⟨List.mem_append_left _ (List.mem_of_getElem? (i := 49) (by decide +kernel)), by decide +kernel⟩
theorem inX0 : ∀ w ∈ u_ws RX0 TX0 19, w ∈ WL := List.forall_mem_cons.mpr ⟨qw58, List.forall_mem_cons.mpr ⟨qw60, List.forall_mem_cons.mpr ⟨qw62, List.forall_mem_cons.mpr ⟨qw64, List.forall_mem_cons.mpr ⟨qw66, List.forall_mem_cons.mpr ⟨qw68, List.forall_mem_cons.mpr ⟨qw70, List.forall_mem_cons.mpr ⟨qw72, List.forall_mem_cons.mpr ⟨qw74, List.forall_mem_cons.mpr ⟨qw76, List.forall_mem_cons.mpr ⟨qw78, List.forall_mem_cons.mpr ⟨qw80, List.forall_mem_cons.mpr ⟨qw82, List.forall_mem_cons.mpr ⟨qw84, List.forall_mem_cons.mpr ⟨qw86, List.forall_mem_cons.mpr ⟨qw88, List.forall_mem_cons.mpr ⟨qw90, List.forall_mem_cons.mpr ⟨qw92, List.forall_mem_cons.mpr ⟨qw94, fun _ h => absurd h List.not_mem_nil⟩⟩⟩⟩⟩⟩⟩⟩⟩⟩⟩⟩⟩⟩⟩⟩⟩⟩⟩
theorem inX1 : ∀ w ∈ u_ws RX1 TX1 3, w ∈ WL := List.forall_mem_cons.mpr ⟨qw111, List.forall_mem_cons.mpr ⟨qw113, List.forall_mem_cons.mpr ⟨qw115, fun _ h => absurd h List.not_mem_nil⟩⟩⟩
theorem inX2 : ∀ w ∈ u_ws RX2 TX2 6, w ∈ WL := List.forall_mem_cons.mpr ⟨qw124, List.forall_mem_cons.mpr ⟨qw126, List.forall_mem_cons.mpr ⟨qw128, List.forall_mem_cons.mpr ⟨qw130, List.forall_mem_cons.mpr ⟨qw132, List.forall_mem_cons.mpr ⟨qw134, fun _ h => absurd h List.not_mem_nil⟩⟩⟩⟩⟩⟩
theorem inX3 : ∀ w ∈ u_ws RX3 TX3 7, w ∈ WL := List.forall_mem_cons.mpr ⟨qw463, List.forall_mem_cons.mpr ⟨qw465, List.forall_mem_cons.mpr ⟨qw467, List.forall_mem_cons.mpr ⟨qw469, List.forall_mem_cons.mpr ⟨qw471, List.forall_mem_cons.mpr ⟨qw473, List.forall_mem_cons.mpr ⟨qw475, fun _ h => absurd h List.not_mem_nil⟩⟩⟩⟩⟩⟩⟩
end
section
theorem dX0_init_0 : decode cX0_init 0 = .ok (.aload_n 0, 1) := by decide +kernel
theorem dX0_init_1 : decode cX0_init 1 = .ok (.invokespecial 3, 3) := by decide +kernel
theorem dX0_init_4 : decode cX0_init 4 = .ok (.aload_n 0, 1) := by decide +kernel
theorem dX0_init_5 : decode cX0_init 5 = .ok (.iconst 3, 1) := by decide +kernel
theorem dX0_init_6 : decode cX0_init 6 = .ok (.putfield 9, 3) := by decide +kernel
theorem dX0_init_9 : decode cX0_init 9 = .ok (.aload_n 0, 1) := by decide +kernel
theorem dX0_init_10 : decode cX0_init 10 = .ok (.iconst 4, 1) := by decide +kernel
theorem dX0_init_11 : decode cX0_init 11 = .ok (.newarray .int, 2) := by decide +kernel
theorem dX0_init_13 : decode cX0_init 13 = .ok (.putfield 15, 3) := by decide +kernel
theorem dX0_init_16 : decode cX0_init 16 = .ok (.aload_n 0, 1) := by decide +kernel
theorem dX0_init_17 : decode cX0_init 17 = .ok (.iconst 4, 1) := by decide +kernel
theorem dX0_init_18 : decode cX0_init 18 = .ok (.newarray .int, 2) := by decide +kernel
theorem dX0_init_20 : decode cX0_init 20 = .ok (.putfield 19, 3) := by decide +kernel
theorem dX0_init_23 : decode cX0_init 23 = .ok (.aload_n 0, 1) := by decide +kernel
theorem dX0_init_24 : decode cX0_init 24 = .ok (.bipush 16, 2) := by decide +kernel
theorem dX0_init_26 : decode cX0_init 26 = .ok (.newarray .int, 2) := by decide +kernel
theorem dX0_init_28 : decode cX0_init 28 = .ok (.putfield 22, 3) := by decide +kernel
theorem dX0_init_31 : decode cX0_init 31 = .ok (.aload_n 0, 1) := by decide +kernel
theorem dX0_init_32 : decode cX0_init 32 = .ok (.sipush 160, 3) := by decide +kernel
theorem dX0_init_35 : decode cX0_init 35 = .ok (.newarray .int, 2) := by decide +kernel
theorem dX0_init_37 : decode cX0_init 37 = .ok (.putfield 25, 3) := by decide +kernel
theorem dX0_init_40 : decode cX0_init 40 = .ok (.aload_n 0, 1) := by decide +kernel
theorem dX0_init_41 : decode cX0_init 41 = .ok (.bipush 24, 2) := by decide +kernel
theorem dX0_init_43 : decode cX0_init 43 = .ok (.newarray .int, 2) := by decide +kernel
theorem dX0_init_45 : decode cX0_init 45 = .ok (.putfield 28, 3) := by decide +kernel
theorem dX0_init_48 : decode cX0_init 48 = .ok (.aload_n 0, 1) := by decide +kernel
theorem dX0_init_49 : decode cX0_init 49 = .ok (.bipush 24, 2) := by decide +kernel
theorem dX0_init_51 : decode cX0_init 51 = .ok (.newarray .int, 2) := by decide +kernel
theorem dX0_init_53 : decode cX0_init 53 = .ok (.putfield 31, 3) := by decide +kernel
theorem dX0_init_56 : decode cX0_init 56 = .ok (.aload_n 0, 1) := by decide +kernel
theorem dX0_init_57 : decode cX0_init 57 = .ok (.bipush 96, 2) := by decide +kernel
theorem dX0_init_59 : decode cX0_init 59 = .ok (.newarray .int, 2) := by decide +kernel
theorem dX0_init_61 : decode cX0_init 61 = .ok (.putfield 34, 3) := by decide +kernel
theorem dX0_init_64 : decode cX0_init 64 = .ok (.aload_n 0, 1) := by decide +kernel
theorem dX0_init_65 : decode cX0_init 65 = .ok (.bipush 96, 2) := by decide +kernel
theorem dX0_init_67 : decode cX0_init 67 = .ok (.newarray .int, 2) := by decide +kernel
theorem dX0_init_69 : decode cX0_init 69 = .ok (.putfield 37, 3) := by decide +kernel
theorem dX0_init_72 : decode cX0_init 72 = .ok (.aload_n 0, 1) := by decide +kernel
theorem dX0_init_73 : decode cX0_init 73 = .ok (.bipush 24, 2) := by decide +kernel
theorem dX0_init_75 : decode cX0_init 75 = .ok (.newarray .int, 2) := by decide +kernel
theorem dX0_init_77 : decode cX0_init 77 = .ok (.putfield 40, 3) := by decide +kernel
theorem dX0_init_80 : decode cX0_init 80 = .ok (.aload_n 0, 1) := by decide +kernel
theorem dX0_init_81 : decode cX0_init 81 = .ok (.getfield 28, 3) := by decide +kernel
theorem dX0_init_84 : decode cX0_init 84 = .ok (.iconst (-1), 1) := by decide +kernel
theorem dX0_init_85 : decode cX0_init 85 = .ok (.invokestatic 43, 3) := by decide +kernel
theorem dX0_init_88 : decode cX0_init 88 = .ok (.aload_n 0, 1) := by decide +kernel
theorem dX0_init_89 : decode cX0_init 89 = .ok (.getfield 31, 3) := by decide +kernel
theorem dX0_init_92 : decode cX0_init 92 = .ok (.iconst (-1), 1) := by decide +kernel
theorem dX0_init_93 : decode cX0_init 93 = .ok (.invokestatic 43, 3) := by decide +kernel
theorem dX0_init_96 : decode cX0_init 96 = .ok (.aload_n 0, 1) := by decide +kernel
theorem dX0_init_97 : decode cX0_init 97 = .ok (.getfield 37, 3) := by decide +kernel
theorem dX0_init_100 : decode cX0_init 100 = .ok (.iconst (-1), 1) := by decide +kernel
theorem dX0_init_101 : decode cX0_init 101 = .ok (.invokestatic 43, 3) := by decide +kernel
theorem dX0_init_104 : decode cX0_init 104 = .ok (.return_, 1) := by decide +kernel
theorem dX0_copyFrom_0 : decode cX0_copyFrom 0 = .ok (.aload_n 0, 1) := by decide +kernel
theorem dX0_copyFrom_1 : decode cX0_copyFrom 1 = .ok (.aload_n 1, 1) := by decide +kernel
theorem dX0_copyFrom_2 : decode cX0_copyFrom 2 = .ok (.getfield 49, 3) := by decide +kernel
theorem dX0_copyFrom_5 : decode cX0_copyFrom 5 = .ok (.putfield 49, 3) := by decide +kernel
theorem dX0_copyFrom_8 : decode cX0_copyFrom 8 = .ok (.aload_n 0, 1) := by decide +kernel
theorem dX0_copyFrom_9 : decode cX0_copyFrom 9 = .ok (.aload_n 1, 1) := by decide +kernel
theorem dX0_copyFrom_10 : decode cX0_copyFrom 10 = .ok (.getfield 9, 3) := by decide +kernel
theorem dX0_copyFrom_13 : decode cX0_copyFrom 13 = .ok (.putfield 9, 3) := by decide +kernel
theorem dX0_copyFrom_16 : decode cX0_copyFrom 16 = .ok (.aload_n 0, 1) := by decide +kernel
theorem dX0_copyFrom_17 : decode cX0_copyFrom 17 = .ok (.aload_n 1, 1) := by decide +kernel
theorem dX0_copyFrom_18 : decode cX0_copyFrom 18 = .ok (.getfield 52, 3) := by decide +kernel
theorem dX0_copyFrom_21 : decode cX0_copyFrom 21 = .ok (.putfield 52, 3) := by decide +kernel
theorem dX0_copyFrom_24 : decode cX0_copyFrom 24 = .ok (.aload_n 0, 1) := by decide +kernel
theorem dX0_copyFrom_25 : decode cX0_copyFrom 25 = .ok (.aload_n 1, 1) := by decide +kernel
theorem dX0_copyFrom_26 : decode cX0_copyFrom 26 = .ok (.getfield 55, 3) := by decide +kernel
theorem dX0_copyFrom_29 : decode cX0_copyFrom 29 = .ok (.putfield 55, 3) := by decide +kernel
theorem dX0_copyFrom_32 : decode cX0_copyFrom 32 = .ok (.aload_n 0, 1) := by decide +kernel
theorem dX0_copyFrom_33 : decode cX0_copyFrom 33 = .ok (.aload_n 1, 1) := by decide +kernel
theorem dX0_copyFrom_34 : decode cX0_copyFrom 34 = .ok (.getfield 58, 3) := by decide +kernel
theorem dX0_copyFrom_37 : decode cX0_copyFrom 37 = .ok (.putfield 58, 3) := by decide +kernel
theorem dX0_copyFrom_40 : decode cX0_copyFrom 40 = .ok (.aload_n 0, 1) := by decide +kernel
theorem dX0_copyFrom_41 : decode cX0_copyFrom 41 = .ok (.aload_n 1, 1) := by decide +kernel
theorem dX0_copyFrom_42 : decode cX0_copyFrom 42 = .ok (.getfield 61, 3) := by decide +kernel
theorem dX0_copyFrom_45 : decode cX0_copyFrom 45 = .ok (.putfield 61, 3) := by decide +kernel
theorem dX0_copyFrom_48 : decode cX0_copyFrom 48 = .ok (.aload_n 0, 1) := by decide +kernel
theorem dX0_copyFrom_49 : decode cX0_copyFrom 49 = .ok (.aload_n 1, 1) := by decide +kernel
theorem dX0_copyFrom_50 : decode cX0_copyFrom 50 = .ok (.getfield 64, 3) := by decide +kernel
theorem dX0_copyFrom_53 : decode cX0_copyFrom 53 = .ok (.putfield 64, 3) := by decide +kernel
theorem dX0_copyFrom_56 : decode cX0_copyFrom 56 = .ok (.aload_n 0, 1) := by decide +kernel
theorem dX0_copyFrom_57 : decode cX0_copyFrom 57 = .ok (.aload_n 1, 1) := by decide +kernel
theorem dX0_copyFrom_58 : decode cX0_copyFrom 58 = .ok (.getfield 67, 3) := by decide +kernel
theorem dX0_copyFrom_61 : decode cX0_copyFrom 61 = .ok (.putfield 67, 3) := by decide +kernel
theorem dX0_copyFrom_64 : decode cX0_copyFrom 64 = .ok (.aload_n 0, 1) := by decide +kernel
theorem dX0_copyFrom_65 : decode cX0_copyFrom 65 = .ok (.aload_n 1, 1) := by decide +kernel
theorem dX0_copyFrom_66 : decode cX0_copyFrom 66 = .ok (.getfield 70, 3) := by decide +kernel
theorem dX0_copyFrom_69 : decode cX0_copyFrom 69 = .ok (.putfield 70, 3) := by decide +kernel
theorem dX0_copyFrom_72 : decode cX0_copyFrom 72 = .ok (.aload_n 0, 1) := by decide +kernel
theorem dX0_copyFrom_73 : decode cX0_copyFrom 73 = .ok (.aload_n 1, 1) := by decide +kernel
theorem dX0_copyFrom_74 : decode cX0_copyFrom 74 = .ok (.getfield 73, 3) := by decide +kernel
theorem dX0_copyFrom_77 : decode cX0_copyFrom 77 = .ok (.putfield 73, 3) := by decide +kernel
theorem dX0_copyFrom_80 : decode cX0_copyFrom 80 = .ok (.aload_n 1, 1) := by decide +kernel
theorem dX0_copyFrom_81 : decode cX0_copyFrom 81 = .ok (.getfield 15, 3) := by decide +kernel
theorem dX0_copyFrom_84 : decode cX0_copyFrom 84 = .ok (.aload_n 0, 1) := by decide +kernel
theorem dX0_copyFrom_85 : decode cX0_copyFrom 85 = .ok (.getfield 15, 3) := by decide +kernel
theorem dX0_copyFrom_88 : decode cX0_copyFrom 88 = .ok (.invokestatic 76, 3) := by decide +kernel
theorem dX0_copyFrom_91 : decode cX0_copyFrom 91 = .ok (.aload_n 1, 1) := by decide +kernel
theorem dX0_copyFrom_92 : decode cX0_copyFrom 92 = .ok (.getfield 19, 3) := by decide +kernel
theorem dX0_copyFrom_95 : decode cX0_copyFrom 95 = .ok (.aload_n 0, 1) := by decide +kernel
theorem dX0_copyFrom_96 : decode cX0_copyFrom 96 = .ok (.getfield 19, 3) := by decide +kernel
theorem dX0_copyFrom_99 : decode cX0_copyFrom 99 = .ok (.invokestatic 76, 3) := by decide +kernel
theorem dX0_copyFrom_102 : decode cX0_copyFrom 102 = .ok (.aload_n 1, 1) := by decide +kernel
theorem dX0_copyFrom_103 : decode cX0_copyFrom 103 = .ok (.getfield 22, 3) := by decide +kernel
theorem dX0_copyFrom_106 : decode cX0_copyFrom 106 = .ok (.aload_n 0, 1) := by decide +kernel
theorem dX0_copyFrom_107 : decode cX0_copyFrom 107 = .ok (.getfield 22, 3) := by decide +kernel
theorem dX0_copyFrom_110 : decode cX0_copyFrom 110 = .ok (.invokestatic 76, 3) := by decide +kernel
theorem dX0_copyFrom_113 : decode cX0_copyFrom 113 = .ok (.aload_n 1, 1) := by decide +kernel
theorem dX0_copyFrom_114 : decode cX0_copyFrom 114 = .ok (.getfield 25, 3) := by decide +kernel
theorem dX0_copyFrom_117 : decode cX0_copyFrom 117 = .ok (.aload_n 0, 1) := by decide +kernel
theorem dX0_copyFrom_118 : decode cX0_copyFrom 118 = .ok (.getfield 25, 3) := by decide +kernel
theorem dX0_copyFrom_121 : decode cX0_copyFrom 121 = .ok (.invokestatic 76, 3) := by decide +kernel
theorem dX0_copyFrom_124 : decode cX0_copyFrom 124 = .ok (.aload_n 1, 1) := by decide +kernel
theorem dX0_copyFrom_125 : decode cX0_copyFrom 125 = .ok (.getfield 28, 3) := by decide +kernel
theorem dX0_copyFrom_128 : decode cX0_copyFrom 128 = .ok (.aload_n 0, 1) := by decide +kernel
theorem dX0_copyFrom_129 : decode cX0_copyFrom 129 = .ok (.getfield 28, 3) := by decide +kernel
theorem dX0_copyFrom_132 : decode cX0_copyFrom 132 = .ok (.invokestatic 76, 3) := by decide +kernel
theorem dX0_copyFrom_135 : decode cX0_copyFrom 135 = .ok (.aload_n 1, 1) := by decide +kernel
theorem dX0_copyFrom_136 : decode cX0_copyFrom 136 = .ok (.getfield 31, 3) := by decide +kernel
theorem dX0_copyFrom_139 : decode cX0_copyFrom 139 = .ok (.aload_n 0, 1) := by decide +kernel
theorem dX0_copyFrom_140 : decode cX0_copyFrom 140 = .ok (.getfield 31, 3) := by decide +kernel
theorem dX0_copyFrom_143 : decode cX0_copyFrom 143 = .ok (.invokestatic 76, 3) := by decide +kernel
theorem dX0_copyFrom_146 : decode cX0_copyFrom 146 = .ok (.aload_n 1, 1) := by decide +kernel
theorem dX0_copyFrom_147 : decode cX0_copyFrom 147 = .ok (.getfield 34, 3) := by decide +kernel
theorem dX0_copyFrom_150 : decode cX0_copyFrom 150 = .ok (.aload_n 0, 1) := by decide +kernel
theorem dX0_copyFrom_151 : decode cX0_copyFrom 151 = .ok (.getfield 34, 3) := by decide +kernel
theorem dX0_copyFrom_154 : decode cX0_copyFrom 154 = .ok (.invokestatic 76, 3) := by decide +kernel
theorem dX0_copyFrom_157 : decode cX0_copyFrom 157 = .ok (.aload_n 1, 1) := by decide +kernel
theorem dX0_copyFrom_158 : decode cX0_copyFrom 158 = .ok (.getfield 37, 3) := by decide +kernel
theorem dX0_copyFrom_161 : decode cX0_copyFrom 161 = .ok (.aload_n 0, 1) := by decide +kernel
theorem dX0_copyFrom_162 : decode cX0_copyFrom 162 = .ok (.getfield 37, 3) := by decide +kernel
theorem dX0_copyFrom_165 : decode cX0_copyFrom 165 = .ok (.invokestatic 76, 3) := by decide +kernel
theorem dX0_copyFrom_168 : decode cX0_copyFrom 168 = .ok (.aload_n 1, 1) := by decide +kernel
theorem dX0_copyFrom_169 : decode cX0_copyFrom 169 = .ok (.getfield 40, 3) := by decide +kernel
theorem dX0_copyFrom_172 : decode cX0_copyFrom 172 = .ok (.aload_n 0, 1) := by decide +kernel
theorem dX0_copyFrom_173 : decode cX0_copyFrom 173 = .ok (.getfield 40, 3) := by decide +kernel
theorem dX0_copyFrom_176 : decode cX0_copyFrom 176 = .ok (.invokestatic 76, 3) := by decide +kernel
theorem dX0_copyFrom_179 : decode cX0_copyFrom 179 = .ok (.return_, 1) := by decide +kernel
theorem dX0_copyRow_0 : decode cX0_copyRow 0 = .ok (.aload_n 0, 1) := by decide +kernel
theorem dX0_copyRow_1 : decode cX0_copyRow 1 = .ok (.iconst 0, 1) := by decide +kernel
theorem dX0_copyRow_2 : decode cX0_copyRow 2 = .ok (.aload_n 1, 1) := by decide +kernel
theorem dX0_copyRow_3 : decode cX0_copyRow 3 = .ok (.iconst 0, 1) := by decide +kernel
theorem dX0_copyRow_4 : decode cX0_copyRow 4 = .ok (.aload_n 0, 1) := by decide +kernel
theorem dX0_copyRow_5 : decode cX0_copyRow 5 = .ok (.arraylength, 1) := by decide +kernel
theorem dX0_copyRow_6 : decode cX0_copyRow 6 = .ok (.aload_n 1, 1) := by decide +kernel
theorem dX0_copyRow_7 : decode cX0_copyRow 7 = .ok (.arraylength, 1) := by decide +kernel
theorem dX0_copyRow_8 : decode cX0_copyRow 8 = .ok (.invokestatic 80, 3) := by decide +kernel
theorem dX0_copyRow_11 : decode cX0_copyRow 11 = .ok (.invokestatic 86, 3) := by decide +kernel
theorem dX0_copyRow_14 : decode cX0_copyRow 14 = .ok (.return_, 1) := by decide +kernel
theorem dX0_hasLinkset_0 : decode cX0_hasLinkset 0 = .ok (.iload_n 1, 1) := by decide +kernel
theorem dX0_hasLinkset_1 : decode cX0_hasLinkset 1 = .ok (.ifCond .lt 15, 3) := by decide +kernel
theorem dX0_hasLinkset_4 : decode cX0_hasLinkset 4 = .ok (.iload_n 1, 1) := by decide +kernel
theorem dX0_hasLinkset_5 : decode cX0_hasLinkset 5 = .ok (.aload_n 0, 1) := by decide +kernel
theorem dX0_hasLinkset_6 : decode cX0_hasLinkset 6 = .ok (.getfield 70, 3) := by decide +kernel
theorem dX0_hasLinkset_9 : decode cX0_hasLinkset 9 = .ok (.if_icmp .ge 7, 3) := by decide +kernel
theorem dX0_hasLinkset_12 : decode cX0_hasLinkset 12 = .ok (.iconst 1, 1) := by decide +kernel
theorem dX0_hasLinkset_13 : decode cX0_hasLinkset 13 = .ok (.goto 4, 3) := by decide +kernel
theorem dX0_hasLinkset_16 : decode cX0_hasLinkset 16 = .ok (.iconst 0, 1) := by decide +kernel
theorem dX0_hasLinkset_17 : decode cX0_hasLinkset 17 = .ok (.ireturn, 1) := by decide +kernel
theorem dX0_hasLink_0 : decode cX0_hasLink 0 = .ok (.aload_n 0, 1) := by decide +kernel
theorem dX0_hasLink_1 : decode cX0_hasLink 1 = .ok (.iload_n 1, 1) := by decide +kernel
theorem dX0_hasLink_2 : decode cX0_hasLink 2 = .ok (.invokevirtual 92, 3) := by decide +kernel
theorem dX0_hasLink_5 : decode cX0_hasLink 5 = .ok (.ifCond .eq 21, 3) := by decide +kernel
theorem dX0_hasLink_8 : decode cX0_hasLink 8 = .ok (.iload_n 2, 1) := by decide +kernel
theorem dX0_hasLink_9 : decode cX0_hasLink 9 = .ok (.ifCond .lt 17, 3) := by decide +kernel
theorem dX0_hasLink_12 : decode cX0_hasLink 12 = .ok (.iload_n 2, 1) := by decide +kernel
theorem dX0_hasLink_13 : decode cX0_hasLink 13 = .ok (.aload_n 0, 1) := by decide +kernel
theorem dX0_hasLink_14 : decode cX0_hasLink 14 = .ok (.getfield 15, 3) := by decide +kernel
theorem dX0_hasLink_17 : decode cX0_hasLink 17 = .ok (.iload_n 1, 1) := by decide +kernel
theorem dX0_hasLink_18 : decode cX0_hasLink 18 = .ok (.iaload, 1) := by decide +kernel
theorem dX0_hasLink_19 : decode cX0_hasLink 19 = .ok (.if_icmp .ge 7, 3) := by decide +kernel
theorem dX0_hasLink_22 : decode cX0_hasLink 22 = .ok (.iconst 1, 1) := by decide +kernel
theorem dX0_hasLink_23 : decode cX0_hasLink 23 = .ok (.goto 4, 3) := by decide +kernel
theorem dX0_hasLink_26 : decode cX0_hasLink 26 = .ok (.iconst 0, 1) := by decide +kernel
theorem dX0_hasLink_27 : decode cX0_hasLink 27 = .ok (.ireturn, 1) := by decide +kernel
theorem dX0_canHaveRoute_0 : decode cX0_canHaveRoute 0 = .ok (.iload_n 1, 1) := by decide +kernel
theorem dX0_canHaveRoute_1 : decode cX0_canHaveRoute 1 = .ok (.invokestatic 96, 3) := by decide +kernel
theorem dX0_canHaveRoute_4 : decode cX0_canHaveRoute 4 = .ok (.ifCond .eq 15, 3) := by decide +kernel
theorem dX0_canHaveRoute_7 : decode cX0_canHaveRoute 7 = .ok (.aload_n 0, 1) := by decide +kernel
theorem dX0_canHaveRoute_8 : decode cX0_canHaveRoute 8 = .ok (.iload_n 2, 1) := by decide +kernel
theorem dX0_canHaveRoute_9 : decode cX0_canHaveRoute 9 = .ok (.invokevirtual 92, 3) := by decide +kernel
theorem dX0_canHaveRoute_12 : decode cX0_canHaveRoute 12 = .ok (.ifCond .eq 7, 3) := by decide +kernel
theorem dX0_canHaveRoute_15 : decode cX0_canHaveRoute 15 = .ok (.iconst 1, 1) := by decide +kernel
theorem dX0_canHaveRoute_16 : decode cX0_canHaveRoute 16 = .ok (.goto 4, 3) := by decide +kernel
theorem dX0_canHaveRoute_19 : decode cX0_canHaveRoute 19 = .ok (.iconst 0, 1) := by decide +kernel
theorem dX0_canHaveRoute_20 : decode cX0_canHaveRoute 20 = .ok (.ireturn, 1) := by decide +kernel
theorem dX0_linkWorks_0 : decode cX0_linkWorks 0 = .ok (.aload_n 0, 1) := by decide +kernel
theorem dX0_linkWorks_1 : decode cX0_linkWorks 1 = .ok (.getfield 19, 3) := by decide +kernel
theorem dX0_linkWorks_4 : decode cX0_linkWorks 4 = .ok (.iload_n 1, 1) := by decide +kernel
theorem dX0_linkWorks_5 : decode cX0_linkWorks 5 = .ok (.iaload, 1) := by decide +kernel
theorem dX0_linkWorks_6 : decode cX0_linkWorks 6 = .ok (.iload_n 2, 1) := by decide +kernel
theorem dX0_linkWorks_7 : decode cX0_linkWorks 7 = .ok (.ishr, 1) := by decide +kernel
theorem dX0_linkWorks_8 : decode cX0_linkWorks 8 = .ok (.iconst 1, 1) := by decide +kernel
theorem dX0_linkWorks_9 : decode cX0_linkWorks 9 = .ok (.iand, 1) := by decide +kernel
theorem dX0_linkWorks_10 : decode cX0_linkWorks 10 = .ok (.iconst 1, 1) := by decide +kernel
theorem dX0_linkWorks_11 : decode cX0_linkWorks 11 = .ok (.if_icmp .ne 7, 3) := by decide +kernel
theorem dX0_linkWorks_14 : decode cX0_linkWorks 14 = .ok (.iconst 1, 1) := by decide +kernel
theorem dX0_linkWorks_15 : decode cX0_linkWorks 15 = .ok (.goto 4, 3) := by decide +kernel
theorem dX0_linkWorks_18 : decode cX0_linkWorks 18 = .ok (.iconst 0, 1) := by decide +kernel
theorem dX0_linkWorks_19 : decode cX0_linkWorks 19 = .ok (.ireturn, 1) := by decide +kernel
theorem dX0_holds_0 : decode cX0_holds 0 = .ok (.aload_n 0, 1) := by decide +kernel
theorem dX0_holds_1 : decode cX0_holds 1 = .ok (.getfield 34, 3) := by decide +kernel
theorem dX0_holds_4 : decode cX0_holds 4 = .ok (.iload_n 1, 1) := by decide +kernel
theorem dX0_holds_5 : decode cX0_holds 5 = .ok (.iaload, 1) := by decide +kernel
theorem dX0_holds_6 : decode cX0_holds 6 = .ok (.aload_n 0, 1) := by decide +kernel
theorem dX0_holds_7 : decode cX0_holds 7 = .ok (.getfield 49, 3) := by decide +kernel
theorem dX0_holds_10 : decode cX0_holds 10 = .ok (.if_icmp .le 7, 3) := by decide +kernel
theorem dX0_holds_13 : decode cX0_holds 13 = .ok (.iconst 1, 1) := by decide +kernel
theorem dX0_holds_14 : decode cX0_holds 14 = .ok (.goto 4, 3) := by decide +kernel
theorem dX0_holds_17 : decode cX0_holds 17 = .ok (.iconst 0, 1) := by decide +kernel
theorem dX0_holds_18 : decode cX0_holds 18 = .ok (.ireturn, 1) := by decide +kernel
theorem dX0_appendLinkset_0 : decode cX0_appendLinkset 0 = .ok (.aload_n 0, 1) := by decide +kernel
theorem dX0_appendLinkset_1 : decode cX0_appendLinkset 1 = .ok (.getfield 70, 3) := by decide +kernel
theorem dX0_appendLinkset_4 : decode cX0_appendLinkset 4 = .ok (.istore_n 2, 1) := by decide +kernel
theorem dX0_appendLinkset_5 : decode cX0_appendLinkset 5 = .ok (.aload_n 0, 1) := by decide +kernel
theorem dX0_appendLinkset_6 : decode cX0_appendLinkset 6 = .ok (.getfield 15, 3) := by decide +kernel
theorem dX0_appendLinkset_9 : decode cX0_appendLinkset 9 = .ok (.iload_n 2, 1) := by decide +kernel
theorem dX0_appendLinkset_10 : decode cX0_appendLinkset 10 = .ok (.iload_n 1, 1) := by decide +kernel
theorem dX0_appendLinkset_11 : decode cX0_appendLinkset 11 = .ok (.iastore, 1) := by decide +kernel
theorem dX0_appendLinkset_12 : decode cX0_appendLinkset 12 = .ok (.aload_n 0, 1) := by decide +kernel
theorem dX0_appendLinkset_13 : decode cX0_appendLinkset 13 = .ok (.getfield 19, 3) := by decide +kernel
theorem dX0_appendLinkset_16 : decode cX0_appendLinkset 16 = .ok (.iload_n 2, 1) := by decide +kernel
theorem dX0_appendLinkset_17 : decode cX0_appendLinkset 17 = .ok (.iconst 1, 1) := by decide +kernel
theorem dX0_appendLinkset_18 : decode cX0_appendLinkset 18 = .ok (.iload_n 1, 1) := by decide +kernel
theorem dX0_appendLinkset_19 : decode cX0_appendLinkset 19 = .ok (.ishl, 1) := by decide +kernel
theorem dX0_appendLinkset_20 : decode cX0_appendLinkset 20 = .ok (.iconst 1, 1) := by decide +kernel
theorem dX0_appendLinkset_21 : decode cX0_appendLinkset 21 = .ok (.isub, 1) := by decide +kernel
theorem dX0_appendLinkset_22 : decode cX0_appendLinkset 22 = .ok (.iastore, 1) := by decide +kernel
theorem dX0_appendLinkset_23 : decode cX0_appendLinkset 23 = .ok (.aload_n 0, 1) := by decide +kernel
theorem dX0_appendLinkset_24 : decode cX0_appendLinkset 24 = .ok (.dup, 1) := by decide +kernel
theorem dX0_appendLinkset_25 : decode cX0_appendLinkset 25 = .ok (.getfield 70, 3) := by decide +kernel
theorem dX0_appendLinkset_28 : decode cX0_appendLinkset 28 = .ok (.iconst 1, 1) := by decide +kernel
theorem dX0_appendLinkset_29 : decode cX0_appendLinkset 29 = .ok (.iadd, 1) := by decide +kernel
theorem dX0_appendLinkset_30 : decode cX0_appendLinkset 30 = .ok (.putfield 70, 3) := by decide +kernel
theorem dX0_appendLinkset_33 : decode cX0_appendLinkset 33 = .ok (.iload_n 2, 1) := by decide +kernel
theorem dX0_appendLinkset_34 : decode cX0_appendLinkset 34 = .ok (.ireturn, 1) := by decide +kernel
theorem dX0_activate_0 : decode cX0_activate 0 = .ok (.aload_n 0, 1) := by decide +kernel
theorem dX0_activate_1 : decode cX0_activate 1 = .ok (.getfield 19, 3) := by decide +kernel
theorem dX0_activate_4 : decode cX0_activate 4 = .ok (.iload_n 1, 1) := by decide +kernel
theorem dX0_activate_5 : decode cX0_activate 5 = .ok (.dup2, 1) := by decide +kernel
theorem dX0_activate_6 : decode cX0_activate 6 = .ok (.iaload, 1) := by decide +kernel
theorem dX0_activate_7 : decode cX0_activate 7 = .ok (.iconst 1, 1) := by decide +kernel
theorem dX0_activate_8 : decode cX0_activate 8 = .ok (.iload_n 2, 1) := by decide +kernel
theorem dX0_activate_9 : decode cX0_activate 9 = .ok (.ishl, 1) := by decide +kernel
theorem dX0_activate_10 : decode cX0_activate 10 = .ok (.ior, 1) := by decide +kernel
theorem dX0_activate_11 : decode cX0_activate 11 = .ok (.iastore, 1) := by decide +kernel
theorem dX0_activate_12 : decode cX0_activate 12 = .ok (.return_, 1) := by decide +kernel
theorem dX0_changeOver_0 : decode cX0_changeOver 0 = .ok (.aload_n 0, 1) := by decide +kernel
theorem dX0_changeOver_1 : decode cX0_changeOver 1 = .ok (.getfield 19, 3) := by decide +kernel
theorem dX0_changeOver_4 : decode cX0_changeOver 4 = .ok (.iload_n 1, 1) := by decide +kernel
theorem dX0_changeOver_5 : decode cX0_changeOver 5 = .ok (.dup2, 1) := by decide +kernel
theorem dX0_changeOver_6 : decode cX0_changeOver 6 = .ok (.iaload, 1) := by decide +kernel
theorem dX0_changeOver_7 : decode cX0_changeOver 7 = .ok (.iconst 1, 1) := by decide +kernel
theorem dX0_changeOver_8 : decode cX0_changeOver 8 = .ok (.iload_n 2, 1) := by decide +kernel
theorem dX0_changeOver_9 : decode cX0_changeOver 9 = .ok (.ishl, 1) := by decide +kernel
theorem dX0_changeOver_10 : decode cX0_changeOver 10 = .ok (.iconst (-1), 1) := by decide +kernel
theorem dX0_changeOver_11 : decode cX0_changeOver 11 = .ok (.ixor, 1) := by decide +kernel
theorem dX0_changeOver_12 : decode cX0_changeOver 12 = .ok (.iand, 1) := by decide +kernel
theorem dX0_changeOver_13 : decode cX0_changeOver 13 = .ok (.iastore, 1) := by decide +kernel
theorem dX0_changeOver_14 : decode cX0_changeOver 14 = .ok (.iload_n 1, 1) := by decide +kernel
theorem dX0_changeOver_15 : decode cX0_changeOver 15 = .ok (.iload_n 2, 1) := by decide +kernel
theorem dX0_changeOver_16 : decode cX0_changeOver 16 = .ok (.invokestatic 99, 3) := by decide +kernel
theorem dX0_changeOver_19 : decode cX0_changeOver 19 = .ok (.istore_n 3, 1) := by decide +kernel
theorem dX0_changeOver_20 : decode cX0_changeOver 20 = .ok (.aload_n 0, 1) := by decide +kernel
theorem dX0_changeOver_21 : decode cX0_changeOver 21 = .ok (.getfield 22, 3) := by decide +kernel
theorem dX0_changeOver_24 : decode cX0_changeOver 24 = .ok (.iload_n 3, 1) := by decide +kernel
theorem dX0_changeOver_25 : decode cX0_changeOver 25 = .ok (.iaload, 1) := by decide +kernel
theorem dX0_changeOver_26 : decode cX0_changeOver 26 = .ok (.istore 4, 2) := by decide +kernel
theorem dX0_changeOver_28 : decode cX0_changeOver 28 = .ok (.aload_n 0, 1) := by decide +kernel
theorem dX0_changeOver_29 : decode cX0_changeOver 29 = .ok (.getfield 22, 3) := by decide +kernel
theorem dX0_changeOver_32 : decode cX0_changeOver 32 = .ok (.iload_n 3, 1) := by decide +kernel
theorem dX0_changeOver_33 : decode cX0_changeOver 33 = .ok (.iconst 0, 1) := by decide +kernel
theorem dX0_changeOver_34 : decode cX0_changeOver 34 = .ok (.iastore, 1) := by decide +kernel
theorem dX0_changeOver_35 : decode cX0_changeOver 35 = .ok (.iconst 0, 1) := by decide +kernel
theorem dX0_changeOver_36 : decode cX0_changeOver 36 = .ok (.istore 5, 2) := by decide +kernel
theorem dX0_changeOver_38 : decode cX0_changeOver 38 = .ok (.iload 5, 2) := by decide +kernel
theorem dX0_changeOver_40 : decode cX0_changeOver 40 = .ok (.iload 4, 2) := by decide +kernel
theorem dX0_changeOver_42 : decode cX0_changeOver 42 = .ok (.if_icmp .ge 25, 3) := by decide +kernel
theorem dX0_changeOver_45 : decode cX0_changeOver 45 = .ok (.aload_n 0, 1) := by decide +kernel
theorem dX0_changeOver_46 : decode cX0_changeOver 46 = .ok (.aload_n 0, 1) := by decide +kernel
theorem dX0_changeOver_47 : decode cX0_changeOver 47 = .ok (.getfield 25, 3) := by decide +kernel
theorem dX0_changeOver_50 : decode cX0_changeOver 50 = .ok (.iload_n 3, 1) := by decide +kernel
theorem dX0_changeOver_51 : decode cX0_changeOver 51 = .ok (.bipush 10, 2) := by decide +kernel
theorem dX0_changeOver_53 : decode cX0_changeOver 53 = .ok (.imul, 1) := by decide +kernel
theorem dX0_changeOver_54 : decode cX0_changeOver 54 = .ok (.iload 5, 2) := by decide +kernel
theorem dX0_changeOver_56 : decode cX0_changeOver 56 = .ok (.iadd, 1) := by decide +kernel
theorem dX0_changeOver_57 : decode cX0_changeOver 57 = .ok (.iaload, 1) := by decide +kernel
theorem dX0_changeOver_58 : decode cX0_changeOver 58 = .ok (.invokevirtual 102, 3) := by decide +kernel
theorem dX0_changeOver_61 : decode cX0_changeOver 61 = .ok (.iinc 5 1, 3) := by decide +kernel
theorem dX0_changeOver_64 : decode cX0_changeOver 64 = .ok (.goto (-26), 3) := by decide +kernel
theorem dX0_changeOver_67 : decode cX0_changeOver 67 = .ok (.iload 4, 2) := by decide +kernel
theorem dX0_changeOver_69 : decode cX0_changeOver 69 = .ok (.ireturn, 1) := by decide +kernel
theorem dX0_congestionLevel_0 : decode cX0_congestionLevel 0 = .ok (.aload_n 0, 1) := by decide +kernel
theorem dX0_congestionLevel_1 : decode cX0_congestionLevel 1 = .ok (.getfield 22, 3) := by decide +kernel
theorem dX0_congestionLevel_4 : decode cX0_congestionLevel 4 = .ok (.iload_n 1, 1) := by decide +kernel
theorem dX0_congestionLevel_5 : decode cX0_congestionLevel 5 = .ok (.iaload, 1) := by decide +kernel
theorem dX0_congestionLevel_6 : decode cX0_congestionLevel 6 = .ok (.istore_n 2, 1) := by decide +kernel
theorem dX0_congestionLevel_7 : decode cX0_congestionLevel 7 = .ok (.iload_n 2, 1) := by decide +kernel
theorem dX0_congestionLevel_8 : decode cX0_congestionLevel 8 = .ok (.iconst 4, 1) := by decide +kernel
theorem dX0_congestionLevel_9 : decode cX0_congestionLevel 9 = .ok (.if_icmp .ge 5, 3) := by decide +kernel
theorem dX0_congestionLevel_12 : decode cX0_congestionLevel 12 = .ok (.iconst 0, 1) := by decide +kernel
theorem dX0_congestionLevel_13 : decode cX0_congestionLevel 13 = .ok (.ireturn, 1) := by decide +kernel
theorem dX0_congestionLevel_14 : decode cX0_congestionLevel 14 = .ok (.iload_n 2, 1) := by decide +kernel
theorem dX0_congestionLevel_15 : decode cX0_congestionLevel 15 = .ok (.bipush 6, 2) := by decide +kernel
theorem dX0_congestionLevel_17 : decode cX0_congestionLevel 17 = .ok (.if_icmp .ge 5, 3) := by decide +kernel
theorem dX0_congestionLevel_20 : decode cX0_congestionLevel 20 = .ok (.iconst 1, 1) := by decide +kernel
theorem dX0_congestionLevel_21 : decode cX0_congestionLevel 21 = .ok (.ireturn, 1) := by decide +kernel
theorem dX0_congestionLevel_22 : decode cX0_congestionLevel 22 = .ok (.iload_n 2, 1) := by decide +kernel
theorem dX0_congestionLevel_23 : decode cX0_congestionLevel 23 = .ok (.bipush 8, 2) := by decide +kernel
theorem dX0_congestionLevel_25 : decode cX0_congestionLevel 25 = .ok (.if_icmp .ge 7, 3) := by decide +kernel
theorem dX0_congestionLevel_28 : decode cX0_congestionLevel 28 = .ok (.iconst 2, 1) := by decide +kernel
theorem dX0_congestionLevel_29 : decode cX0_congestionLevel 29 = .ok (.goto 4, 3) := by decide +kernel
theorem dX0_congestionLevel_32 : decode cX0_congestionLevel 32 = .ok (.iconst 3, 1) := by decide +kernel
theorem dX0_congestionLevel_33 : decode cX0_congestionLevel 33 = .ok (.ireturn, 1) := by decide +kernel
theorem dX0_routesTo_0 : decode cX0_routesTo 0 = .ok (.aload_n 0, 1) := by decide +kernel
theorem dX0_routesTo_1 : decode cX0_routesTo 1 = .ok (.iload_n 1, 1) := by decide +kernel
theorem dX0_routesTo_2 : decode cX0_routesTo 2 = .ok (.iconst 0, 1) := by decide +kernel
theorem dX0_routesTo_3 : decode cX0_routesTo 3 = .ok (.invokevirtual 106, 3) := by decide +kernel
theorem dX0_routesTo_6 : decode cX0_routesTo 6 = .ok (.istore_n 2, 1) := by decide +kernel
theorem dX0_routesTo_7 : decode cX0_routesTo 7 = .ok (.iload_n 2, 1) := by decide +kernel
theorem dX0_routesTo_8 : decode cX0_routesTo 8 = .ok (.ifCond .eq 7, 3) := by decide +kernel
theorem dX0_routesTo_11 : decode cX0_routesTo 11 = .ok (.iload_n 2, 1) := by decide +kernel
theorem dX0_routesTo_12 : decode cX0_routesTo 12 = .ok (.goto 9, 3) := by decide +kernel
theorem dX0_routesTo_15 : decode cX0_routesTo 15 = .ok (.aload_n 0, 1) := by decide +kernel
theorem dX0_routesTo_16 : decode cX0_routesTo 16 = .ok (.iload_n 1, 1) := by decide +kernel
theorem dX0_routesTo_17 : decode cX0_routesTo 17 = .ok (.iconst 1, 1) := by decide +kernel
theorem dX0_routesTo_18 : decode cX0_routesTo 18 = .ok (.invokevirtual 106, 3) := by decide +kernel
theorem dX0_routesTo_21 : decode cX0_routesTo 21 = .ok (.ireturn, 1) := by decide +kernel
theorem dX0_preferredRoutes_0 : decode cX0_preferredRoutes 0 = .ok (.iconst 3, 1) := by decide +kernel
theorem dX0_preferredRoutes_1 : decode cX0_preferredRoutes 1 = .ok (.istore_n 3, 1) := by decide +kernel
theorem dX0_preferredRoutes_2 : decode cX0_preferredRoutes 2 = .ok (.iconst 0, 1) := by decide +kernel
theorem dX0_preferredRoutes_3 : decode cX0_preferredRoutes 3 = .ok (.istore 4, 2) := by decide +kernel
theorem dX0_preferredRoutes_5 : decode cX0_preferredRoutes 5 = .ok (.iconst 0, 1) := by decide +kernel
theorem dX0_preferredRoutes_6 : decode cX0_preferredRoutes 6 = .ok (.istore 5, 2) := by decide +kernel
theorem dX0_preferredRoutes_8 : decode cX0_preferredRoutes 8 = .ok (.iload 5, 2) := by decide +kernel
theorem dX0_preferredRoutes_10 : decode cX0_preferredRoutes 10 = .ok (.aload_n 0, 1) := by decide +kernel
theorem dX0_preferredRoutes_11 : decode cX0_preferredRoutes 11 = .ok (.getfield 70, 3) := by decide +kernel
theorem dX0_preferredRoutes_14 : decode cX0_preferredRoutes 14 = .ok (.if_icmp .ge 80, 3) := by decide +kernel
theorem dX0_preferredRoutes_17 : decode cX0_preferredRoutes 17 = .ok (.iload_n 1, 1) := by decide +kernel
theorem dX0_preferredRoutes_18 : decode cX0_preferredRoutes 18 = .ok (.iload 5, 2) := by decide +kernel
theorem dX0_preferredRoutes_20 : decode cX0_preferredRoutes 20 = .ok (.invokestatic 109, 3) := by decide +kernel
theorem dX0_preferredRoutes_23 : decode cX0_preferredRoutes 23 = .ok (.istore 6, 2) := by decide +kernel
theorem dX0_preferredRoutes_25 : decode cX0_preferredRoutes 25 = .ok (.aload_n 0, 1) := by decide +kernel
theorem dX0_preferredRoutes_26 : decode cX0_preferredRoutes 26 = .ok (.getfield 28, 3) := by decide +kernel
theorem dX0_preferredRoutes_29 : decode cX0_preferredRoutes 29 = .ok (.iload 6, 2) := by decide +kernel
theorem dX0_preferredRoutes_31 : decode cX0_preferredRoutes 31 = .ok (.iaload, 1) := by decide +kernel
theorem dX0_preferredRoutes_32 : decode cX0_preferredRoutes 32 = .ok (.iload_n 2, 1) := by decide +kernel
theorem dX0_preferredRoutes_33 : decode cX0_preferredRoutes 33 = .ok (.if_icmp .ne 55, 3) := by decide +kernel
theorem dX0_preferredRoutes_36 : decode cX0_preferredRoutes 36 = .ok (.aload_n 0, 1) := by decide +kernel
theorem dX0_preferredRoutes_37 : decode cX0_preferredRoutes 37 = .ok (.getfield 19, 3) := by decide +kernel
theorem dX0_preferredRoutes_40 : decode cX0_preferredRoutes 40 = .ok (.iload 5, 2) := by decide +kernel
theorem dX0_preferredRoutes_42 : decode cX0_preferredRoutes 42 = .ok (.iaload, 1) := by decide +kernel
theorem dX0_preferredRoutes_43 : decode cX0_preferredRoutes 43 = .ok (.ifCond .eq 45, 3) := by decide +kernel
theorem dX0_preferredRoutes_46 : decode cX0_preferredRoutes 46 = .ok (.aload_n 0, 1) := by decide +kernel
theorem dX0_preferredRoutes_47 : decode cX0_preferredRoutes 47 = .ok (.getfield 31, 3) := by decide +kernel
theorem dX0_preferredRoutes_50 : decode cX0_preferredRoutes 50 = .ok (.iload 6, 2) := by decide +kernel
theorem dX0_preferredRoutes_52 : decode cX0_preferredRoutes 52 = .ok (.iaload, 1) := by decide +kernel
theorem dX0_preferredRoutes_53 : decode cX0_preferredRoutes 53 = .ok (.iload_n 3, 1) := by decide +kernel
theorem dX0_preferredRoutes_54 : decode cX0_preferredRoutes 54 = .ok (.if_icmp .gt 34, 3) := by decide +kernel
theorem dX0_preferredRoutes_57 : decode cX0_preferredRoutes 57 = .ok (.aload_n 0, 1) := by decide +kernel
theorem dX0_preferredRoutes_58 : decode cX0_preferredRoutes 58 = .ok (.getfield 31, 3) := by decide +kernel
theorem dX0_preferredRoutes_61 : decode cX0_preferredRoutes 61 = .ok (.iload 6, 2) := by decide +kernel
theorem dX0_preferredRoutes_63 : decode cX0_preferredRoutes 63 = .ok (.iaload, 1) := by decide +kernel
theorem dX0_preferredRoutes_64 : decode cX0_preferredRoutes 64 = .ok (.iload_n 3, 1) := by decide +kernel
theorem dX0_preferredRoutes_65 : decode cX0_preferredRoutes 65 = .ok (.if_icmp .ge 6, 3) := by decide +kernel
theorem dX0_preferredRoutes_68 : decode cX0_preferredRoutes 68 = .ok (.iconst 0, 1) := by decide +kernel
theorem dX0_preferredRoutes_69 : decode cX0_preferredRoutes 69 = .ok (.istore 4, 2) := by decide +kernel
theorem dX0_preferredRoutes_71 : decode cX0_preferredRoutes 71 = .ok (.aload_n 0, 1) := by decide +kernel
theorem dX0_preferredRoutes_72 : decode cX0_preferredRoutes 72 = .ok (.getfield 31, 3) := by decide +kernel
theorem dX0_preferredRoutes_75 : decode cX0_preferredRoutes 75 = .ok (.iload 6, 2) := by decide +kernel
theorem dX0_preferredRoutes_77 : decode cX0_preferredRoutes 77 = .ok (.iaload, 1) := by decide +kernel
theorem dX0_preferredRoutes_78 : decode cX0_preferredRoutes 78 = .ok (.istore_n 3, 1) := by decide +kernel
theorem dX0_preferredRoutes_79 : decode cX0_preferredRoutes 79 = .ok (.iload 4, 2) := by decide +kernel
theorem dX0_preferredRoutes_81 : decode cX0_preferredRoutes 81 = .ok (.iconst 1, 1) := by decide +kernel
theorem dX0_preferredRoutes_82 : decode cX0_preferredRoutes 82 = .ok (.iload 5, 2) := by decide +kernel
theorem dX0_preferredRoutes_84 : decode cX0_preferredRoutes 84 = .ok (.ishl, 1) := by decide +kernel
theorem dX0_preferredRoutes_85 : decode cX0_preferredRoutes 85 = .ok (.ior, 1) := by decide +kernel
theorem dX0_preferredRoutes_86 : decode cX0_preferredRoutes 86 = .ok (.istore 4, 2) := by decide +kernel
theorem dX0_preferredRoutes_88 : decode cX0_preferredRoutes 88 = .ok (.iinc 5 1, 3) := by decide +kernel
theorem dX0_preferredRoutes_91 : decode cX0_preferredRoutes 91 = .ok (.goto (-83), 3) := by decide +kernel
theorem dX0_preferredRoutes_94 : decode cX0_preferredRoutes 94 = .ok (.iload 4, 2) := by decide +kernel
theorem dX0_preferredRoutes_96 : decode cX0_preferredRoutes 96 = .ok (.ireturn, 1) := by decide +kernel
theorem dX0_linkOver_0 : decode cX0_linkOver 0 = .ok (.iload_n 1, 1) := by decide +kernel
theorem dX0_linkOver_1 : decode cX0_linkOver 1 = .ok (.invokestatic 112, 3) := by decide +kernel
theorem dX0_linkOver_4 : decode cX0_linkOver 4 = .ok (.istore_n 3, 1) := by decide +kernel
theorem dX0_linkOver_5 : decode cX0_linkOver 5 = .ok (.iload_n 3, 1) := by decide +kernel
theorem dX0_linkOver_6 : decode cX0_linkOver 6 = .ok (.ifCond .ne 5, 3) := by decide +kernel
theorem dX0_linkOver_9 : decode cX0_linkOver 9 = .ok (.iconst (-1), 1) := by decide +kernel
theorem dX0_linkOver_10 : decode cX0_linkOver 10 = .ok (.ireturn, 1) := by decide +kernel
theorem dX0_linkOver_11 : decode cX0_linkOver 11 = .ok (.iload_n 1, 1) := by decide +kernel
theorem dX0_linkOver_12 : decode cX0_linkOver 12 = .ok (.iload_n 2, 1) := by decide +kernel
theorem dX0_linkOver_13 : decode cX0_linkOver 13 = .ok (.iload_n 3, 1) := by decide +kernel
theorem dX0_linkOver_14 : decode cX0_linkOver 14 = .ok (.irem, 1) := by decide +kernel
theorem dX0_linkOver_15 : decode cX0_linkOver 15 = .ok (.invokestatic 118, 3) := by decide +kernel
theorem dX0_linkOver_18 : decode cX0_linkOver 18 = .ok (.istore 4, 2) := by decide +kernel
theorem dX0_linkOver_20 : decode cX0_linkOver 20 = .ok (.aload_n 0, 1) := by decide +kernel
theorem dX0_linkOver_21 : decode cX0_linkOver 21 = .ok (.getfield 19, 3) := by decide +kernel
theorem dX0_linkOver_24 : decode cX0_linkOver 24 = .ok (.iload 4, 2) := by decide +kernel
theorem dX0_linkOver_26 : decode cX0_linkOver 26 = .ok (.iaload, 1) := by decide +kernel
theorem dX0_linkOver_27 : decode cX0_linkOver 27 = .ok (.invokestatic 112, 3) := by decide +kernel
theorem dX0_linkOver_30 : decode cX0_linkOver 30 = .ok (.istore 5, 2) := by decide +kernel
theorem dX0_linkOver_32 : decode cX0_linkOver 32 = .ok (.iload 5, 2) := by decide +kernel
theorem dX0_linkOver_34 : decode cX0_linkOver 34 = .ok (.ifCond .ne 5, 3) := by decide +kernel
theorem dX0_linkOver_37 : decode cX0_linkOver 37 = .ok (.iconst (-1), 1) := by decide +kernel
theorem dX0_linkOver_38 : decode cX0_linkOver 38 = .ok (.ireturn, 1) := by decide +kernel
theorem dX0_linkOver_39 : decode cX0_linkOver 39 = .ok (.iload 4, 2) := by decide +kernel
theorem dX0_linkOver_41 : decode cX0_linkOver 41 = .ok (.aload_n 0, 1) := by decide +kernel
theorem dX0_linkOver_42 : decode cX0_linkOver 42 = .ok (.getfield 19, 3) := by decide +kernel
theorem dX0_linkOver_45 : decode cX0_linkOver 45 = .ok (.iload 4, 2) := by decide +kernel
theorem dX0_linkOver_47 : decode cX0_linkOver 47 = .ok (.iaload, 1) := by decide +kernel
theorem dX0_linkOver_48 : decode cX0_linkOver 48 = .ok (.iload_n 2, 1) := by decide +kernel
theorem dX0_linkOver_49 : decode cX0_linkOver 49 = .ok (.iload_n 3, 1) := by decide +kernel
theorem dX0_linkOver_50 : decode cX0_linkOver 50 = .ok (.idiv, 1) := by decide +kernel
theorem dX0_linkOver_51 : decode cX0_linkOver 51 = .ok (.iload 5, 2) := by decide +kernel
theorem dX0_linkOver_53 : decode cX0_linkOver 53 = .ok (.irem, 1) := by decide +kernel
theorem dX0_linkOver_54 : decode cX0_linkOver 54 = .ok (.invokestatic 118, 3) := by decide +kernel
theorem dX0_linkOver_57 : decode cX0_linkOver 57 = .ok (.invokestatic 99, 3) := by decide +kernel
theorem dX0_linkOver_60 : decode cX0_linkOver 60 = .ok (.ireturn, 1) := by decide +kernel
theorem dX0_linkOfStream_0 : decode cX0_linkOfStream 0 = .ok (.aload_n 0, 1) := by decide +kernel
theorem dX0_linkOfStream_1 : decode cX0_linkOfStream 1 = .ok (.aload_n 0, 1) := by decide +kernel
theorem dX0_linkOfStream_2 : decode cX0_linkOfStream 2 = .ok (.iload_n 1, 1) := by decide +kernel
theorem dX0_linkOfStream_3 : decode cX0_linkOfStream 3 = .ok (.bipush 16, 2) := by decide +kernel
theorem dX0_linkOfStream_5 : decode cX0_linkOfStream 5 = .ok (.idiv, 1) := by decide +kernel
theorem dX0_linkOfStream_6 : decode cX0_linkOfStream 6 = .ok (.invokevirtual 121, 3) := by decide +kernel
theorem dX0_linkOfStream_9 : decode cX0_linkOfStream 9 = .ok (.iload_n 1, 1) := by decide +kernel
theorem dX0_linkOfStream_10 : decode cX0_linkOfStream 10 = .ok (.bipush 16, 2) := by decide +kernel
theorem dX0_linkOfStream_12 : decode cX0_linkOfStream 12 = .ok (.irem, 1) := by decide +kernel
theorem dX0_linkOfStream_13 : decode cX0_linkOfStream 13 = .ok (.invokevirtual 124, 3) := by decide +kernel
theorem dX0_linkOfStream_16 : decode cX0_linkOfStream 16 = .ok (.ireturn, 1) := by decide +kernel
theorem dX0_countLinksTo_0 : decode cX0_countLinksTo 0 = .ok (.aload_n 0, 1) := by decide +kernel
theorem dX0_countLinksTo_1 : decode cX0_countLinksTo 1 = .ok (.iload_n 1, 1) := by decide +kernel
theorem dX0_countLinksTo_2 : decode cX0_countLinksTo 2 = .ok (.invokevirtual 121, 3) := by decide +kernel
theorem dX0_countLinksTo_5 : decode cX0_countLinksTo 5 = .ok (.istore_n 2, 1) := by decide +kernel
theorem dX0_countLinksTo_6 : decode cX0_countLinksTo 6 = .ok (.iconst 0, 1) := by decide +kernel
theorem dX0_countLinksTo_7 : decode cX0_countLinksTo 7 = .ok (.istore_n 3, 1) := by decide +kernel
theorem dX0_countLinksTo_8 : decode cX0_countLinksTo 8 = .ok (.iconst 0, 1) := by decide +kernel
theorem dX0_countLinksTo_9 : decode cX0_countLinksTo 9 = .ok (.istore 4, 2) := by decide +kernel
theorem dX0_countLinksTo_11 : decode cX0_countLinksTo 11 = .ok (.iload 4, 2) := by decide +kernel
theorem dX0_countLinksTo_13 : decode cX0_countLinksTo 13 = .ok (.bipush 16, 2) := by decide +kernel
theorem dX0_countLinksTo_15 : decode cX0_countLinksTo 15 = .ok (.if_icmp .ge 31, 3) := by decide +kernel
theorem dX0_countLinksTo_18 : decode cX0_countLinksTo 18 = .ok (.aload_n 0, 1) := by decide +kernel
theorem dX0_countLinksTo_19 : decode cX0_countLinksTo 19 = .ok (.iload_n 2, 1) := by decide +kernel
theorem dX0_countLinksTo_20 : decode cX0_countLinksTo 20 = .ok (.iload 4, 2) := by decide +kernel
theorem dX0_countLinksTo_22 : decode cX0_countLinksTo 22 = .ok (.invokevirtual 124, 3) := by decide +kernel
theorem dX0_countLinksTo_25 : decode cX0_countLinksTo 25 = .ok (.istore 5, 2) := by decide +kernel
theorem dX0_countLinksTo_27 : decode cX0_countLinksTo 27 = .ok (.iload 5, 2) := by decide +kernel
theorem dX0_countLinksTo_29 : decode cX0_countLinksTo 29 = .ok (.iconst (-1), 1) := by decide +kernel
theorem dX0_countLinksTo_30 : decode cX0_countLinksTo 30 = .ok (.if_icmp .eq 10, 3) := by decide +kernel
theorem dX0_countLinksTo_33 : decode cX0_countLinksTo 33 = .ok (.iload_n 3, 1) := by decide +kernel
theorem dX0_countLinksTo_34 : decode cX0_countLinksTo 34 = .ok (.iconst 1, 1) := by decide +kernel
theorem dX0_countLinksTo_35 : decode cX0_countLinksTo 35 = .ok (.iload 5, 2) := by decide +kernel
theorem dX0_countLinksTo_37 : decode cX0_countLinksTo 37 = .ok (.ishl, 1) := by decide +kernel
theorem dX0_countLinksTo_38 : decode cX0_countLinksTo 38 = .ok (.ior, 1) := by decide +kernel
theorem dX0_countLinksTo_39 : decode cX0_countLinksTo 39 = .ok (.istore_n 3, 1) := by decide +kernel
theorem dX0_countLinksTo_40 : decode cX0_countLinksTo 40 = .ok (.iinc 4 1, 3) := by decide +kernel
theorem dX0_countLinksTo_43 : decode cX0_countLinksTo 43 = .ok (.goto (-32), 3) := by decide +kernel
theorem dX0_countLinksTo_46 : decode cX0_countLinksTo 46 = .ok (.iload_n 3, 1) := by decide +kernel
theorem dX0_countLinksTo_47 : decode cX0_countLinksTo 47 = .ok (.invokestatic 112, 3) := by decide +kernel
theorem dX0_countLinksTo_50 : decode cX0_countLinksTo 50 = .ok (.ireturn, 1) := by decide +kernel
theorem dX0_listLinks_0 : decode cX0_listLinks 0 = .ok (.iconst 0, 1) := by decide +kernel
theorem dX0_listLinks_1 : decode cX0_listLinks 1 = .ok (.istore_n 2, 1) := by decide +kernel
theorem dX0_listLinks_2 : decode cX0_listLinks 2 = .ok (.iload_n 2, 1) := by decide +kernel
theorem dX0_listLinks_3 : decode cX0_listLinks 3 = .ok (.bipush 96, 2) := by decide +kernel
theorem dX0_listLinks_5 : decode cX0_listLinks 5 = .ok (.if_icmp .ge 17, 3) := by decide +kernel
theorem dX0_listLinks_8 : decode cX0_listLinks 8 = .ok (.aload_n 1, 1) := by decide +kernel
theorem dX0_listLinks_9 : decode cX0_listLinks 9 = .ok (.iload_n 2, 1) := by decide +kernel
theorem dX0_listLinks_10 : decode cX0_listLinks 10 = .ok (.aload_n 0, 1) := by decide +kernel
theorem dX0_listLinks_11 : decode cX0_listLinks 11 = .ok (.iload_n 2, 1) := by decide +kernel
theorem dX0_listLinks_12 : decode cX0_listLinks 12 = .ok (.invokevirtual 127, 3) := by decide +kernel
theorem dX0_listLinks_15 : decode cX0_listLinks 15 = .ok (.iastore, 1) := by decide +kernel
theorem dX0_listLinks_16 : decode cX0_listLinks 16 = .ok (.iinc 2 1, 3) := by decide +kernel
theorem dX0_listLinks_19 : decode cX0_listLinks 19 = .ok (.goto (-17), 3) := by decide +kernel
theorem dX0_listLinks_22 : decode cX0_listLinks 22 = .ok (.return_, 1) := by decide +kernel
theorem dX0_divertMoved_0 : decode cX0_divertMoved 0 = .ok (.aload_n 0, 1) := by decide +kernel
theorem dX0_divertMoved_1 : decode cX0_divertMoved 1 = .ok (.getfield 9, 3) := by decide +kernel
theorem dX0_divertMoved_4 : decode cX0_divertMoved 4 = .ok (.ifCond .ne 5, 3) := by decide +kernel
theorem dX0_divertMoved_7 : decode cX0_divertMoved 7 = .ok (.iconst 0, 1) := by decide +kernel
theorem dX0_divertMoved_8 : decode cX0_divertMoved 8 = .ok (.ireturn, 1) := by decide +kernel
theorem dX0_divertMoved_9 : decode cX0_divertMoved 9 = .ok (.iconst 0, 1) := by decide +kernel
theorem dX0_divertMoved_10 : decode cX0_divertMoved 10 = .ok (.istore_n 2, 1) := by decide +kernel
theorem dX0_divertMoved_11 : decode cX0_divertMoved 11 = .ok (.iconst 0, 1) := by decide +kernel
theorem dX0_divertMoved_12 : decode cX0_divertMoved 12 = .ok (.istore_n 3, 1) := by decide +kernel
theorem dX0_divertMoved_13 : decode cX0_divertMoved 13 = .ok (.iload_n 3, 1) := by decide +kernel
theorem dX0_divertMoved_14 : decode cX0_divertMoved 14 = .ok (.bipush 96, 2) := by decide +kernel
theorem dX0_divertMoved_16 : decode cX0_divertMoved 16 = .ok (.if_icmp .ge 45, 3) := by decide +kernel
theorem dX0_divertMoved_19 : decode cX0_divertMoved 19 = .ok (.aload_n 1, 1) := by decide +kernel
theorem dX0_divertMoved_20 : decode cX0_divertMoved 20 = .ok (.iload_n 3, 1) := by decide +kernel
theorem dX0_divertMoved_21 : decode cX0_divertMoved 21 = .ok (.iaload, 1) := by decide +kernel
theorem dX0_divertMoved_22 : decode cX0_divertMoved 22 = .ok (.iconst (-1), 1) := by decide +kernel
theorem dX0_divertMoved_23 : decode cX0_divertMoved 23 = .ok (.if_icmp .eq 32, 3) := by decide +kernel
theorem dX0_divertMoved_26 : decode cX0_divertMoved 26 = .ok (.aload_n 1, 1) := by decide +kernel
theorem dX0_divertMoved_27 : decode cX0_divertMoved 27 = .ok (.iload_n 3, 1) := by decide +kernel
theorem dX0_divertMoved_28 : decode cX0_divertMoved 28 = .ok (.iaload, 1) := by decide +kernel
theorem dX0_divertMoved_29 : decode cX0_divertMoved 29 = .ok (.aload_n 0, 1) := by decide +kernel
theorem dX0_divertMoved_30 : decode cX0_divertMoved 30 = .ok (.iload_n 3, 1) := by decide +kernel
theorem dX0_divertMoved_31 : decode cX0_divertMoved 31 = .ok (.invokevirtual 127, 3) := by decide +kernel
theorem dX0_divertMoved_34 : decode cX0_divertMoved 34 = .ok (.if_icmp .eq 21, 3) := by decide +kernel
theorem dX0_divertMoved_37 : decode cX0_divertMoved 37 = .ok (.aload_n 0, 1) := by decide +kernel
theorem dX0_divertMoved_38 : decode cX0_divertMoved 38 = .ok (.getfield 34, 3) := by decide +kernel
theorem dX0_divertMoved_41 : decode cX0_divertMoved 41 = .ok (.iload_n 3, 1) := by decide +kernel
theorem dX0_divertMoved_42 : decode cX0_divertMoved 42 = .ok (.aload_n 0, 1) := by decide +kernel
theorem dX0_divertMoved_43 : decode cX0_divertMoved 43 = .ok (.getfield 49, 3) := by decide +kernel
theorem dX0_divertMoved_46 : decode cX0_divertMoved 46 = .ok (.aload_n 0, 1) := by decide +kernel
theorem dX0_divertMoved_47 : decode cX0_divertMoved 47 = .ok (.getfield 9, 3) := by decide +kernel
theorem dX0_divertMoved_50 : decode cX0_divertMoved 50 = .ok (.iadd, 1) := by decide +kernel
theorem dX0_divertMoved_51 : decode cX0_divertMoved 51 = .ok (.iastore, 1) := by decide +kernel
theorem dX0_divertMoved_52 : decode cX0_divertMoved 52 = .ok (.iinc 2 1, 3) := by decide +kernel
theorem dX0_divertMoved_55 : decode cX0_divertMoved 55 = .ok (.iinc 3 1, 3) := by decide +kernel
theorem dX0_divertMoved_58 : decode cX0_divertMoved 58 = .ok (.goto (-45), 3) := by decide +kernel
theorem dX0_divertMoved_61 : decode cX0_divertMoved 61 = .ok (.iload_n 2, 1) := by decide +kernel
theorem dX0_divertMoved_62 : decode cX0_divertMoved 62 = .ok (.ireturn, 1) := by decide +kernel
theorem dX0_accept_0 : decode cX0_accept 0 = .ok (.aload_n 0, 1) := by decide +kernel
theorem dX0_accept_1 : decode cX0_accept 1 = .ok (.getfield 52, 3) := by decide +kernel
theorem dX0_accept_4 : decode cX0_accept 4 = .ok (.istore 4, 2) := by decide +kernel
theorem dX0_accept_6 : decode cX0_accept 6 = .ok (.aload_n 0, 1) := by decide +kernel
theorem dX0_accept_7 : decode cX0_accept 7 = .ok (.dup, 1) := by decide +kernel
theorem dX0_accept_8 : decode cX0_accept 8 = .ok (.getfield 52, 3) := by decide +kernel
theorem dX0_accept_11 : decode cX0_accept 11 = .ok (.iconst 1, 1) := by decide +kernel
theorem dX0_accept_12 : decode cX0_accept 12 = .ok (.iadd, 1) := by decide +kernel
theorem dX0_accept_13 : decode cX0_accept 13 = .ok (.putfield 52, 3) := by decide +kernel
theorem dX0_accept_16 : decode cX0_accept 16 = .ok (.iload_n 1, 1) := by decide +kernel
theorem dX0_accept_17 : decode cX0_accept 17 = .ok (.iload_n 2, 1) := by decide +kernel
theorem dX0_accept_18 : decode cX0_accept 18 = .ok (.invokestatic 130, 3) := by decide +kernel
theorem dX0_accept_21 : decode cX0_accept 21 = .ok (.istore 5, 2) := by decide +kernel
theorem dX0_accept_23 : decode cX0_accept 23 = .ok (.iload 4, 2) := by decide +kernel
theorem dX0_accept_25 : decode cX0_accept 25 = .ok (.iload 5, 2) := by decide +kernel
theorem dX0_accept_27 : decode cX0_accept 27 = .ok (.invokestatic 133, 3) := by decide +kernel
theorem dX0_accept_30 : decode cX0_accept 30 = .ok (.istore 6, 2) := by decide +kernel
theorem dX0_accept_32 : decode cX0_accept 32 = .ok (.aload_n 0, 1) := by decide +kernel
theorem dX0_accept_33 : decode cX0_accept 33 = .ok (.iload 5, 2) := by decide +kernel
theorem dX0_accept_35 : decode cX0_accept 35 = .ok (.invokevirtual 136, 3) := by decide +kernel
theorem dX0_accept_38 : decode cX0_accept 38 = .ok (.ifCond .eq 12, 3) := by decide +kernel
theorem dX0_accept_41 : decode cX0_accept 41 = .ok (.aload_n 0, 1) := by decide +kernel
theorem dX0_accept_42 : decode cX0_accept 42 = .ok (.iload 6, 2) := by decide +kernel
theorem dX0_accept_44 : decode cX0_accept 44 = .ok (.invokevirtual 139, 3) := by decide +kernel
theorem dX0_accept_47 : decode cX0_accept 47 = .ok (.iload 4, 2) := by decide +kernel
theorem dX0_accept_49 : decode cX0_accept 49 = .ok (.ireturn, 1) := by decide +kernel
theorem dX0_accept_50 : decode cX0_accept 50 = .ok (.aload_n 0, 1) := by decide +kernel
theorem dX0_accept_51 : decode cX0_accept 51 = .ok (.iload 5, 2) := by decide +kernel
theorem dX0_accept_53 : decode cX0_accept 53 = .ok (.invokevirtual 127, 3) := by decide +kernel
theorem dX0_accept_56 : decode cX0_accept 56 = .ok (.istore 7, 2) := by decide +kernel
theorem dX0_accept_58 : decode cX0_accept 58 = .ok (.iload 7, 2) := by decide +kernel
theorem dX0_accept_60 : decode cX0_accept 60 = .ok (.iconst (-1), 1) := by decide +kernel
theorem dX0_accept_61 : decode cX0_accept 61 = .ok (.if_icmp .eq 26, 3) := by decide +kernel
theorem dX0_accept_64 : decode cX0_accept 64 = .ok (.aload_n 0, 1) := by decide +kernel
theorem dX0_accept_65 : decode cX0_accept 65 = .ok (.iload 7, 2) := by decide +kernel
theorem dX0_accept_67 : decode cX0_accept 67 = .ok (.invokevirtual 142, 3) := by decide +kernel
theorem dX0_accept_70 : decode cX0_accept 70 = .ok (.iload_n 3, 1) := by decide +kernel
theorem dX0_accept_71 : decode cX0_accept 71 = .ok (.if_icmp .le 16, 3) := by decide +kernel
theorem dX0_accept_74 : decode cX0_accept 74 = .ok (.aload_n 0, 1) := by decide +kernel
theorem dX0_accept_75 : decode cX0_accept 75 = .ok (.dup, 1) := by decide +kernel
theorem dX0_accept_76 : decode cX0_accept 76 = .ok (.getfield 64, 3) := by decide +kernel
theorem dX0_accept_79 : decode cX0_accept 79 = .ok (.iconst 1, 1) := by decide +kernel
theorem dX0_accept_80 : decode cX0_accept 80 = .ok (.iadd, 1) := by decide +kernel
theorem dX0_accept_81 : decode cX0_accept 81 = .ok (.putfield 64, 3) := by decide +kernel
theorem dX0_accept_84 : decode cX0_accept 84 = .ok (.iload 4, 2) := by decide +kernel
theorem dX0_accept_86 : decode cX0_accept 86 = .ok (.ireturn, 1) := by decide +kernel
theorem dX0_accept_87 : decode cX0_accept 87 = .ok (.aload_n 0, 1) := by decide +kernel
theorem dX0_accept_88 : decode cX0_accept 88 = .ok (.iload 6, 2) := by decide +kernel
theorem dX0_accept_90 : decode cX0_accept 90 = .ok (.invokevirtual 102, 3) := by decide +kernel
theorem dX0_accept_93 : decode cX0_accept 93 = .ok (.iload 4, 2) := by decide +kernel
theorem dX0_accept_95 : decode cX0_accept 95 = .ok (.ireturn, 1) := by decide +kernel
theorem dX0_hold_0 : decode cX0_hold 0 = .ok (.aload_n 0, 1) := by decide +kernel
theorem dX0_hold_1 : decode cX0_hold 1 = .ok (.getfield 73, 3) := by decide +kernel
theorem dX0_hold_4 : decode cX0_hold 4 = .ok (.bipush 24, 2) := by decide +kernel
theorem dX0_hold_6 : decode cX0_hold 6 = .ok (.if_icmp .lt 14, 3) := by decide +kernel
theorem dX0_hold_9 : decode cX0_hold 9 = .ok (.aload_n 0, 1) := by decide +kernel
theorem dX0_hold_10 : decode cX0_hold 10 = .ok (.dup, 1) := by decide +kernel
theorem dX0_hold_11 : decode cX0_hold 11 = .ok (.getfield 67, 3) := by decide +kernel
theorem dX0_hold_14 : decode cX0_hold 14 = .ok (.iconst 1, 1) := by decide +kernel
theorem dX0_hold_15 : decode cX0_hold 15 = .ok (.iadd, 1) := by decide +kernel
theorem dX0_hold_16 : decode cX0_hold 16 = .ok (.putfield 67, 3) := by decide +kernel
theorem dX0_hold_19 : decode cX0_hold 19 = .ok (.return_, 1) := by decide +kernel
theorem dX0_hold_20 : decode cX0_hold 20 = .ok (.aload_n 0, 1) := by decide +kernel
theorem dX0_hold_21 : decode cX0_hold 21 = .ok (.getfield 40, 3) := by decide +kernel
theorem dX0_hold_24 : decode cX0_hold 24 = .ok (.aload_n 0, 1) := by decide +kernel
theorem dX0_hold_25 : decode cX0_hold 25 = .ok (.getfield 73, 3) := by decide +kernel
theorem dX0_hold_28 : decode cX0_hold 28 = .ok (.iload_n 1, 1) := by decide +kernel
theorem dX0_hold_29 : decode cX0_hold 29 = .ok (.iastore, 1) := by decide +kernel
theorem dX0_hold_30 : decode cX0_hold 30 = .ok (.aload_n 0, 1) := by decide +kernel
theorem dX0_hold_31 : decode cX0_hold 31 = .ok (.dup, 1) := by decide +kernel
theorem dX0_hold_32 : decode cX0_hold 32 = .ok (.getfield 73, 3) := by decide +kernel
theorem dX0_hold_35 : decode cX0_hold 35 = .ok (.iconst 1, 1) := by decide +kernel
theorem dX0_hold_36 : decode cX0_hold 36 = .ok (.iadd, 1) := by decide +kernel
theorem dX0_hold_37 : decode cX0_hold 37 = .ok (.putfield 73, 3) := by decide +kernel
theorem dX0_hold_40 : decode cX0_hold 40 = .ok (.return_, 1) := by decide +kernel
theorem dX0_dispatch_0 : decode cX0_dispatch 0 = .ok (.aload_n 0, 1) := by decide +kernel
theorem dX0_dispatch_1 : decode cX0_dispatch 1 = .ok (.iload_n 1, 1) := by decide +kernel
theorem dX0_dispatch_2 : decode cX0_dispatch 2 = .ok (.invokestatic 145, 3) := by decide +kernel
theorem dX0_dispatch_5 : decode cX0_dispatch 5 = .ok (.invokevirtual 127, 3) := by decide +kernel
theorem dX0_dispatch_8 : decode cX0_dispatch 8 = .ok (.istore_n 2, 1) := by decide +kernel
theorem dX0_dispatch_9 : decode cX0_dispatch 9 = .ok (.iload_n 2, 1) := by decide +kernel
theorem dX0_dispatch_10 : decode cX0_dispatch 10 = .ok (.iconst (-1), 1) := by decide +kernel
theorem dX0_dispatch_11 : decode cX0_dispatch 11 = .ok (.if_icmp .ne 14, 3) := by decide +kernel
theorem dX0_dispatch_14 : decode cX0_dispatch 14 = .ok (.aload_n 0, 1) := by decide +kernel
theorem dX0_dispatch_15 : decode cX0_dispatch 15 = .ok (.dup, 1) := by decide +kernel
theorem dX0_dispatch_16 : decode cX0_dispatch 16 = .ok (.getfield 61, 3) := by decide +kernel
theorem dX0_dispatch_19 : decode cX0_dispatch 19 = .ok (.iconst 1, 1) := by decide +kernel
theorem dX0_dispatch_20 : decode cX0_dispatch 20 = .ok (.iadd, 1) := by decide +kernel
theorem dX0_dispatch_21 : decode cX0_dispatch 21 = .ok (.putfield 61, 3) := by decide +kernel
theorem dX0_dispatch_24 : decode cX0_dispatch 24 = .ok (.return_, 1) := by decide +kernel
theorem dX0_dispatch_25 : decode cX0_dispatch 25 = .ok (.aload_n 0, 1) := by decide +kernel
theorem dX0_dispatch_26 : decode cX0_dispatch 26 = .ok (.getfield 22, 3) := by decide +kernel
theorem dX0_dispatch_29 : decode cX0_dispatch 29 = .ok (.iload_n 2, 1) := by decide +kernel
theorem dX0_dispatch_30 : decode cX0_dispatch 30 = .ok (.iaload, 1) := by decide +kernel
theorem dX0_dispatch_31 : decode cX0_dispatch 31 = .ok (.istore_n 3, 1) := by decide +kernel
theorem dX0_dispatch_32 : decode cX0_dispatch 32 = .ok (.iload_n 3, 1) := by decide +kernel
theorem dX0_dispatch_33 : decode cX0_dispatch 33 = .ok (.bipush 10, 2) := by decide +kernel
theorem dX0_dispatch_35 : decode cX0_dispatch 35 = .ok (.if_icmp .lt 14, 3) := by decide +kernel
theorem dX0_dispatch_38 : decode cX0_dispatch 38 = .ok (.aload_n 0, 1) := by decide +kernel
theorem dX0_dispatch_39 : decode cX0_dispatch 39 = .ok (.dup, 1) := by decide +kernel
theorem dX0_dispatch_40 : decode cX0_dispatch 40 = .ok (.getfield 67, 3) := by decide +kernel
theorem dX0_dispatch_43 : decode cX0_dispatch 43 = .ok (.iconst 1, 1) := by decide +kernel
theorem dX0_dispatch_44 : decode cX0_dispatch 44 = .ok (.iadd, 1) := by decide +kernel
theorem dX0_dispatch_45 : decode cX0_dispatch 45 = .ok (.putfield 67, 3) := by decide +kernel
theorem dX0_dispatch_48 : decode cX0_dispatch 48 = .ok (.return_, 1) := by decide +kernel
theorem dX0_dispatch_49 : decode cX0_dispatch 49 = .ok (.aload_n 0, 1) := by decide +kernel
theorem dX0_dispatch_50 : decode cX0_dispatch 50 = .ok (.getfield 25, 3) := by decide +kernel
theorem dX0_dispatch_53 : decode cX0_dispatch 53 = .ok (.iload_n 2, 1) := by decide +kernel
theorem dX0_dispatch_54 : decode cX0_dispatch 54 = .ok (.bipush 10, 2) := by decide +kernel
theorem dX0_dispatch_56 : decode cX0_dispatch 56 = .ok (.imul, 1) := by decide +kernel
theorem dX0_dispatch_57 : decode cX0_dispatch 57 = .ok (.iload_n 3, 1) := by decide +kernel
theorem dX0_dispatch_58 : decode cX0_dispatch 58 = .ok (.iadd, 1) := by decide +kernel
theorem dX0_dispatch_59 : decode cX0_dispatch 59 = .ok (.iload_n 1, 1) := by decide +kernel
theorem dX0_dispatch_60 : decode cX0_dispatch 60 = .ok (.iastore, 1) := by decide +kernel
theorem dX0_dispatch_61 : decode cX0_dispatch 61 = .ok (.aload_n 0, 1) := by decide +kernel
theorem dX0_dispatch_62 : decode cX0_dispatch 62 = .ok (.getfield 22, 3) := by decide +kernel
theorem dX0_dispatch_65 : decode cX0_dispatch 65 = .ok (.iload_n 2, 1) := by decide +kernel
theorem dX0_dispatch_66 : decode cX0_dispatch 66 = .ok (.iload_n 3, 1) := by decide +kernel
theorem dX0_dispatch_67 : decode cX0_dispatch 67 = .ok (.iconst 1, 1) := by decide +kernel
theorem dX0_dispatch_68 : decode cX0_dispatch 68 = .ok (.iadd, 1) := by decide +kernel
theorem dX0_dispatch_69 : decode cX0_dispatch 69 = .ok (.iastore, 1) := by decide +kernel
theorem dX0_dispatch_70 : decode cX0_dispatch 70 = .ok (.return_, 1) := by decide +kernel
theorem dX0_releaseHeld_0 : decode cX0_releaseHeld 0 = .ok (.aload_n 0, 1) := by decide +kernel
theorem dX0_releaseHeld_1 : decode cX0_releaseHeld 1 = .ok (.getfield 73, 3) := by decide +kernel
theorem dX0_releaseHeld_4 : decode cX0_releaseHeld 4 = .ok (.istore_n 1, 1) := by decide +kernel
theorem dX0_releaseHeld_5 : decode cX0_releaseHeld 5 = .ok (.iconst 0, 1) := by decide +kernel
theorem dX0_releaseHeld_6 : decode cX0_releaseHeld 6 = .ok (.istore_n 2, 1) := by decide +kernel
theorem dX0_releaseHeld_7 : decode cX0_releaseHeld 7 = .ok (.iconst 0, 1) := by decide +kernel
theorem dX0_releaseHeld_8 : decode cX0_releaseHeld 8 = .ok (.istore_n 3, 1) := by decide +kernel
theorem dX0_releaseHeld_9 : decode cX0_releaseHeld 9 = .ok (.iload_n 3, 1) := by decide +kernel
theorem dX0_releaseHeld_10 : decode cX0_releaseHeld 10 = .ok (.iload_n 1, 1) := by decide +kernel
theorem dX0_releaseHeld_11 : decode cX0_releaseHeld 11 = .ok (.if_icmp .ge 49, 3) := by decide +kernel
theorem dX0_releaseHeld_14 : decode cX0_releaseHeld 14 = .ok (.aload_n 0, 1) := by decide +kernel
theorem dX0_releaseHeld_15 : decode cX0_releaseHeld 15 = .ok (.getfield 40, 3) := by decide +kernel
theorem dX0_releaseHeld_18 : decode cX0_releaseHeld 18 = .ok (.iload_n 3, 1) := by decide +kernel
theorem dX0_releaseHeld_19 : decode cX0_releaseHeld 19 = .ok (.iaload, 1) := by decide +kernel
theorem dX0_releaseHeld_20 : decode cX0_releaseHeld 20 = .ok (.istore 4, 2) := by decide +kernel
theorem dX0_releaseHeld_22 : decode cX0_releaseHeld 22 = .ok (.aload_n 0, 1) := by decide +kernel
theorem dX0_releaseHeld_23 : decode cX0_releaseHeld 23 = .ok (.iload 4, 2) := by decide +kernel
theorem dX0_releaseHeld_25 : decode cX0_releaseHeld 25 = .ok (.invokestatic 145, 3) := by decide +kernel
theorem dX0_releaseHeld_28 : decode cX0_releaseHeld 28 = .ok (.invokevirtual 136, 3) := by decide +kernel
theorem dX0_releaseHeld_31 : decode cX0_releaseHeld 31 = .ok (.ifCond .eq 17, 3) := by decide +kernel
theorem dX0_releaseHeld_34 : decode cX0_releaseHeld 34 = .ok (.aload_n 0, 1) := by decide +kernel
theorem dX0_releaseHeld_35 : decode cX0_releaseHeld 35 = .ok (.getfield 40, 3) := by decide +kernel
theorem dX0_releaseHeld_38 : decode cX0_releaseHeld 38 = .ok (.iload_n 2, 1) := by decide +kernel
theorem dX0_releaseHeld_39 : decode cX0_releaseHeld 39 = .ok (.iload 4, 2) := by decide +kernel
theorem dX0_releaseHeld_41 : decode cX0_releaseHeld 41 = .ok (.iastore, 1) := by decide +kernel
theorem dX0_releaseHeld_42 : decode cX0_releaseHeld 42 = .ok (.iinc 2 1, 3) := by decide +kernel
theorem dX0_releaseHeld_45 : decode cX0_releaseHeld 45 = .ok (.goto 9, 3) := by decide +kernel
theorem dX0_releaseHeld_48 : decode cX0_releaseHeld 48 = .ok (.aload_n 0, 1) := by decide +kernel
theorem dX0_releaseHeld_49 : decode cX0_releaseHeld 49 = .ok (.iload 4, 2) := by decide +kernel
theorem dX0_releaseHeld_51 : decode cX0_releaseHeld 51 = .ok (.invokevirtual 102, 3) := by decide +kernel
theorem dX0_releaseHeld_54 : decode cX0_releaseHeld 54 = .ok (.iinc 3 1, 3) := by decide +kernel
theorem dX0_releaseHeld_57 : decode cX0_releaseHeld 57 = .ok (.goto (-48), 3) := by decide +kernel
theorem dX0_releaseHeld_60 : decode cX0_releaseHeld 60 = .ok (.aload_n 0, 1) := by decide +kernel
theorem dX0_releaseHeld_61 : decode cX0_releaseHeld 61 = .ok (.iload_n 2, 1) := by decide +kernel
theorem dX0_releaseHeld_62 : decode cX0_releaseHeld 62 = .ok (.putfield 73, 3) := by decide +kernel
theorem dX0_releaseHeld_65 : decode cX0_releaseHeld 65 = .ok (.iload_n 1, 1) := by decide +kernel
theorem dX0_releaseHeld_66 : decode cX0_releaseHeld 66 = .ok (.iload_n 2, 1) := by decide +kernel
theorem dX0_releaseHeld_67 : decode cX0_releaseHeld 67 = .ok (.isub, 1) := by decide +kernel
theorem dX0_releaseHeld_68 : decode cX0_releaseHeld 68 = .ok (.ireturn, 1) := by decide +kernel
theorem dX0_deliverOldest_0 : decode cX0_deliverOldest 0 = .ok (.aload_n 0, 1) := by decide +kernel
theorem dX0_deliverOldest_1 : decode cX0_deliverOldest 1 = .ok (.getfield 22, 3) := by decide +kernel
theorem dX0_deliverOldest_4 : decode cX0_deliverOldest 4 = .ok (.iload_n 1, 1) := by decide +kernel
theorem dX0_deliverOldest_5 : decode cX0_deliverOldest 5 = .ok (.iaload, 1) := by decide +kernel
theorem dX0_deliverOldest_6 : decode cX0_deliverOldest 6 = .ok (.istore_n 3, 1) := by decide +kernel
theorem dX0_deliverOldest_7 : decode cX0_deliverOldest 7 = .ok (.iload_n 2, 1) := by decide +kernel
theorem dX0_deliverOldest_8 : decode cX0_deliverOldest 8 = .ok (.iload_n 3, 1) := by decide +kernel
theorem dX0_deliverOldest_9 : decode cX0_deliverOldest 9 = .ok (.invokestatic 80, 3) := by decide +kernel
theorem dX0_deliverOldest_12 : decode cX0_deliverOldest 12 = .ok (.istore 4, 2) := by decide +kernel
theorem dX0_deliverOldest_14 : decode cX0_deliverOldest 14 = .ok (.iload_n 1, 1) := by decide +kernel
theorem dX0_deliverOldest_15 : decode cX0_deliverOldest 15 = .ok (.bipush 10, 2) := by decide +kernel
theorem dX0_deliverOldest_17 : decode cX0_deliverOldest 17 = .ok (.imul, 1) := by decide +kernel
theorem dX0_deliverOldest_18 : decode cX0_deliverOldest 18 = .ok (.istore 5, 2) := by decide +kernel
theorem dX0_deliverOldest_20 : decode cX0_deliverOldest 20 = .ok (.iconst 0, 1) := by decide +kernel
theorem dX0_deliverOldest_21 : decode cX0_deliverOldest 21 = .ok (.istore 6, 2) := by decide +kernel
theorem dX0_deliverOldest_23 : decode cX0_deliverOldest 23 = .ok (.iload 6, 2) := by decide +kernel
theorem dX0_deliverOldest_25 : decode cX0_deliverOldest 25 = .ok (.iload 4, 2) := by decide +kernel
theorem dX0_deliverOldest_27 : decode cX0_deliverOldest 27 = .ok (.if_icmp .ge 23, 3) := by decide +kernel
theorem dX0_deliverOldest_30 : decode cX0_deliverOldest 30 = .ok (.aload_n 0, 1) := by decide +kernel
theorem dX0_deliverOldest_31 : decode cX0_deliverOldest 31 = .ok (.aload_n 0, 1) := by decide +kernel
theorem dX0_deliverOldest_32 : decode cX0_deliverOldest 32 = .ok (.getfield 25, 3) := by decide +kernel
theorem dX0_deliverOldest_35 : decode cX0_deliverOldest 35 = .ok (.iload 5, 2) := by decide +kernel
theorem dX0_deliverOldest_37 : decode cX0_deliverOldest 37 = .ok (.iload 6, 2) := by decide +kernel
theorem dX0_deliverOldest_39 : decode cX0_deliverOldest 39 = .ok (.iadd, 1) := by decide +kernel
theorem dX0_deliverOldest_40 : decode cX0_deliverOldest 40 = .ok (.iaload, 1) := by decide +kernel
theorem dX0_deliverOldest_41 : decode cX0_deliverOldest 41 = .ok (.invokevirtual 148, 3) := by decide +kernel
theorem dX0_deliverOldest_44 : decode cX0_deliverOldest 44 = .ok (.iinc 6 1, 3) := by decide +kernel
theorem dX0_deliverOldest_47 : decode cX0_deliverOldest 47 = .ok (.goto (-24), 3) := by decide +kernel
theorem dX0_deliverOldest_50 : decode cX0_deliverOldest 50 = .ok (.iload 4, 2) := by decide +kernel
theorem dX0_deliverOldest_52 : decode cX0_deliverOldest 52 = .ok (.istore 6, 2) := by decide +kernel
theorem dX0_deliverOldest_54 : decode cX0_deliverOldest 54 = .ok (.iload 6, 2) := by decide +kernel
theorem dX0_deliverOldest_56 : decode cX0_deliverOldest 56 = .ok (.iload_n 3, 1) := by decide +kernel
theorem dX0_deliverOldest_57 : decode cX0_deliverOldest 57 = .ok (.if_icmp .ge 32, 3) := by decide +kernel
theorem dX0_deliverOldest_60 : decode cX0_deliverOldest 60 = .ok (.aload_n 0, 1) := by decide +kernel
theorem dX0_deliverOldest_61 : decode cX0_deliverOldest 61 = .ok (.getfield 25, 3) := by decide +kernel
theorem dX0_deliverOldest_64 : decode cX0_deliverOldest 64 = .ok (.iload 5, 2) := by decide +kernel
theorem dX0_deliverOldest_66 : decode cX0_deliverOldest 66 = .ok (.iload 6, 2) := by decide +kernel
theorem dX0_deliverOldest_68 : decode cX0_deliverOldest 68 = .ok (.iadd, 1) := by decide +kernel
theorem dX0_deliverOldest_69 : decode cX0_deliverOldest 69 = .ok (.iload 4, 2) := by decide +kernel
theorem dX0_deliverOldest_71 : decode cX0_deliverOldest 71 = .ok (.isub, 1) := by decide +kernel
theorem dX0_deliverOldest_72 : decode cX0_deliverOldest 72 = .ok (.aload_n 0, 1) := by decide +kernel
theorem dX0_deliverOldest_73 : decode cX0_deliverOldest 73 = .ok (.getfield 25, 3) := by decide +kernel
theorem dX0_deliverOldest_76 : decode cX0_deliverOldest 76 = .ok (.iload 5, 2) := by decide +kernel
theorem dX0_deliverOldest_78 : decode cX0_deliverOldest 78 = .ok (.iload 6, 2) := by decide +kernel
theorem dX0_deliverOldest_80 : decode cX0_deliverOldest 80 = .ok (.iadd, 1) := by decide +kernel
theorem dX0_deliverOldest_81 : decode cX0_deliverOldest 81 = .ok (.iaload, 1) := by decide +kernel
theorem dX0_deliverOldest_82 : decode cX0_deliverOldest 82 = .ok (.iastore, 1) := by decide +kernel
theorem dX0_deliverOldest_83 : decode cX0_deliverOldest 83 = .ok (.iinc 6 1, 3) := by decide +kernel
theorem dX0_deliverOldest_86 : decode cX0_deliverOldest 86 = .ok (.goto (-32), 3) := by decide +kernel
theorem dX0_deliverOldest_89 : decode cX0_deliverOldest 89 = .ok (.aload_n 0, 1) := by decide +kernel
theorem dX0_deliverOldest_90 : decode cX0_deliverOldest 90 = .ok (.getfield 22, 3) := by decide +kernel
theorem dX0_deliverOldest_93 : decode cX0_deliverOldest 93 = .ok (.iload_n 1, 1) := by decide +kernel
theorem dX0_deliverOldest_94 : decode cX0_deliverOldest 94 = .ok (.iload_n 3, 1) := by decide +kernel
theorem dX0_deliverOldest_95 : decode cX0_deliverOldest 95 = .ok (.iload 4, 2) := by decide +kernel
theorem dX0_deliverOldest_97 : decode cX0_deliverOldest 97 = .ok (.isub, 1) := by decide +kernel
theorem dX0_deliverOldest_98 : decode cX0_deliverOldest 98 = .ok (.iastore, 1) := by decide +kernel
theorem dX0_deliverOldest_99 : decode cX0_deliverOldest 99 = .ok (.iload 4, 2) := by decide +kernel
theorem dX0_deliverOldest_101 : decode cX0_deliverOldest 101 = .ok (.ireturn, 1) := by decide +kernel
theorem dX0_deliver_0 : decode cX0_deliver 0 = .ok (.iload_n 1, 1) := by decide +kernel
theorem dX0_deliver_1 : decode cX0_deliver 1 = .ok (.invokestatic 145, 3) := by decide +kernel
theorem dX0_deliver_4 : decode cX0_deliver 4 = .ok (.istore_n 2, 1) := by decide +kernel
theorem dX0_deliver_5 : decode cX0_deliver 5 = .ok (.iload_n 1, 1) := by decide +kernel
theorem dX0_deliver_6 : decode cX0_deliver 6 = .ok (.invokestatic 151, 3) := by decide +kernel
theorem dX0_deliver_9 : decode cX0_deliver 9 = .ok (.istore_n 3, 1) := by decide +kernel
theorem dX0_deliver_10 : decode cX0_deliver 10 = .ok (.aload_n 0, 1) := by decide +kernel
theorem dX0_deliver_11 : decode cX0_deliver 11 = .ok (.dup, 1) := by decide +kernel
theorem dX0_deliver_12 : decode cX0_deliver 12 = .ok (.getfield 55, 3) := by decide +kernel
theorem dX0_deliver_15 : decode cX0_deliver 15 = .ok (.iconst 1, 1) := by decide +kernel
theorem dX0_deliver_16 : decode cX0_deliver 16 = .ok (.iadd, 1) := by decide +kernel
theorem dX0_deliver_17 : decode cX0_deliver 17 = .ok (.putfield 55, 3) := by decide +kernel
theorem dX0_deliver_20 : decode cX0_deliver 20 = .ok (.iload_n 3, 1) := by decide +kernel
theorem dX0_deliver_21 : decode cX0_deliver 21 = .ok (.aload_n 0, 1) := by decide +kernel
theorem dX0_deliver_22 : decode cX0_deliver 22 = .ok (.getfield 37, 3) := by decide +kernel
theorem dX0_deliver_25 : decode cX0_deliver 25 = .ok (.iload_n 2, 1) := by decide +kernel
theorem dX0_deliver_26 : decode cX0_deliver 26 = .ok (.iaload, 1) := by decide +kernel
theorem dX0_deliver_27 : decode cX0_deliver 27 = .ok (.if_icmp .ge 16, 3) := by decide +kernel
theorem dX0_deliver_30 : decode cX0_deliver 30 = .ok (.aload_n 0, 1) := by decide +kernel
theorem dX0_deliver_31 : decode cX0_deliver 31 = .ok (.dup, 1) := by decide +kernel
theorem dX0_deliver_32 : decode cX0_deliver 32 = .ok (.getfield 58, 3) := by decide +kernel
theorem dX0_deliver_35 : decode cX0_deliver 35 = .ok (.iconst 1, 1) := by decide +kernel
theorem dX0_deliver_36 : decode cX0_deliver 36 = .ok (.iadd, 1) := by decide +kernel
theorem dX0_deliver_37 : decode cX0_deliver 37 = .ok (.putfield 58, 3) := by decide +kernel
theorem dX0_deliver_40 : decode cX0_deliver 40 = .ok (.goto 10, 3) := by decide +kernel
theorem dX0_deliver_43 : decode cX0_deliver 43 = .ok (.aload_n 0, 1) := by decide +kernel
theorem dX0_deliver_44 : decode cX0_deliver 44 = .ok (.getfield 37, 3) := by decide +kernel
theorem dX0_deliver_47 : decode cX0_deliver 47 = .ok (.iload_n 2, 1) := by decide +kernel
theorem dX0_deliver_48 : decode cX0_deliver 48 = .ok (.iload_n 3, 1) := by decide +kernel
theorem dX0_deliver_49 : decode cX0_deliver 49 = .ok (.iastore, 1) := by decide +kernel
theorem dX0_deliver_50 : decode cX0_deliver 50 = .ok (.return_, 1) := by decide +kernel
theorem dX0_mixCounters_0 : decode cX0_mixCounters 0 = .ok (.lload_n 1, 1) := by decide +kernel
theorem dX0_mixCounters_1 : decode cX0_mixCounters 1 = .ok (.aload_n 0, 1) := by decide +kernel
theorem dX0_mixCounters_2 : decode cX0_mixCounters 2 = .ok (.getfield 49, 3) := by decide +kernel
theorem dX0_mixCounters_5 : decode cX0_mixCounters 5 = .ok (.invokestatic 154, 3) := by decide +kernel
theorem dX0_mixCounters_8 : decode cX0_mixCounters 8 = .ok (.lstore_n 3, 1) := by decide +kernel
theorem dX0_mixCounters_9 : decode cX0_mixCounters 9 = .ok (.lload_n 3, 1) := by decide +kernel
theorem dX0_mixCounters_10 : decode cX0_mixCounters 10 = .ok (.aload_n 0, 1) := by decide +kernel
theorem dX0_mixCounters_11 : decode cX0_mixCounters 11 = .ok (.getfield 9, 3) := by decide +kernel
theorem dX0_mixCounters_14 : decode cX0_mixCounters 14 = .ok (.invokestatic 154, 3) := by decide +kernel
theorem dX0_mixCounters_17 : decode cX0_mixCounters 17 = .ok (.lstore_n 3, 1) := by decide +kernel
theorem dX0_mixCounters_18 : decode cX0_mixCounters 18 = .ok (.lload_n 3, 1) := by decide +kernel
theorem dX0_mixCounters_19 : decode cX0_mixCounters 19 = .ok (.aload_n 0, 1) := by decide +kernel
theorem dX0_mixCounters_20 : decode cX0_mixCounters 20 = .ok (.getfield 52, 3) := by decide +kernel
theorem dX0_mixCounters_23 : decode cX0_mixCounters 23 = .ok (.invokestatic 154, 3) := by decide +kernel
theorem dX0_mixCounters_26 : decode cX0_mixCounters 26 = .ok (.lstore_n 3, 1) := by decide +kernel
theorem dX0_mixCounters_27 : decode cX0_mixCounters 27 = .ok (.lload_n 3, 1) := by decide +kernel
theorem dX0_mixCounters_28 : decode cX0_mixCounters 28 = .ok (.aload_n 0, 1) := by decide +kernel
theorem dX0_mixCounters_29 : decode cX0_mixCounters 29 = .ok (.getfield 55, 3) := by decide +kernel
theorem dX0_mixCounters_32 : decode cX0_mixCounters 32 = .ok (.invokestatic 154, 3) := by decide +kernel
theorem dX0_mixCounters_35 : decode cX0_mixCounters 35 = .ok (.lstore_n 3, 1) := by decide +kernel
theorem dX0_mixCounters_36 : decode cX0_mixCounters 36 = .ok (.lload_n 3, 1) := by decide +kernel
theorem dX0_mixCounters_37 : decode cX0_mixCounters 37 = .ok (.aload_n 0, 1) := by decide +kernel
theorem dX0_mixCounters_38 : decode cX0_mixCounters 38 = .ok (.getfield 58, 3) := by decide +kernel
theorem dX0_mixCounters_41 : decode cX0_mixCounters 41 = .ok (.invokestatic 154, 3) := by decide +kernel
theorem dX0_mixCounters_44 : decode cX0_mixCounters 44 = .ok (.lstore_n 3, 1) := by decide +kernel
theorem dX0_mixCounters_45 : decode cX0_mixCounters 45 = .ok (.lload_n 3, 1) := by decide +kernel
theorem dX0_mixCounters_46 : decode cX0_mixCounters 46 = .ok (.aload_n 0, 1) := by decide +kernel
theorem dX0_mixCounters_47 : decode cX0_mixCounters 47 = .ok (.getfield 61, 3) := by decide +kernel
theorem dX0_mixCounters_50 : decode cX0_mixCounters 50 = .ok (.invokestatic 154, 3) := by decide +kernel
theorem dX0_mixCounters_53 : decode cX0_mixCounters 53 = .ok (.lstore_n 3, 1) := by decide +kernel
theorem dX0_mixCounters_54 : decode cX0_mixCounters 54 = .ok (.lload_n 3, 1) := by decide +kernel
theorem dX0_mixCounters_55 : decode cX0_mixCounters 55 = .ok (.aload_n 0, 1) := by decide +kernel
theorem dX0_mixCounters_56 : decode cX0_mixCounters 56 = .ok (.getfield 64, 3) := by decide +kernel
theorem dX0_mixCounters_59 : decode cX0_mixCounters 59 = .ok (.invokestatic 154, 3) := by decide +kernel
theorem dX0_mixCounters_62 : decode cX0_mixCounters 62 = .ok (.lstore_n 3, 1) := by decide +kernel
theorem dX0_mixCounters_63 : decode cX0_mixCounters 63 = .ok (.lload_n 3, 1) := by decide +kernel
theorem dX0_mixCounters_64 : decode cX0_mixCounters 64 = .ok (.aload_n 0, 1) := by decide +kernel
theorem dX0_mixCounters_65 : decode cX0_mixCounters 65 = .ok (.getfield 67, 3) := by decide +kernel
theorem dX0_mixCounters_68 : decode cX0_mixCounters 68 = .ok (.invokestatic 154, 3) := by decide +kernel
theorem dX0_mixCounters_71 : decode cX0_mixCounters 71 = .ok (.lreturn, 1) := by decide +kernel
theorem dX0_mixLinksets_0 : decode cX0_mixLinksets 0 = .ok (.lload_n 1, 1) := by decide +kernel
theorem dX0_mixLinksets_1 : decode cX0_mixLinksets 1 = .ok (.aload_n 0, 1) := by decide +kernel
theorem dX0_mixLinksets_2 : decode cX0_mixLinksets 2 = .ok (.getfield 70, 3) := by decide +kernel
theorem dX0_mixLinksets_5 : decode cX0_mixLinksets 5 = .ok (.invokestatic 154, 3) := by decide +kernel
theorem dX0_mixLinksets_8 : decode cX0_mixLinksets 8 = .ok (.lstore_n 3, 1) := by decide +kernel
theorem dX0_mixLinksets_9 : decode cX0_mixLinksets 9 = .ok (.iconst 0, 1) := by decide +kernel
theorem dX0_mixLinksets_10 : decode cX0_mixLinksets 10 = .ok (.istore 5, 2) := by decide +kernel
theorem dX0_mixLinksets_12 : decode cX0_mixLinksets 12 = .ok (.iload 5, 2) := by decide +kernel
theorem dX0_mixLinksets_14 : decode cX0_mixLinksets 14 = .ok (.aload_n 0, 1) := by decide +kernel
theorem dX0_mixLinksets_15 : decode cX0_mixLinksets 15 = .ok (.getfield 70, 3) := by decide +kernel
theorem dX0_mixLinksets_18 : decode cX0_mixLinksets 18 = .ok (.if_icmp .ge 76, 3) := by decide +kernel
theorem dX0_mixLinksets_21 : decode cX0_mixLinksets 21 = .ok (.lload_n 3, 1) := by decide +kernel
theorem dX0_mixLinksets_22 : decode cX0_mixLinksets 22 = .ok (.aload_n 0, 1) := by decide +kernel
theorem dX0_mixLinksets_23 : decode cX0_mixLinksets 23 = .ok (.getfield 15, 3) := by decide +kernel
theorem dX0_mixLinksets_26 : decode cX0_mixLinksets 26 = .ok (.iload 5, 2) := by decide +kernel
theorem dX0_mixLinksets_28 : decode cX0_mixLinksets 28 = .ok (.iaload, 1) := by decide +kernel
theorem dX0_mixLinksets_29 : decode cX0_mixLinksets 29 = .ok (.invokestatic 154, 3) := by decide +kernel
theorem dX0_mixLinksets_32 : decode cX0_mixLinksets 32 = .ok (.lstore_n 3, 1) := by decide +kernel
theorem dX0_mixLinksets_33 : decode cX0_mixLinksets 33 = .ok (.iconst 0, 1) := by decide +kernel
theorem dX0_mixLinksets_34 : decode cX0_mixLinksets 34 = .ok (.istore 6, 2) := by decide +kernel
theorem dX0_mixLinksets_36 : decode cX0_mixLinksets 36 = .ok (.iload 6, 2) := by decide +kernel
theorem dX0_mixLinksets_38 : decode cX0_mixLinksets 38 = .ok (.aload_n 0, 1) := by decide +kernel
theorem dX0_mixLinksets_39 : decode cX0_mixLinksets 39 = .ok (.getfield 15, 3) := by decide +kernel
theorem dX0_mixLinksets_42 : decode cX0_mixLinksets 42 = .ok (.iload 5, 2) := by decide +kernel
theorem dX0_mixLinksets_44 : decode cX0_mixLinksets 44 = .ok (.iaload, 1) := by decide +kernel
theorem dX0_mixLinksets_45 : decode cX0_mixLinksets 45 = .ok (.if_icmp .ge 43, 3) := by decide +kernel
theorem dX0_mixLinksets_48 : decode cX0_mixLinksets 48 = .ok (.lload_n 3, 1) := by decide +kernel
theorem dX0_mixLinksets_49 : decode cX0_mixLinksets 49 = .ok (.aload_n 0, 1) := by decide +kernel
theorem dX0_mixLinksets_50 : decode cX0_mixLinksets 50 = .ok (.iload 5, 2) := by decide +kernel
theorem dX0_mixLinksets_52 : decode cX0_mixLinksets 52 = .ok (.iload 6, 2) := by decide +kernel
theorem dX0_mixLinksets_54 : decode cX0_mixLinksets 54 = .ok (.invokevirtual 158, 3) := by decide +kernel
theorem dX0_mixLinksets_57 : decode cX0_mixLinksets 57 = .ok (.ifCond .eq 7, 3) := by decide +kernel
theorem dX0_mixLinksets_60 : decode cX0_mixLinksets 60 = .ok (.iconst 1, 1) := by decide +kernel
theorem dX0_mixLinksets_61 : decode cX0_mixLinksets 61 = .ok (.goto 4, 3) := by decide +kernel
theorem dX0_mixLinksets_64 : decode cX0_mixLinksets 64 = .ok (.iconst 0, 1) := by decide +kernel
theorem dX0_mixLinksets_65 : decode cX0_mixLinksets 65 = .ok (.invokestatic 154, 3) := by decide +kernel
theorem dX0_mixLinksets_68 : decode cX0_mixLinksets 68 = .ok (.lstore_n 3, 1) := by decide +kernel
theorem dX0_mixLinksets_69 : decode cX0_mixLinksets 69 = .ok (.aload_n 0, 1) := by decide +kernel
theorem dX0_mixLinksets_70 : decode cX0_mixLinksets 70 = .ok (.lload_n 3, 1) := by decide +kernel
theorem dX0_mixLinksets_71 : decode cX0_mixLinksets 71 = .ok (.iload 5, 2) := by decide +kernel
theorem dX0_mixLinksets_73 : decode cX0_mixLinksets 73 = .ok (.iload 6, 2) := by decide +kernel
theorem dX0_mixLinksets_75 : decode cX0_mixLinksets 75 = .ok (.invokestatic 99, 3) := by decide +kernel
theorem dX0_mixLinksets_78 : decode cX0_mixLinksets 78 = .ok (.invokevirtual 162, 3) := by decide +kernel
theorem dX0_mixLinksets_81 : decode cX0_mixLinksets 81 = .ok (.lstore_n 3, 1) := by decide +kernel
theorem dX0_mixLinksets_82 : decode cX0_mixLinksets 82 = .ok (.iinc 6 1, 3) := by decide +kernel
theorem dX0_mixLinksets_85 : decode cX0_mixLinksets 85 = .ok (.goto (-49), 3) := by decide +kernel
theorem dX0_mixLinksets_88 : decode cX0_mixLinksets 88 = .ok (.iinc 5 1, 3) := by decide +kernel
theorem dX0_mixLinksets_91 : decode cX0_mixLinksets 91 = .ok (.goto (-79), 3) := by decide +kernel
theorem dX0_mixLinksets_94 : decode cX0_mixLinksets 94 = .ok (.lload_n 3, 1) := by decide +kernel
theorem dX0_mixLinksets_95 : decode cX0_mixLinksets 95 = .ok (.lreturn, 1) := by decide +kernel
theorem dX0_mixQueue_0 : decode cX0_mixQueue 0 = .ok (.lload_n 1, 1) := by decide +kernel
theorem dX0_mixQueue_1 : decode cX0_mixQueue 1 = .ok (.aload_n 0, 1) := by decide +kernel
theorem dX0_mixQueue_2 : decode cX0_mixQueue 2 = .ok (.getfield 22, 3) := by decide +kernel
theorem dX0_mixQueue_5 : decode cX0_mixQueue 5 = .ok (.iload_n 3, 1) := by decide +kernel
theorem dX0_mixQueue_6 : decode cX0_mixQueue 6 = .ok (.iaload, 1) := by decide +kernel
theorem dX0_mixQueue_7 : decode cX0_mixQueue 7 = .ok (.invokestatic 154, 3) := by decide +kernel
theorem dX0_mixQueue_10 : decode cX0_mixQueue 10 = .ok (.lstore 4, 2) := by decide +kernel
theorem dX0_mixQueue_12 : decode cX0_mixQueue 12 = .ok (.iconst 0, 1) := by decide +kernel
theorem dX0_mixQueue_13 : decode cX0_mixQueue 13 = .ok (.istore 6, 2) := by decide +kernel
theorem dX0_mixQueue_15 : decode cX0_mixQueue 15 = .ok (.iload 6, 2) := by decide +kernel
theorem dX0_mixQueue_17 : decode cX0_mixQueue 17 = .ok (.aload_n 0, 1) := by decide +kernel
theorem dX0_mixQueue_18 : decode cX0_mixQueue 18 = .ok (.getfield 22, 3) := by decide +kernel
theorem dX0_mixQueue_21 : decode cX0_mixQueue 21 = .ok (.iload_n 3, 1) := by decide +kernel
theorem dX0_mixQueue_22 : decode cX0_mixQueue 22 = .ok (.iaload, 1) := by decide +kernel
theorem dX0_mixQueue_23 : decode cX0_mixQueue 23 = .ok (.if_icmp .ge 31, 3) := by decide +kernel
theorem dX0_mixQueue_26 : decode cX0_mixQueue 26 = .ok (.lload 4, 2) := by decide +kernel
theorem dX0_mixQueue_28 : decode cX0_mixQueue 28 = .ok (.aload_n 0, 1) := by decide +kernel
theorem dX0_mixQueue_29 : decode cX0_mixQueue 29 = .ok (.getfield 25, 3) := by decide +kernel
theorem dX0_mixQueue_32 : decode cX0_mixQueue 32 = .ok (.iload_n 3, 1) := by decide +kernel
theorem dX0_mixQueue_33 : decode cX0_mixQueue 33 = .ok (.bipush 10, 2) := by decide +kernel
theorem dX0_mixQueue_35 : decode cX0_mixQueue 35 = .ok (.imul, 1) := by decide +kernel
theorem dX0_mixQueue_36 : decode cX0_mixQueue 36 = .ok (.iload 6, 2) := by decide +kernel
theorem dX0_mixQueue_38 : decode cX0_mixQueue 38 = .ok (.iadd, 1) := by decide +kernel
theorem dX0_mixQueue_39 : decode cX0_mixQueue 39 = .ok (.iaload, 1) := by decide +kernel
theorem dX0_mixQueue_40 : decode cX0_mixQueue 40 = .ok (.invokestatic 151, 3) := by decide +kernel
theorem dX0_mixQueue_43 : decode cX0_mixQueue 43 = .ok (.invokestatic 154, 3) := by decide +kernel
theorem dX0_mixQueue_46 : decode cX0_mixQueue 46 = .ok (.lstore 4, 2) := by decide +kernel
theorem dX0_mixQueue_48 : decode cX0_mixQueue 48 = .ok (.iinc 6 1, 3) := by decide +kernel
theorem dX0_mixQueue_51 : decode cX0_mixQueue 51 = .ok (.goto (-36), 3) := by decide +kernel
theorem dX0_mixQueue_54 : decode cX0_mixQueue 54 = .ok (.lload 4, 2) := by decide +kernel
theorem dX0_mixQueue_56 : decode cX0_mixQueue 56 = .ok (.lreturn, 1) := by decide +kernel
theorem dX0_mixDestination_0 : decode cX0_mixDestination 0 = .ok (.lload_n 1, 1) := by decide +kernel
theorem dX0_mixDestination_1 : decode cX0_mixDestination 1 = .ok (.lstore 4, 2) := by decide +kernel
theorem dX0_mixDestination_3 : decode cX0_mixDestination 3 = .ok (.iconst 0, 1) := by decide +kernel
theorem dX0_mixDestination_4 : decode cX0_mixDestination 4 = .ok (.istore 6, 2) := by decide +kernel
theorem dX0_mixDestination_6 : decode cX0_mixDestination 6 = .ok (.iload 6, 2) := by decide +kernel
theorem dX0_mixDestination_8 : decode cX0_mixDestination 8 = .ok (.aload_n 0, 1) := by decide +kernel
theorem dX0_mixDestination_9 : decode cX0_mixDestination 9 = .ok (.getfield 70, 3) := by decide +kernel
theorem dX0_mixDestination_12 : decode cX0_mixDestination 12 = .ok (.if_icmp .ge 45, 3) := by decide +kernel
theorem dX0_mixDestination_15 : decode cX0_mixDestination 15 = .ok (.lload 4, 2) := by decide +kernel
theorem dX0_mixDestination_17 : decode cX0_mixDestination 17 = .ok (.aload_n 0, 1) := by decide +kernel
theorem dX0_mixDestination_18 : decode cX0_mixDestination 18 = .ok (.getfield 28, 3) := by decide +kernel
theorem dX0_mixDestination_21 : decode cX0_mixDestination 21 = .ok (.iload_n 3, 1) := by decide +kernel
theorem dX0_mixDestination_22 : decode cX0_mixDestination 22 = .ok (.iload 6, 2) := by decide +kernel
theorem dX0_mixDestination_24 : decode cX0_mixDestination 24 = .ok (.invokestatic 109, 3) := by decide +kernel
theorem dX0_mixDestination_27 : decode cX0_mixDestination 27 = .ok (.iaload, 1) := by decide +kernel
theorem dX0_mixDestination_28 : decode cX0_mixDestination 28 = .ok (.invokestatic 154, 3) := by decide +kernel
theorem dX0_mixDestination_31 : decode cX0_mixDestination 31 = .ok (.lstore 4, 2) := by decide +kernel
theorem dX0_mixDestination_33 : decode cX0_mixDestination 33 = .ok (.lload 4, 2) := by decide +kernel
theorem dX0_mixDestination_35 : decode cX0_mixDestination 35 = .ok (.aload_n 0, 1) := by decide +kernel
theorem dX0_mixDestination_36 : decode cX0_mixDestination 36 = .ok (.getfield 31, 3) := by decide +kernel
theorem dX0_mixDestination_39 : decode cX0_mixDestination 39 = .ok (.iload_n 3, 1) := by decide +kernel
theorem dX0_mixDestination_40 : decode cX0_mixDestination 40 = .ok (.iload 6, 2) := by decide +kernel
theorem dX0_mixDestination_42 : decode cX0_mixDestination 42 = .ok (.invokestatic 109, 3) := by decide +kernel
theorem dX0_mixDestination_45 : decode cX0_mixDestination 45 = .ok (.iaload, 1) := by decide +kernel
theorem dX0_mixDestination_46 : decode cX0_mixDestination 46 = .ok (.invokestatic 154, 3) := by decide +kernel
theorem dX0_mixDestination_49 : decode cX0_mixDestination 49 = .ok (.lstore 4, 2) := by decide +kernel
theorem dX0_mixDestination_51 : decode cX0_mixDestination 51 = .ok (.iinc 6 1, 3) := by decide +kernel
theorem dX0_mixDestination_54 : decode cX0_mixDestination 54 = .ok (.goto (-48), 3) := by decide +kernel
theorem dX0_mixDestination_57 : decode cX0_mixDestination 57 = .ok (.aload_n 0, 1) := by decide +kernel
theorem dX0_mixDestination_58 : decode cX0_mixDestination 58 = .ok (.iload_n 3, 1) := by decide +kernel
theorem dX0_mixDestination_59 : decode cX0_mixDestination 59 = .ok (.invokevirtual 121, 3) := by decide +kernel
theorem dX0_mixDestination_62 : decode cX0_mixDestination 62 = .ok (.istore 6, 2) := by decide +kernel
theorem dX0_mixDestination_64 : decode cX0_mixDestination 64 = .ok (.iconst 0, 1) := by decide +kernel
theorem dX0_mixDestination_65 : decode cX0_mixDestination 65 = .ok (.istore 7, 2) := by decide +kernel
theorem dX0_mixDestination_67 : decode cX0_mixDestination 67 = .ok (.iload 7, 2) := by decide +kernel
theorem dX0_mixDestination_69 : decode cX0_mixDestination 69 = .ok (.bipush 16, 2) := by decide +kernel
theorem dX0_mixDestination_71 : decode cX0_mixDestination 71 = .ok (.if_icmp .ge 49, 3) := by decide +kernel
theorem dX0_mixDestination_74 : decode cX0_mixDestination 74 = .ok (.lload 4, 2) := by decide +kernel
theorem dX0_mixDestination_76 : decode cX0_mixDestination 76 = .ok (.aload_n 0, 1) := by decide +kernel
theorem dX0_mixDestination_77 : decode cX0_mixDestination 77 = .ok (.iload 6, 2) := by decide +kernel
theorem dX0_mixDestination_79 : decode cX0_mixDestination 79 = .ok (.iload 7, 2) := by decide +kernel
theorem dX0_mixDestination_81 : decode cX0_mixDestination 81 = .ok (.invokevirtual 124, 3) := by decide +kernel
theorem dX0_mixDestination_84 : decode cX0_mixDestination 84 = .ok (.invokestatic 154, 3) := by decide +kernel
theorem dX0_mixDestination_87 : decode cX0_mixDestination 87 = .ok (.lstore 4, 2) := by decide +kernel
theorem dX0_mixDestination_89 : decode cX0_mixDestination 89 = .ok (.lload 4, 2) := by decide +kernel
theorem dX0_mixDestination_91 : decode cX0_mixDestination 91 = .ok (.aload_n 0, 1) := by decide +kernel
theorem dX0_mixDestination_92 : decode cX0_mixDestination 92 = .ok (.iload_n 3, 1) := by decide +kernel
theorem dX0_mixDestination_93 : decode cX0_mixDestination 93 = .ok (.iload 7, 2) := by decide +kernel
theorem dX0_mixDestination_95 : decode cX0_mixDestination 95 = .ok (.invokestatic 130, 3) := by decide +kernel
theorem dX0_mixDestination_98 : decode cX0_mixDestination 98 = .ok (.invokevirtual 136, 3) := by decide +kernel
theorem dX0_mixDestination_101 : decode cX0_mixDestination 101 = .ok (.ifCond .eq 7, 3) := by decide +kernel
theorem dX0_mixDestination_104 : decode cX0_mixDestination 104 = .ok (.iconst 1, 1) := by decide +kernel
theorem dX0_mixDestination_105 : decode cX0_mixDestination 105 = .ok (.goto 4, 3) := by decide +kernel
theorem dX0_mixDestination_108 : decode cX0_mixDestination 108 = .ok (.iconst 0, 1) := by decide +kernel
theorem dX0_mixDestination_109 : decode cX0_mixDestination 109 = .ok (.invokestatic 154, 3) := by decide +kernel
theorem dX0_mixDestination_112 : decode cX0_mixDestination 112 = .ok (.lstore 4, 2) := by decide +kernel
theorem dX0_mixDestination_114 : decode cX0_mixDestination 114 = .ok (.iinc 7 1, 3) := by decide +kernel
theorem dX0_mixDestination_117 : decode cX0_mixDestination 117 = .ok (.goto (-50), 3) := by decide +kernel
theorem dX0_mixDestination_120 : decode cX0_mixDestination 120 = .ok (.lload 4, 2) := by decide +kernel
theorem dX0_mixDestination_122 : decode cX0_mixDestination 122 = .ok (.lreturn, 1) := by decide +kernel
theorem dX0_mixHolding_0 : decode cX0_mixHolding 0 = .ok (.lload_n 1, 1) := by decide +kernel
theorem dX0_mixHolding_1 : decode cX0_mixHolding 1 = .ok (.aload_n 0, 1) := by decide +kernel
theorem dX0_mixHolding_2 : decode cX0_mixHolding 2 = .ok (.getfield 73, 3) := by decide +kernel
theorem dX0_mixHolding_5 : decode cX0_mixHolding 5 = .ok (.invokestatic 154, 3) := by decide +kernel
theorem dX0_mixHolding_8 : decode cX0_mixHolding 8 = .ok (.lstore_n 3, 1) := by decide +kernel
theorem dX0_mixHolding_9 : decode cX0_mixHolding 9 = .ok (.iconst 0, 1) := by decide +kernel
theorem dX0_mixHolding_10 : decode cX0_mixHolding 10 = .ok (.istore 5, 2) := by decide +kernel
theorem dX0_mixHolding_12 : decode cX0_mixHolding 12 = .ok (.iload 5, 2) := by decide +kernel
theorem dX0_mixHolding_14 : decode cX0_mixHolding 14 = .ok (.aload_n 0, 1) := by decide +kernel
theorem dX0_mixHolding_15 : decode cX0_mixHolding 15 = .ok (.getfield 73, 3) := by decide +kernel
theorem dX0_mixHolding_18 : decode cX0_mixHolding 18 = .ok (.if_icmp .ge 24, 3) := by decide +kernel
theorem dX0_mixHolding_21 : decode cX0_mixHolding 21 = .ok (.lload_n 3, 1) := by decide +kernel
theorem dX0_mixHolding_22 : decode cX0_mixHolding 22 = .ok (.aload_n 0, 1) := by decide +kernel
theorem dX0_mixHolding_23 : decode cX0_mixHolding 23 = .ok (.getfield 40, 3) := by decide +kernel
theorem dX0_mixHolding_26 : decode cX0_mixHolding 26 = .ok (.iload 5, 2) := by decide +kernel
theorem dX0_mixHolding_28 : decode cX0_mixHolding 28 = .ok (.iaload, 1) := by decide +kernel
theorem dX0_mixHolding_29 : decode cX0_mixHolding 29 = .ok (.invokestatic 151, 3) := by decide +kernel
theorem dX0_mixHolding_32 : decode cX0_mixHolding 32 = .ok (.invokestatic 154, 3) := by decide +kernel
theorem dX0_mixHolding_35 : decode cX0_mixHolding 35 = .ok (.lstore_n 3, 1) := by decide +kernel
theorem dX0_mixHolding_36 : decode cX0_mixHolding 36 = .ok (.iinc 5 1, 3) := by decide +kernel
theorem dX0_mixHolding_39 : decode cX0_mixHolding 39 = .ok (.goto (-27), 3) := by decide +kernel
theorem dX0_mixHolding_42 : decode cX0_mixHolding 42 = .ok (.lload_n 3, 1) := by decide +kernel
theorem dX0_mixHolding_43 : decode cX0_mixHolding 43 = .ok (.lreturn, 1) := by decide +kernel
theorem dX1_init_0 : decode cX1_init 0 = .ok (.aload_n 0, 1) := by decide +kernel
theorem dX1_init_1 : decode cX1_init 1 = .ok (.invokespecial 3, 3) := by decide +kernel
theorem dX1_init_4 : decode cX1_init 4 = .ok (.aload_n 0, 1) := by decide +kernel
theorem dX1_init_5 : decode cX1_init 5 = .ok (.iconst 4, 1) := by decide +kernel
theorem dX1_init_6 : decode cX1_init 6 = .ok (.anewarray 9, 3) := by decide +kernel
theorem dX1_init_9 : decode cX1_init 9 = .ok (.putfield 11, 3) := by decide +kernel
theorem dX1_init_12 : decode cX1_init 12 = .ok (.iconst 0, 1) := by decide +kernel
theorem dX1_init_13 : decode cX1_init 13 = .ok (.istore_n 1, 1) := by decide +kernel
theorem dX1_init_14 : decode cX1_init 14 = .ok (.iload_n 1, 1) := by decide +kernel
theorem dX1_init_15 : decode cX1_init 15 = .ok (.iconst 4, 1) := by decide +kernel
theorem dX1_init_16 : decode cX1_init 16 = .ok (.if_icmp .ge 22, 3) := by decide +kernel
theorem dX1_init_19 : decode cX1_init 19 = .ok (.aload_n 0, 1) := by decide +kernel
theorem dX1_init_20 : decode cX1_init 20 = .ok (.getfield 11, 3) := by decide +kernel
theorem dX1_init_23 : decode cX1_init 23 = .ok (.iload_n 1, 1) := by decide +kernel
theorem dX1_init_24 : decode cX1_init 24 = .ok (.new 9, 3) := by decide +kernel
theorem dX1_init_27 : decode cX1_init 27 = .ok (.dup, 1) := by decide +kernel
theorem dX1_init_28 : decode cX1_init 28 = .ok (.invokespecial 17, 3) := by decide +kernel
theorem dX1_init_31 : decode cX1_init 31 = .ok (.aastore, 1) := by decide +kernel
theorem dX1_init_32 : decode cX1_init 32 = .ok (.iinc 1 1, 3) := by decide +kernel
theorem dX1_init_35 : decode cX1_init 35 = .ok (.goto (-21), 3) := by decide +kernel
theorem dX1_init_38 : decode cX1_init 38 = .ok (.return_, 1) := by decide +kernel
theorem dX1_save_0 : decode cX1_save 0 = .ok (.aload_n 0, 1) := by decide +kernel
theorem dX1_save_1 : decode cX1_save 1 = .ok (.getfield 11, 3) := by decide +kernel
theorem dX1_save_4 : decode cX1_save 4 = .ok (.aload_n 0, 1) := by decide +kernel
theorem dX1_save_5 : decode cX1_save 5 = .ok (.getfield 18, 3) := by decide +kernel
theorem dX1_save_8 : decode cX1_save 8 = .ok (.aaload, 1) := by decide +kernel
theorem dX1_save_9 : decode cX1_save 9 = .ok (.aload_n 1, 1) := by decide +kernel
theorem dX1_save_10 : decode cX1_save 10 = .ok (.invokevirtual 22, 3) := by decide +kernel
theorem dX1_save_13 : decode cX1_save 13 = .ok (.aload_n 0, 1) := by decide +kernel
theorem dX1_save_14 : decode cX1_save 14 = .ok (.aload_n 0, 1) := by decide +kernel
theorem dX1_save_15 : decode cX1_save 15 = .ok (.getfield 18, 3) := by decide +kernel
theorem dX1_save_18 : decode cX1_save 18 = .ok (.iconst 1, 1) := by decide +kernel
theorem dX1_save_19 : decode cX1_save 19 = .ok (.iadd, 1) := by decide +kernel
theorem dX1_save_20 : decode cX1_save 20 = .ok (.iconst 4, 1) := by decide +kernel
theorem dX1_save_21 : decode cX1_save 21 = .ok (.irem, 1) := by decide +kernel
theorem dX1_save_22 : decode cX1_save 22 = .ok (.putfield 18, 3) := by decide +kernel
theorem dX1_save_25 : decode cX1_save 25 = .ok (.aload_n 0, 1) := by decide +kernel
theorem dX1_save_26 : decode cX1_save 26 = .ok (.aload_n 0, 1) := by decide +kernel
theorem dX1_save_27 : decode cX1_save 27 = .ok (.getfield 26, 3) := by decide +kernel
theorem dX1_save_30 : decode cX1_save 30 = .ok (.iconst 1, 1) := by decide +kernel
theorem dX1_save_31 : decode cX1_save 31 = .ok (.iadd, 1) := by decide +kernel
theorem dX1_save_32 : decode cX1_save 32 = .ok (.iconst 4, 1) := by decide +kernel
theorem dX1_save_33 : decode cX1_save 33 = .ok (.invokestatic 29, 3) := by decide +kernel
theorem dX1_save_36 : decode cX1_save 36 = .ok (.putfield 26, 3) := by decide +kernel
theorem dX1_save_39 : decode cX1_save 39 = .ok (.return_, 1) := by decide +kernel
theorem dX1_takeBackInto_0 : decode cX1_takeBackInto 0 = .ok (.aload_n 0, 1) := by decide +kernel
theorem dX1_takeBackInto_1 : decode cX1_takeBackInto 1 = .ok (.aload_n 0, 1) := by decide +kernel
theorem dX1_takeBackInto_2 : decode cX1_takeBackInto 2 = .ok (.getfield 18, 3) := by decide +kernel
theorem dX1_takeBackInto_5 : decode cX1_takeBackInto 5 = .ok (.iconst 4, 1) := by decide +kernel
theorem dX1_takeBackInto_6 : decode cX1_takeBackInto 6 = .ok (.iadd, 1) := by decide +kernel
theorem dX1_takeBackInto_7 : decode cX1_takeBackInto 7 = .ok (.iconst 1, 1) := by decide +kernel
theorem dX1_takeBackInto_8 : decode cX1_takeBackInto 8 = .ok (.isub, 1) := by decide +kernel
theorem dX1_takeBackInto_9 : decode cX1_takeBackInto 9 = .ok (.iconst 4, 1) := by decide +kernel
theorem dX1_takeBackInto_10 : decode cX1_takeBackInto 10 = .ok (.irem, 1) := by decide +kernel
theorem dX1_takeBackInto_11 : decode cX1_takeBackInto 11 = .ok (.putfield 18, 3) := by decide +kernel
theorem dX1_takeBackInto_14 : decode cX1_takeBackInto 14 = .ok (.aload_n 0, 1) := by decide +kernel
theorem dX1_takeBackInto_15 : decode cX1_takeBackInto 15 = .ok (.dup, 1) := by decide +kernel
theorem dX1_takeBackInto_16 : decode cX1_takeBackInto 16 = .ok (.getfield 26, 3) := by decide +kernel
theorem dX1_takeBackInto_19 : decode cX1_takeBackInto 19 = .ok (.iconst 1, 1) := by decide +kernel
theorem dX1_takeBackInto_20 : decode cX1_takeBackInto 20 = .ok (.isub, 1) := by decide +kernel
theorem dX1_takeBackInto_21 : decode cX1_takeBackInto 21 = .ok (.putfield 26, 3) := by decide +kernel
theorem dX1_takeBackInto_24 : decode cX1_takeBackInto 24 = .ok (.aload_n 1, 1) := by decide +kernel
theorem dX1_takeBackInto_25 : decode cX1_takeBackInto 25 = .ok (.aload_n 0, 1) := by decide +kernel
theorem dX1_takeBackInto_26 : decode cX1_takeBackInto 26 = .ok (.getfield 11, 3) := by decide +kernel
theorem dX1_takeBackInto_29 : decode cX1_takeBackInto 29 = .ok (.aload_n 0, 1) := by decide +kernel
theorem dX1_takeBackInto_30 : decode cX1_takeBackInto 30 = .ok (.getfield 18, 3) := by decide +kernel
theorem dX1_takeBackInto_33 : decode cX1_takeBackInto 33 = .ok (.aaload, 1) := by decide +kernel
theorem dX1_takeBackInto_34 : decode cX1_takeBackInto 34 = .ok (.invokevirtual 22, 3) := by decide +kernel
theorem dX1_takeBackInto_37 : decode cX1_takeBackInto 37 = .ok (.return_, 1) := by decide +kernel
theorem dX2_init_0 : decode cX2_init 0 = .ok (.aload_n 0, 1) := by decide +kernel
theorem dX2_init_1 : decode cX2_init 1 = .ok (.invokespecial 3, 3) := by decide +kernel
theorem dX2_init_4 : decode cX2_init 4 = .ok (.aload_n 0, 1) := by decide +kernel
theorem dX2_init_5 : decode cX2_init 5 = .ok (.new 9, 3) := by decide +kernel
theorem dX2_init_8 : decode cX2_init 8 = .ok (.dup, 1) := by decide +kernel
theorem dX2_init_9 : decode cX2_init 9 = .ok (.invokespecial 11, 3) := by decide +kernel
theorem dX2_init_12 : decode cX2_init 12 = .ok (.putfield 12, 3) := by decide +kernel
theorem dX2_init_15 : decode cX2_init 15 = .ok (.aload_n 0, 1) := by decide +kernel
theorem dX2_init_16 : decode cX2_init 16 = .ok (.new 16, 3) := by decide +kernel
theorem dX2_init_19 : decode cX2_init 19 = .ok (.dup, 1) := by decide +kernel
theorem dX2_init_20 : decode cX2_init 20 = .ok (.invokespecial 18, 3) := by decide +kernel
theorem dX2_init_23 : decode cX2_init 23 = .ok (.putfield 19, 3) := by decide +kernel
theorem dX2_init_26 : decode cX2_init 26 = .ok (.aload_n 0, 1) := by decide +kernel
theorem dX2_init_27 : decode cX2_init 27 = .ok (.bipush 96, 2) := by decide +kernel
theorem dX2_init_29 : decode cX2_init 29 = .ok (.newarray .int, 2) := by decide +kernel
theorem dX2_init_31 : decode cX2_init 31 = .ok (.putfield 23, 3) := by decide +kernel
theorem dX2_init_34 : decode cX2_init 34 = .ok (.return_, 1) := by decide +kernel
theorem dX2_addLinkset_0 : decode cX2_addLinkset 0 = .ok (.iload_n 1, 1) := by decide +kernel
theorem dX2_addLinkset_1 : decode cX2_addLinkset 1 = .ok (.iconst 1, 1) := by decide +kernel
theorem dX2_addLinkset_2 : decode cX2_addLinkset 2 = .ok (.if_icmp .lt 8, 3) := by decide +kernel
theorem dX2_addLinkset_5 : decode cX2_addLinkset 5 = .ok (.iload_n 1, 1) := by decide +kernel
theorem dX2_addLinkset_6 : decode cX2_addLinkset 6 = .ok (.iconst 4, 1) := by decide +kernel
theorem dX2_addLinkset_7 : decode cX2_addLinkset 7 = .ok (.if_icmp .le 8, 3) := by decide +kernel
theorem dX2_addLinkset_10 : decode cX2_addLinkset 10 = .ok (.aload_n 0, 1) := by decide +kernel
theorem dX2_addLinkset_11 : decode cX2_addLinkset 11 = .ok (.invokevirtual 27, 3) := by decide +kernel
theorem dX2_addLinkset_14 : decode cX2_addLinkset 14 = .ok (.ireturn, 1) := by decide +kernel
theorem dX2_addLinkset_15 : decode cX2_addLinkset 15 = .ok (.aload_n 0, 1) := by decide +kernel
theorem dX2_addLinkset_16 : decode cX2_addLinkset 16 = .ok (.getfield 12, 3) := by decide +kernel
theorem dX2_addLinkset_19 : decode cX2_addLinkset 19 = .ok (.getfield 31, 3) := by decide +kernel
theorem dX2_addLinkset_22 : decode cX2_addLinkset 22 = .ok (.iconst 4, 1) := by decide +kernel
theorem dX2_addLinkset_23 : decode cX2_addLinkset 23 = .ok (.if_icmp .lt 8, 3) := by decide +kernel
theorem dX2_addLinkset_26 : decode cX2_addLinkset 26 = .ok (.aload_n 0, 1) := by decide +kernel
theorem dX2_addLinkset_27 : decode cX2_addLinkset 27 = .ok (.invokevirtual 35, 3) := by decide +kernel
theorem dX2_addLinkset_30 : decode cX2_addLinkset 30 = .ok (.ireturn, 1) := by decide +kernel
theorem dX2_addLinkset_31 : decode cX2_addLinkset 31 = .ok (.aload_n 0, 1) := by decide +kernel
theorem dX2_addLinkset_32 : decode cX2_addLinkset 32 = .ok (.getfield 19, 3) := by decide +kernel
theorem dX2_addLinkset_35 : decode cX2_addLinkset 35 = .ok (.aload_n 0, 1) := by decide +kernel
theorem dX2_addLinkset_36 : decode cX2_addLinkset 36 = .ok (.getfield 12, 3) := by decide +kernel
theorem dX2_addLinkset_39 : decode cX2_addLinkset 39 = .ok (.invokevirtual 38, 3) := by decide +kernel
theorem dX2_addLinkset_42 : decode cX2_addLinkset 42 = .ok (.aload_n 0, 1) := by decide +kernel
theorem dX2_addLinkset_43 : decode cX2_addLinkset 43 = .ok (.getfield 12, 3) := by decide +kernel
theorem dX2_addLinkset_46 : decode cX2_addLinkset 46 = .ok (.iload_n 1, 1) := by decide +kernel
theorem dX2_addLinkset_47 : decode cX2_addLinkset 47 = .ok (.invokevirtual 42, 3) := by decide +kernel
theorem dX2_addLinkset_50 : decode cX2_addLinkset 50 = .ok (.ireturn, 1) := by decide +kernel
theorem dX2_failLink_0 : decode cX2_failLink 0 = .ok (.aload_n 0, 1) := by decide +kernel
theorem dX2_failLink_1 : decode cX2_failLink 1 = .ok (.getfield 12, 3) := by decide +kernel
theorem dX2_failLink_4 : decode cX2_failLink 4 = .ok (.iload_n 1, 1) := by decide +kernel
theorem dX2_failLink_5 : decode cX2_failLink 5 = .ok (.iload_n 2, 1) := by decide +kernel
theorem dX2_failLink_6 : decode cX2_failLink 6 = .ok (.invokevirtual 46, 3) := by decide +kernel
theorem dX2_failLink_9 : decode cX2_failLink 9 = .ok (.ifCond .ne 8, 3) := by decide +kernel
theorem dX2_failLink_12 : decode cX2_failLink 12 = .ok (.aload_n 0, 1) := by decide +kernel
theorem dX2_failLink_13 : decode cX2_failLink 13 = .ok (.invokevirtual 27, 3) := by decide +kernel
theorem dX2_failLink_16 : decode cX2_failLink 16 = .ok (.ireturn, 1) := by decide +kernel
theorem dX2_failLink_17 : decode cX2_failLink 17 = .ok (.aload_n 0, 1) := by decide +kernel
theorem dX2_failLink_18 : decode cX2_failLink 18 = .ok (.getfield 12, 3) := by decide +kernel
theorem dX2_failLink_21 : decode cX2_failLink 21 = .ok (.iload_n 1, 1) := by decide +kernel
theorem dX2_failLink_22 : decode cX2_failLink 22 = .ok (.iload_n 2, 1) := by decide +kernel
theorem dX2_failLink_23 : decode cX2_failLink 23 = .ok (.invokevirtual 50, 3) := by decide +kernel
theorem dX2_failLink_26 : decode cX2_failLink 26 = .ok (.ifCond .ne 8, 3) := by decide +kernel
theorem dX2_failLink_29 : decode cX2_failLink 29 = .ok (.aload_n 0, 1) := by decide +kernel
theorem dX2_failLink_30 : decode cX2_failLink 30 = .ok (.invokevirtual 53, 3) := by decide +kernel
theorem dX2_failLink_33 : decode cX2_failLink 33 = .ok (.ireturn, 1) := by decide +kernel
theorem dX2_failLink_34 : decode cX2_failLink 34 = .ok (.aload_n 0, 1) := by decide +kernel
theorem dX2_failLink_35 : decode cX2_failLink 35 = .ok (.getfield 19, 3) := by decide +kernel
end
section
theorem dX2_failLink_38 : decode cX2_failLink 38 = .ok (.aload_n 0, 1) := by decide +kernel
theorem dX2_failLink_39 : decode cX2_failLink 39 = .ok (.getfield 12, 3) := by decide +kernel
theorem dX2_failLink_42 : decode cX2_failLink 42 = .ok (.invokevirtual 38, 3) := by decide +kernel
theorem dX2_failLink_45 : decode cX2_failLink 45 = .ok (.aload_n 0, 1) := by decide +kernel
theorem dX2_failLink_46 : decode cX2_failLink 46 = .ok (.getfield 12, 3) := by decide +kernel
theorem dX2_failLink_49 : decode cX2_failLink 49 = .ok (.iload_n 1, 1) := by decide +kernel
theorem dX2_failLink_50 : decode cX2_failLink 50 = .ok (.iload_n 2, 1) := by decide +kernel
theorem dX2_failLink_51 : decode cX2_failLink 51 = .ok (.invokevirtual 56, 3) := by decide +kernel
theorem dX2_failLink_54 : decode cX2_failLink 54 = .ok (.ireturn, 1) := by decide +kernel
theorem dX2_restoreLink_0 : decode cX2_restoreLink 0 = .ok (.aload_n 0, 1) := by decide +kernel
theorem dX2_restoreLink_1 : decode cX2_restoreLink 1 = .ok (.getfield 12, 3) := by decide +kernel
theorem dX2_restoreLink_4 : decode cX2_restoreLink 4 = .ok (.iload_n 1, 1) := by decide +kernel
theorem dX2_restoreLink_5 : decode cX2_restoreLink 5 = .ok (.iload_n 2, 1) := by decide +kernel
theorem dX2_restoreLink_6 : decode cX2_restoreLink 6 = .ok (.invokevirtual 46, 3) := by decide +kernel
theorem dX2_restoreLink_9 : decode cX2_restoreLink 9 = .ok (.ifCond .ne 8, 3) := by decide +kernel
theorem dX2_restoreLink_12 : decode cX2_restoreLink 12 = .ok (.aload_n 0, 1) := by decide +kernel
theorem dX2_restoreLink_13 : decode cX2_restoreLink 13 = .ok (.invokevirtual 27, 3) := by decide +kernel
theorem dX2_restoreLink_16 : decode cX2_restoreLink 16 = .ok (.ireturn, 1) := by decide +kernel
theorem dX2_restoreLink_17 : decode cX2_restoreLink 17 = .ok (.aload_n 0, 1) := by decide +kernel
theorem dX2_restoreLink_18 : decode cX2_restoreLink 18 = .ok (.getfield 12, 3) := by decide +kernel
theorem dX2_restoreLink_21 : decode cX2_restoreLink 21 = .ok (.iload_n 1, 1) := by decide +kernel
theorem dX2_restoreLink_22 : decode cX2_restoreLink 22 = .ok (.iload_n 2, 1) := by decide +kernel
theorem dX2_restoreLink_23 : decode cX2_restoreLink 23 = .ok (.invokevirtual 50, 3) := by decide +kernel
theorem dX2_restoreLink_26 : decode cX2_restoreLink 26 = .ok (.ifCond .eq 8, 3) := by decide +kernel
theorem dX2_restoreLink_29 : decode cX2_restoreLink 29 = .ok (.aload_n 0, 1) := by decide +kernel
theorem dX2_restoreLink_30 : decode cX2_restoreLink 30 = .ok (.invokevirtual 53, 3) := by decide +kernel
theorem dX2_restoreLink_33 : decode cX2_restoreLink 33 = .ok (.ireturn, 1) := by decide +kernel
theorem dX2_restoreLink_34 : decode cX2_restoreLink 34 = .ok (.aload_n 0, 1) := by decide +kernel
theorem dX2_restoreLink_35 : decode cX2_restoreLink 35 = .ok (.getfield 19, 3) := by decide +kernel
theorem dX2_restoreLink_38 : decode cX2_restoreLink 38 = .ok (.aload_n 0, 1) := by decide +kernel
theorem dX2_restoreLink_39 : decode cX2_restoreLink 39 = .ok (.getfield 12, 3) := by decide +kernel
theorem dX2_restoreLink_42 : decode cX2_restoreLink 42 = .ok (.invokevirtual 38, 3) := by decide +kernel
theorem dX2_restoreLink_45 : decode cX2_restoreLink 45 = .ok (.aload_n 0, 1) := by decide +kernel
theorem dX2_restoreLink_46 : decode cX2_restoreLink 46 = .ok (.getfield 12, 3) := by decide +kernel
theorem dX2_restoreLink_49 : decode cX2_restoreLink 49 = .ok (.aload_n 0, 1) := by decide +kernel
theorem dX2_restoreLink_50 : decode cX2_restoreLink 50 = .ok (.getfield 23, 3) := by decide +kernel
theorem dX2_restoreLink_53 : decode cX2_restoreLink 53 = .ok (.invokevirtual 60, 3) := by decide +kernel
theorem dX2_restoreLink_56 : decode cX2_restoreLink 56 = .ok (.aload_n 0, 1) := by decide +kernel
theorem dX2_restoreLink_57 : decode cX2_restoreLink 57 = .ok (.getfield 12, 3) := by decide +kernel
theorem dX2_restoreLink_60 : decode cX2_restoreLink 60 = .ok (.iload_n 1, 1) := by decide +kernel
theorem dX2_restoreLink_61 : decode cX2_restoreLink 61 = .ok (.iload_n 2, 1) := by decide +kernel
theorem dX2_restoreLink_62 : decode cX2_restoreLink 62 = .ok (.invokevirtual 64, 3) := by decide +kernel
theorem dX2_restoreLink_65 : decode cX2_restoreLink 65 = .ok (.aload_n 0, 1) := by decide +kernel
theorem dX2_restoreLink_66 : decode cX2_restoreLink 66 = .ok (.getfield 12, 3) := by decide +kernel
theorem dX2_restoreLink_69 : decode cX2_restoreLink 69 = .ok (.aload_n 0, 1) := by decide +kernel
theorem dX2_restoreLink_70 : decode cX2_restoreLink 70 = .ok (.getfield 23, 3) := by decide +kernel
theorem dX2_restoreLink_73 : decode cX2_restoreLink 73 = .ok (.invokevirtual 68, 3) := by decide +kernel
theorem dX2_restoreLink_76 : decode cX2_restoreLink 76 = .ok (.ireturn, 1) := by decide +kernel
theorem dX2_acknowledge_0 : decode cX2_acknowledge 0 = .ok (.aload_n 0, 1) := by decide +kernel
theorem dX2_acknowledge_1 : decode cX2_acknowledge 1 = .ok (.getfield 12, 3) := by decide +kernel
theorem dX2_acknowledge_4 : decode cX2_acknowledge 4 = .ok (.iload_n 1, 1) := by decide +kernel
theorem dX2_acknowledge_5 : decode cX2_acknowledge 5 = .ok (.iload_n 2, 1) := by decide +kernel
theorem dX2_acknowledge_6 : decode cX2_acknowledge 6 = .ok (.invokevirtual 46, 3) := by decide +kernel
theorem dX2_acknowledge_9 : decode cX2_acknowledge 9 = .ok (.ifCond .eq 14, 3) := by decide +kernel
theorem dX2_acknowledge_12 : decode cX2_acknowledge 12 = .ok (.iload_n 3, 1) := by decide +kernel
theorem dX2_acknowledge_13 : decode cX2_acknowledge 13 = .ok (.iconst 1, 1) := by decide +kernel
theorem dX2_acknowledge_14 : decode cX2_acknowledge 14 = .ok (.if_icmp .lt 9, 3) := by decide +kernel
theorem dX2_acknowledge_17 : decode cX2_acknowledge 17 = .ok (.iload_n 3, 1) := by decide +kernel
theorem dX2_acknowledge_18 : decode cX2_acknowledge 18 = .ok (.bipush 10, 2) := by decide +kernel
theorem dX2_acknowledge_20 : decode cX2_acknowledge 20 = .ok (.if_icmp .le 8, 3) := by decide +kernel
theorem dX2_acknowledge_23 : decode cX2_acknowledge 23 = .ok (.aload_n 0, 1) := by decide +kernel
theorem dX2_acknowledge_24 : decode cX2_acknowledge 24 = .ok (.invokevirtual 27, 3) := by decide +kernel
theorem dX2_acknowledge_27 : decode cX2_acknowledge 27 = .ok (.ireturn, 1) := by decide +kernel
theorem dX2_acknowledge_28 : decode cX2_acknowledge 28 = .ok (.aload_n 0, 1) := by decide +kernel
theorem dX2_acknowledge_29 : decode cX2_acknowledge 29 = .ok (.getfield 19, 3) := by decide +kernel
theorem dX2_acknowledge_32 : decode cX2_acknowledge 32 = .ok (.aload_n 0, 1) := by decide +kernel
theorem dX2_acknowledge_33 : decode cX2_acknowledge 33 = .ok (.getfield 12, 3) := by decide +kernel
theorem dX2_acknowledge_36 : decode cX2_acknowledge 36 = .ok (.invokevirtual 38, 3) := by decide +kernel
theorem dX2_acknowledge_39 : decode cX2_acknowledge 39 = .ok (.aload_n 0, 1) := by decide +kernel
theorem dX2_acknowledge_40 : decode cX2_acknowledge 40 = .ok (.getfield 12, 3) := by decide +kernel
theorem dX2_acknowledge_43 : decode cX2_acknowledge 43 = .ok (.iload_n 1, 1) := by decide +kernel
theorem dX2_acknowledge_44 : decode cX2_acknowledge 44 = .ok (.iload_n 2, 1) := by decide +kernel
theorem dX2_acknowledge_45 : decode cX2_acknowledge 45 = .ok (.invokestatic 72, 3) := by decide +kernel
theorem dX2_acknowledge_48 : decode cX2_acknowledge 48 = .ok (.iload_n 3, 1) := by decide +kernel
theorem dX2_acknowledge_49 : decode cX2_acknowledge 49 = .ok (.invokevirtual 75, 3) := by decide +kernel
theorem dX2_acknowledge_52 : decode cX2_acknowledge 52 = .ok (.ireturn, 1) := by decide +kernel
theorem dX2_queueLength_0 : decode cX2_queueLength 0 = .ok (.aload_n 0, 1) := by decide +kernel
theorem dX2_queueLength_1 : decode cX2_queueLength 1 = .ok (.getfield 12, 3) := by decide +kernel
theorem dX2_queueLength_4 : decode cX2_queueLength 4 = .ok (.iload_n 1, 1) := by decide +kernel
theorem dX2_queueLength_5 : decode cX2_queueLength 5 = .ok (.iload_n 2, 1) := by decide +kernel
theorem dX2_queueLength_6 : decode cX2_queueLength 6 = .ok (.invokevirtual 46, 3) := by decide +kernel
theorem dX2_queueLength_9 : decode cX2_queueLength 9 = .ok (.ifCond .ne 8, 3) := by decide +kernel
theorem dX2_queueLength_12 : decode cX2_queueLength 12 = .ok (.aload_n 0, 1) := by decide +kernel
theorem dX2_queueLength_13 : decode cX2_queueLength 13 = .ok (.invokevirtual 27, 3) := by decide +kernel
theorem dX2_queueLength_16 : decode cX2_queueLength 16 = .ok (.ireturn, 1) := by decide +kernel
theorem dX2_queueLength_17 : decode cX2_queueLength 17 = .ok (.aload_n 0, 1) := by decide +kernel
theorem dX2_queueLength_18 : decode cX2_queueLength 18 = .ok (.getfield 12, 3) := by decide +kernel
theorem dX2_queueLength_21 : decode cX2_queueLength 21 = .ok (.getfield 78, 3) := by decide +kernel
theorem dX2_queueLength_24 : decode cX2_queueLength 24 = .ok (.iload_n 1, 1) := by decide +kernel
theorem dX2_queueLength_25 : decode cX2_queueLength 25 = .ok (.iload_n 2, 1) := by decide +kernel
theorem dX2_queueLength_26 : decode cX2_queueLength 26 = .ok (.invokestatic 72, 3) := by decide +kernel
theorem dX2_queueLength_29 : decode cX2_queueLength 29 = .ok (.iaload, 1) := by decide +kernel
theorem dX2_queueLength_30 : decode cX2_queueLength 30 = .ok (.ireturn, 1) := by decide +kernel
theorem dX2_queued_0 : decode cX2_queued 0 = .ok (.aload_n 0, 1) := by decide +kernel
theorem dX2_queued_1 : decode cX2_queued 1 = .ok (.getfield 12, 3) := by decide +kernel
theorem dX2_queued_4 : decode cX2_queued 4 = .ok (.iload_n 1, 1) := by decide +kernel
theorem dX2_queued_5 : decode cX2_queued 5 = .ok (.iload_n 2, 1) := by decide +kernel
theorem dX2_queued_6 : decode cX2_queued 6 = .ok (.invokevirtual 46, 3) := by decide +kernel
theorem dX2_queued_9 : decode cX2_queued 9 = .ok (.ifCond .eq 7, 3) := by decide +kernel
theorem dX2_queued_12 : decode cX2_queued 12 = .ok (.iload_n 3, 1) := by decide +kernel
theorem dX2_queued_13 : decode cX2_queued 13 = .ok (.ifCond .ge 8, 3) := by decide +kernel
theorem dX2_queued_16 : decode cX2_queued 16 = .ok (.aload_n 0, 1) := by decide +kernel
theorem dX2_queued_17 : decode cX2_queued 17 = .ok (.invokevirtual 27, 3) := by decide +kernel
theorem dX2_queued_20 : decode cX2_queued 20 = .ok (.ireturn, 1) := by decide +kernel
theorem dX2_queued_21 : decode cX2_queued 21 = .ok (.iload_n 1, 1) := by decide +kernel
theorem dX2_queued_22 : decode cX2_queued 22 = .ok (.iload_n 2, 1) := by decide +kernel
theorem dX2_queued_23 : decode cX2_queued 23 = .ok (.invokestatic 72, 3) := by decide +kernel
theorem dX2_queued_26 : decode cX2_queued 26 = .ok (.istore 4, 2) := by decide +kernel
theorem dX2_queued_28 : decode cX2_queued 28 = .ok (.iload_n 3, 1) := by decide +kernel
theorem dX2_queued_29 : decode cX2_queued 29 = .ok (.aload_n 0, 1) := by decide +kernel
theorem dX2_queued_30 : decode cX2_queued 30 = .ok (.getfield 12, 3) := by decide +kernel
theorem dX2_queued_33 : decode cX2_queued 33 = .ok (.getfield 78, 3) := by decide +kernel
theorem dX2_queued_36 : decode cX2_queued 36 = .ok (.iload 4, 2) := by decide +kernel
theorem dX2_queued_38 : decode cX2_queued 38 = .ok (.iaload, 1) := by decide +kernel
theorem dX2_queued_39 : decode cX2_queued 39 = .ok (.if_icmp .lt 5, 3) := by decide +kernel
theorem dX2_queued_42 : decode cX2_queued 42 = .ok (.iconst (-1), 1) := by decide +kernel
theorem dX2_queued_43 : decode cX2_queued 43 = .ok (.ireturn, 1) := by decide +kernel
theorem dX2_queued_44 : decode cX2_queued 44 = .ok (.aload_n 0, 1) := by decide +kernel
theorem dX2_queued_45 : decode cX2_queued 45 = .ok (.getfield 12, 3) := by decide +kernel
theorem dX2_queued_48 : decode cX2_queued 48 = .ok (.getfield 81, 3) := by decide +kernel
theorem dX2_queued_51 : decode cX2_queued 51 = .ok (.iload 4, 2) := by decide +kernel
theorem dX2_queued_53 : decode cX2_queued 53 = .ok (.bipush 10, 2) := by decide +kernel
theorem dX2_queued_55 : decode cX2_queued 55 = .ok (.imul, 1) := by decide +kernel
theorem dX2_queued_56 : decode cX2_queued 56 = .ok (.iload_n 3, 1) := by decide +kernel
theorem dX2_queued_57 : decode cX2_queued 57 = .ok (.iadd, 1) := by decide +kernel
theorem dX2_queued_58 : decode cX2_queued 58 = .ok (.iaload, 1) := by decide +kernel
theorem dX2_queued_59 : decode cX2_queued 59 = .ok (.invokestatic 84, 3) := by decide +kernel
theorem dX2_queued_62 : decode cX2_queued 62 = .ok (.ireturn, 1) := by decide +kernel
theorem dX2_congestion_0 : decode cX2_congestion 0 = .ok (.aload_n 0, 1) := by decide +kernel
theorem dX2_congestion_1 : decode cX2_congestion 1 = .ok (.getfield 12, 3) := by decide +kernel
theorem dX2_congestion_4 : decode cX2_congestion 4 = .ok (.iload_n 1, 1) := by decide +kernel
theorem dX2_congestion_5 : decode cX2_congestion 5 = .ok (.iload_n 2, 1) := by decide +kernel
theorem dX2_congestion_6 : decode cX2_congestion 6 = .ok (.invokevirtual 46, 3) := by decide +kernel
theorem dX2_congestion_9 : decode cX2_congestion 9 = .ok (.ifCond .ne 8, 3) := by decide +kernel
theorem dX2_congestion_12 : decode cX2_congestion 12 = .ok (.aload_n 0, 1) := by decide +kernel
theorem dX2_congestion_13 : decode cX2_congestion 13 = .ok (.invokevirtual 27, 3) := by decide +kernel
theorem dX2_congestion_16 : decode cX2_congestion 16 = .ok (.ireturn, 1) := by decide +kernel
theorem dX2_congestion_17 : decode cX2_congestion 17 = .ok (.aload_n 0, 1) := by decide +kernel
theorem dX2_congestion_18 : decode cX2_congestion 18 = .ok (.getfield 12, 3) := by decide +kernel
theorem dX2_congestion_21 : decode cX2_congestion 21 = .ok (.iload_n 1, 1) := by decide +kernel
theorem dX2_congestion_22 : decode cX2_congestion 22 = .ok (.iload_n 2, 1) := by decide +kernel
theorem dX2_congestion_23 : decode cX2_congestion 23 = .ok (.invokestatic 72, 3) := by decide +kernel
theorem dX2_congestion_26 : decode cX2_congestion 26 = .ok (.invokevirtual 87, 3) := by decide +kernel
theorem dX2_congestion_29 : decode cX2_congestion 29 = .ok (.ireturn, 1) := by decide +kernel
theorem dX2_isActive_0 : decode cX2_isActive 0 = .ok (.aload_n 0, 1) := by decide +kernel
theorem dX2_isActive_1 : decode cX2_isActive 1 = .ok (.getfield 12, 3) := by decide +kernel
theorem dX2_isActive_4 : decode cX2_isActive 4 = .ok (.iload_n 1, 1) := by decide +kernel
theorem dX2_isActive_5 : decode cX2_isActive 5 = .ok (.iload_n 2, 1) := by decide +kernel
theorem dX2_isActive_6 : decode cX2_isActive 6 = .ok (.invokevirtual 46, 3) := by decide +kernel
theorem dX2_isActive_9 : decode cX2_isActive 9 = .ok (.ifCond .ne 8, 3) := by decide +kernel
theorem dX2_isActive_12 : decode cX2_isActive 12 = .ok (.aload_n 0, 1) := by decide +kernel
theorem dX2_isActive_13 : decode cX2_isActive 13 = .ok (.invokevirtual 27, 3) := by decide +kernel
theorem dX2_isActive_16 : decode cX2_isActive 16 = .ok (.ireturn, 1) := by decide +kernel
theorem dX2_isActive_17 : decode cX2_isActive 17 = .ok (.aload_n 0, 1) := by decide +kernel
theorem dX2_isActive_18 : decode cX2_isActive 18 = .ok (.getfield 12, 3) := by decide +kernel
theorem dX2_isActive_21 : decode cX2_isActive 21 = .ok (.iload_n 1, 1) := by decide +kernel
theorem dX2_isActive_22 : decode cX2_isActive 22 = .ok (.iload_n 2, 1) := by decide +kernel
theorem dX2_isActive_23 : decode cX2_isActive 23 = .ok (.invokevirtual 50, 3) := by decide +kernel
theorem dX2_isActive_26 : decode cX2_isActive 26 = .ok (.ifCond .eq 7, 3) := by decide +kernel
theorem dX2_isActive_29 : decode cX2_isActive 29 = .ok (.iconst 1, 1) := by decide +kernel
theorem dX2_isActive_30 : decode cX2_isActive 30 = .ok (.goto 4, 3) := by decide +kernel
theorem dX2_isActive_33 : decode cX2_isActive 33 = .ok (.iconst 0, 1) := by decide +kernel
theorem dX2_isActive_34 : decode cX2_isActive 34 = .ok (.ireturn, 1) := by decide +kernel
theorem dX2_addRoute_0 : decode cX2_addRoute 0 = .ok (.aload_n 0, 1) := by decide +kernel
theorem dX2_addRoute_1 : decode cX2_addRoute 1 = .ok (.getfield 12, 3) := by decide +kernel
theorem dX2_addRoute_4 : decode cX2_addRoute 4 = .ok (.iload_n 1, 1) := by decide +kernel
theorem dX2_addRoute_5 : decode cX2_addRoute 5 = .ok (.iload_n 2, 1) := by decide +kernel
theorem dX2_addRoute_6 : decode cX2_addRoute 6 = .ok (.invokevirtual 90, 3) := by decide +kernel
theorem dX2_addRoute_9 : decode cX2_addRoute 9 = .ok (.ifCond .eq 12, 3) := by decide +kernel
theorem dX2_addRoute_12 : decode cX2_addRoute 12 = .ok (.iload_n 3, 1) := by decide +kernel
theorem dX2_addRoute_13 : decode cX2_addRoute 13 = .ok (.ifCond .lt 8, 3) := by decide +kernel
theorem dX2_addRoute_16 : decode cX2_addRoute 16 = .ok (.iload_n 3, 1) := by decide +kernel
theorem dX2_addRoute_17 : decode cX2_addRoute 17 = .ok (.iconst 2, 1) := by decide +kernel
theorem dX2_addRoute_18 : decode cX2_addRoute 18 = .ok (.if_icmp .le 8, 3) := by decide +kernel
theorem dX2_addRoute_21 : decode cX2_addRoute 21 = .ok (.aload_n 0, 1) := by decide +kernel
theorem dX2_addRoute_22 : decode cX2_addRoute 22 = .ok (.invokevirtual 27, 3) := by decide +kernel
theorem dX2_addRoute_25 : decode cX2_addRoute 25 = .ok (.ireturn, 1) := by decide +kernel
theorem dX2_addRoute_26 : decode cX2_addRoute 26 = .ok (.iload_n 1, 1) := by decide +kernel
theorem dX2_addRoute_27 : decode cX2_addRoute 27 = .ok (.iload_n 2, 1) := by decide +kernel
theorem dX2_addRoute_28 : decode cX2_addRoute 28 = .ok (.invokestatic 93, 3) := by decide +kernel
theorem dX2_addRoute_31 : decode cX2_addRoute 31 = .ok (.istore 4, 2) := by decide +kernel
theorem dX2_addRoute_33 : decode cX2_addRoute 33 = .ok (.aload_n 0, 1) := by decide +kernel
theorem dX2_addRoute_34 : decode cX2_addRoute 34 = .ok (.getfield 12, 3) := by decide +kernel
theorem dX2_addRoute_37 : decode cX2_addRoute 37 = .ok (.getfield 96, 3) := by decide +kernel
theorem dX2_addRoute_40 : decode cX2_addRoute 40 = .ok (.iload 4, 2) := by decide +kernel
theorem dX2_addRoute_42 : decode cX2_addRoute 42 = .ok (.iaload, 1) := by decide +kernel
theorem dX2_addRoute_43 : decode cX2_addRoute 43 = .ok (.iconst (-1), 1) := by decide +kernel
theorem dX2_addRoute_44 : decode cX2_addRoute 44 = .ok (.if_icmp .eq 8, 3) := by decide +kernel
theorem dX2_addRoute_47 : decode cX2_addRoute 47 = .ok (.aload_n 0, 1) := by decide +kernel
theorem dX2_addRoute_48 : decode cX2_addRoute 48 = .ok (.invokevirtual 53, 3) := by decide +kernel
theorem dX2_addRoute_51 : decode cX2_addRoute 51 = .ok (.ireturn, 1) := by decide +kernel
theorem dX2_addRoute_52 : decode cX2_addRoute 52 = .ok (.aload_n 0, 1) := by decide +kernel
theorem dX2_addRoute_53 : decode cX2_addRoute 53 = .ok (.getfield 19, 3) := by decide +kernel
theorem dX2_addRoute_56 : decode cX2_addRoute 56 = .ok (.aload_n 0, 1) := by decide +kernel
theorem dX2_addRoute_57 : decode cX2_addRoute 57 = .ok (.getfield 12, 3) := by decide +kernel
theorem dX2_addRoute_60 : decode cX2_addRoute 60 = .ok (.invokevirtual 38, 3) := by decide +kernel
theorem dX2_addRoute_63 : decode cX2_addRoute 63 = .ok (.aload_n 0, 1) := by decide +kernel
theorem dX2_addRoute_64 : decode cX2_addRoute 64 = .ok (.getfield 12, 3) := by decide +kernel
theorem dX2_addRoute_67 : decode cX2_addRoute 67 = .ok (.aload_n 0, 1) := by decide +kernel
theorem dX2_addRoute_68 : decode cX2_addRoute 68 = .ok (.getfield 23, 3) := by decide +kernel
theorem dX2_addRoute_71 : decode cX2_addRoute 71 = .ok (.invokevirtual 60, 3) := by decide +kernel
theorem dX2_addRoute_74 : decode cX2_addRoute 74 = .ok (.aload_n 0, 1) := by decide +kernel
theorem dX2_addRoute_75 : decode cX2_addRoute 75 = .ok (.getfield 12, 3) := by decide +kernel
theorem dX2_addRoute_78 : decode cX2_addRoute 78 = .ok (.getfield 96, 3) := by decide +kernel
theorem dX2_addRoute_81 : decode cX2_addRoute 81 = .ok (.iload 4, 2) := by decide +kernel
theorem dX2_addRoute_83 : decode cX2_addRoute 83 = .ok (.iconst 0, 1) := by decide +kernel
theorem dX2_addRoute_84 : decode cX2_addRoute 84 = .ok (.iastore, 1) := by decide +kernel
theorem dX2_addRoute_85 : decode cX2_addRoute 85 = .ok (.aload_n 0, 1) := by decide +kernel
theorem dX2_addRoute_86 : decode cX2_addRoute 86 = .ok (.getfield 12, 3) := by decide +kernel
theorem dX2_addRoute_89 : decode cX2_addRoute 89 = .ok (.getfield 99, 3) := by decide +kernel
theorem dX2_addRoute_92 : decode cX2_addRoute 92 = .ok (.iload 4, 2) := by decide +kernel
theorem dX2_addRoute_94 : decode cX2_addRoute 94 = .ok (.iload_n 3, 1) := by decide +kernel
theorem dX2_addRoute_95 : decode cX2_addRoute 95 = .ok (.iastore, 1) := by decide +kernel
theorem dX2_addRoute_96 : decode cX2_addRoute 96 = .ok (.aload_n 0, 1) := by decide +kernel
theorem dX2_addRoute_97 : decode cX2_addRoute 97 = .ok (.getfield 12, 3) := by decide +kernel
theorem dX2_addRoute_100 : decode cX2_addRoute 100 = .ok (.aload_n 0, 1) := by decide +kernel
theorem dX2_addRoute_101 : decode cX2_addRoute 101 = .ok (.getfield 23, 3) := by decide +kernel
theorem dX2_addRoute_104 : decode cX2_addRoute 104 = .ok (.invokevirtual 68, 3) := by decide +kernel
theorem dX2_addRoute_107 : decode cX2_addRoute 107 = .ok (.ireturn, 1) := by decide +kernel
theorem dX2_removeRoute_0 : decode cX2_removeRoute 0 = .ok (.aload_n 0, 1) := by decide +kernel
theorem dX2_removeRoute_1 : decode cX2_removeRoute 1 = .ok (.getfield 12, 3) := by decide +kernel
theorem dX2_removeRoute_4 : decode cX2_removeRoute 4 = .ok (.iload_n 1, 1) := by decide +kernel
theorem dX2_removeRoute_5 : decode cX2_removeRoute 5 = .ok (.iload_n 2, 1) := by decide +kernel
theorem dX2_removeRoute_6 : decode cX2_removeRoute 6 = .ok (.invokevirtual 90, 3) := by decide +kernel
theorem dX2_removeRoute_9 : decode cX2_removeRoute 9 = .ok (.ifCond .ne 8, 3) := by decide +kernel
theorem dX2_removeRoute_12 : decode cX2_removeRoute 12 = .ok (.aload_n 0, 1) := by decide +kernel
theorem dX2_removeRoute_13 : decode cX2_removeRoute 13 = .ok (.invokevirtual 27, 3) := by decide +kernel
theorem dX2_removeRoute_16 : decode cX2_removeRoute 16 = .ok (.ireturn, 1) := by decide +kernel
theorem dX2_removeRoute_17 : decode cX2_removeRoute 17 = .ok (.iload_n 1, 1) := by decide +kernel
theorem dX2_removeRoute_18 : decode cX2_removeRoute 18 = .ok (.iload_n 2, 1) := by decide +kernel
theorem dX2_removeRoute_19 : decode cX2_removeRoute 19 = .ok (.invokestatic 93, 3) := by decide +kernel
theorem dX2_removeRoute_22 : decode cX2_removeRoute 22 = .ok (.istore_n 3, 1) := by decide +kernel
theorem dX2_removeRoute_23 : decode cX2_removeRoute 23 = .ok (.aload_n 0, 1) := by decide +kernel
theorem dX2_removeRoute_24 : decode cX2_removeRoute 24 = .ok (.getfield 12, 3) := by decide +kernel
theorem dX2_removeRoute_27 : decode cX2_removeRoute 27 = .ok (.getfield 96, 3) := by decide +kernel
theorem dX2_removeRoute_30 : decode cX2_removeRoute 30 = .ok (.iload_n 3, 1) := by decide +kernel
theorem dX2_removeRoute_31 : decode cX2_removeRoute 31 = .ok (.iaload, 1) := by decide +kernel
theorem dX2_removeRoute_32 : decode cX2_removeRoute 32 = .ok (.istore 4, 2) := by decide +kernel
theorem dX2_removeRoute_34 : decode cX2_removeRoute 34 = .ok (.iload 4, 2) := by decide +kernel
theorem dX2_removeRoute_36 : decode cX2_removeRoute 36 = .ok (.iconst (-1), 1) := by decide +kernel
theorem dX2_removeRoute_37 : decode cX2_removeRoute 37 = .ok (.if_icmp .ne 8, 3) := by decide +kernel
theorem dX2_removeRoute_40 : decode cX2_removeRoute 40 = .ok (.aload_n 0, 1) := by decide +kernel
theorem dX2_removeRoute_41 : decode cX2_removeRoute 41 = .ok (.invokevirtual 53, 3) := by decide +kernel
theorem dX2_removeRoute_44 : decode cX2_removeRoute 44 = .ok (.ireturn, 1) := by decide +kernel
theorem dX2_removeRoute_45 : decode cX2_removeRoute 45 = .ok (.aload_n 0, 1) := by decide +kernel
theorem dX2_removeRoute_46 : decode cX2_removeRoute 46 = .ok (.getfield 19, 3) := by decide +kernel
theorem dX2_removeRoute_49 : decode cX2_removeRoute 49 = .ok (.aload_n 0, 1) := by decide +kernel
theorem dX2_removeRoute_50 : decode cX2_removeRoute 50 = .ok (.getfield 12, 3) := by decide +kernel
theorem dX2_removeRoute_53 : decode cX2_removeRoute 53 = .ok (.invokevirtual 38, 3) := by decide +kernel
theorem dX2_removeRoute_56 : decode cX2_removeRoute 56 = .ok (.aload_n 0, 1) := by decide +kernel
theorem dX2_removeRoute_57 : decode cX2_removeRoute 57 = .ok (.getfield 12, 3) := by decide +kernel
theorem dX2_removeRoute_60 : decode cX2_removeRoute 60 = .ok (.getfield 96, 3) := by decide +kernel
theorem dX2_removeRoute_63 : decode cX2_removeRoute 63 = .ok (.iload_n 3, 1) := by decide +kernel
theorem dX2_removeRoute_64 : decode cX2_removeRoute 64 = .ok (.iconst (-1), 1) := by decide +kernel
theorem dX2_removeRoute_65 : decode cX2_removeRoute 65 = .ok (.iastore, 1) := by decide +kernel
theorem dX2_removeRoute_66 : decode cX2_removeRoute 66 = .ok (.aload_n 0, 1) := by decide +kernel
theorem dX2_removeRoute_67 : decode cX2_removeRoute 67 = .ok (.getfield 12, 3) := by decide +kernel
theorem dX2_removeRoute_70 : decode cX2_removeRoute 70 = .ok (.getfield 99, 3) := by decide +kernel
theorem dX2_removeRoute_73 : decode cX2_removeRoute 73 = .ok (.iload_n 3, 1) := by decide +kernel
theorem dX2_removeRoute_74 : decode cX2_removeRoute 74 = .ok (.iconst (-1), 1) := by decide +kernel
theorem dX2_removeRoute_75 : decode cX2_removeRoute 75 = .ok (.iastore, 1) := by decide +kernel
theorem dX2_removeRoute_76 : decode cX2_removeRoute 76 = .ok (.iload 4, 2) := by decide +kernel
theorem dX2_removeRoute_78 : decode cX2_removeRoute 78 = .ok (.ireturn, 1) := by decide +kernel
theorem dX2_setRouteState_0 : decode cX2_setRouteState 0 = .ok (.aload_n 0, 1) := by decide +kernel
theorem dX2_setRouteState_1 : decode cX2_setRouteState 1 = .ok (.getfield 12, 3) := by decide +kernel
theorem dX2_setRouteState_4 : decode cX2_setRouteState 4 = .ok (.iload_n 1, 1) := by decide +kernel
theorem dX2_setRouteState_5 : decode cX2_setRouteState 5 = .ok (.iload_n 2, 1) := by decide +kernel
theorem dX2_setRouteState_6 : decode cX2_setRouteState 6 = .ok (.invokevirtual 90, 3) := by decide +kernel
theorem dX2_setRouteState_9 : decode cX2_setRouteState 9 = .ok (.ifCond .eq 12, 3) := by decide +kernel
theorem dX2_setRouteState_12 : decode cX2_setRouteState 12 = .ok (.iload_n 3, 1) := by decide +kernel
theorem dX2_setRouteState_13 : decode cX2_setRouteState 13 = .ok (.ifCond .lt 8, 3) := by decide +kernel
theorem dX2_setRouteState_16 : decode cX2_setRouteState 16 = .ok (.iload_n 3, 1) := by decide +kernel
theorem dX2_setRouteState_17 : decode cX2_setRouteState 17 = .ok (.iconst 2, 1) := by decide +kernel
theorem dX2_setRouteState_18 : decode cX2_setRouteState 18 = .ok (.if_icmp .le 8, 3) := by decide +kernel
theorem dX2_setRouteState_21 : decode cX2_setRouteState 21 = .ok (.aload_n 0, 1) := by decide +kernel
theorem dX2_setRouteState_22 : decode cX2_setRouteState 22 = .ok (.invokevirtual 27, 3) := by decide +kernel
theorem dX2_setRouteState_25 : decode cX2_setRouteState 25 = .ok (.ireturn, 1) := by decide +kernel
theorem dX2_setRouteState_26 : decode cX2_setRouteState 26 = .ok (.iload_n 1, 1) := by decide +kernel
theorem dX2_setRouteState_27 : decode cX2_setRouteState 27 = .ok (.iload_n 2, 1) := by decide +kernel
theorem dX2_setRouteState_28 : decode cX2_setRouteState 28 = .ok (.invokestatic 93, 3) := by decide +kernel
theorem dX2_setRouteState_31 : decode cX2_setRouteState 31 = .ok (.istore 4, 2) := by decide +kernel
theorem dX2_setRouteState_33 : decode cX2_setRouteState 33 = .ok (.aload_n 0, 1) := by decide +kernel
theorem dX2_setRouteState_34 : decode cX2_setRouteState 34 = .ok (.getfield 12, 3) := by decide +kernel
theorem dX2_setRouteState_37 : decode cX2_setRouteState 37 = .ok (.getfield 96, 3) := by decide +kernel
theorem dX2_setRouteState_40 : decode cX2_setRouteState 40 = .ok (.iload 4, 2) := by decide +kernel
theorem dX2_setRouteState_42 : decode cX2_setRouteState 42 = .ok (.iaload, 1) := by decide +kernel
theorem dX2_setRouteState_43 : decode cX2_setRouteState 43 = .ok (.istore 5, 2) := by decide +kernel
theorem dX2_setRouteState_45 : decode cX2_setRouteState 45 = .ok (.iload 5, 2) := by decide +kernel
theorem dX2_setRouteState_47 : decode cX2_setRouteState 47 = .ok (.iconst (-1), 1) := by decide +kernel
theorem dX2_setRouteState_48 : decode cX2_setRouteState 48 = .ok (.if_icmp .ne 8, 3) := by decide +kernel
theorem dX2_setRouteState_51 : decode cX2_setRouteState 51 = .ok (.aload_n 0, 1) := by decide +kernel
theorem dX2_setRouteState_52 : decode cX2_setRouteState 52 = .ok (.invokevirtual 53, 3) := by decide +kernel
theorem dX2_setRouteState_55 : decode cX2_setRouteState 55 = .ok (.ireturn, 1) := by decide +kernel
theorem dX2_setRouteState_56 : decode cX2_setRouteState 56 = .ok (.aload_n 0, 1) := by decide +kernel
theorem dX2_setRouteState_57 : decode cX2_setRouteState 57 = .ok (.getfield 19, 3) := by decide +kernel
theorem dX2_setRouteState_60 : decode cX2_setRouteState 60 = .ok (.aload_n 0, 1) := by decide +kernel
theorem dX2_setRouteState_61 : decode cX2_setRouteState 61 = .ok (.getfield 12, 3) := by decide +kernel
theorem dX2_setRouteState_64 : decode cX2_setRouteState 64 = .ok (.invokevirtual 38, 3) := by decide +kernel
theorem dX2_setRouteState_67 : decode cX2_setRouteState 67 = .ok (.aload_n 0, 1) := by decide +kernel
theorem dX2_setRouteState_68 : decode cX2_setRouteState 68 = .ok (.getfield 12, 3) := by decide +kernel
theorem dX2_setRouteState_71 : decode cX2_setRouteState 71 = .ok (.aload_n 0, 1) := by decide +kernel
theorem dX2_setRouteState_72 : decode cX2_setRouteState 72 = .ok (.getfield 23, 3) := by decide +kernel
theorem dX2_setRouteState_75 : decode cX2_setRouteState 75 = .ok (.invokevirtual 60, 3) := by decide +kernel
theorem dX2_setRouteState_78 : decode cX2_setRouteState 78 = .ok (.aload_n 0, 1) := by decide +kernel
theorem dX2_setRouteState_79 : decode cX2_setRouteState 79 = .ok (.getfield 12, 3) := by decide +kernel
theorem dX2_setRouteState_82 : decode cX2_setRouteState 82 = .ok (.getfield 96, 3) := by decide +kernel
theorem dX2_setRouteState_85 : decode cX2_setRouteState 85 = .ok (.iload 4, 2) := by decide +kernel
theorem dX2_setRouteState_87 : decode cX2_setRouteState 87 = .ok (.iload_n 3, 1) := by decide +kernel
theorem dX2_setRouteState_88 : decode cX2_setRouteState 88 = .ok (.iastore, 1) := by decide +kernel
theorem dX2_setRouteState_89 : decode cX2_setRouteState 89 = .ok (.iload_n 3, 1) := by decide +kernel
theorem dX2_setRouteState_90 : decode cX2_setRouteState 90 = .ok (.iload 5, 2) := by decide +kernel
theorem dX2_setRouteState_92 : decode cX2_setRouteState 92 = .ok (.if_icmp .ge 15, 3) := by decide +kernel
theorem dX2_setRouteState_95 : decode cX2_setRouteState 95 = .ok (.aload_n 0, 1) := by decide +kernel
theorem dX2_setRouteState_96 : decode cX2_setRouteState 96 = .ok (.getfield 12, 3) := by decide +kernel
theorem dX2_setRouteState_99 : decode cX2_setRouteState 99 = .ok (.aload_n 0, 1) := by decide +kernel
theorem dX2_setRouteState_100 : decode cX2_setRouteState 100 = .ok (.getfield 23, 3) := by decide +kernel
theorem dX2_setRouteState_103 : decode cX2_setRouteState 103 = .ok (.invokevirtual 68, 3) := by decide +kernel
theorem dX2_setRouteState_106 : decode cX2_setRouteState 106 = .ok (.pop, 1) := by decide +kernel
theorem dX2_setRouteState_107 : decode cX2_setRouteState 107 = .ok (.iload 5, 2) := by decide +kernel
theorem dX2_setRouteState_109 : decode cX2_setRouteState 109 = .ok (.ireturn, 1) := by decide +kernel
theorem dX2_routeState_0 : decode cX2_routeState 0 = .ok (.aload_n 0, 1) := by decide +kernel
theorem dX2_routeState_1 : decode cX2_routeState 1 = .ok (.getfield 12, 3) := by decide +kernel
theorem dX2_routeState_4 : decode cX2_routeState 4 = .ok (.iload_n 1, 1) := by decide +kernel
theorem dX2_routeState_5 : decode cX2_routeState 5 = .ok (.iload_n 2, 1) := by decide +kernel
theorem dX2_routeState_6 : decode cX2_routeState 6 = .ok (.invokevirtual 90, 3) := by decide +kernel
theorem dX2_routeState_9 : decode cX2_routeState 9 = .ok (.ifCond .ne 8, 3) := by decide +kernel
theorem dX2_routeState_12 : decode cX2_routeState 12 = .ok (.aload_n 0, 1) := by decide +kernel
theorem dX2_routeState_13 : decode cX2_routeState 13 = .ok (.invokevirtual 27, 3) := by decide +kernel
theorem dX2_routeState_16 : decode cX2_routeState 16 = .ok (.ireturn, 1) := by decide +kernel
theorem dX2_routeState_17 : decode cX2_routeState 17 = .ok (.aload_n 0, 1) := by decide +kernel
theorem dX2_routeState_18 : decode cX2_routeState 18 = .ok (.getfield 12, 3) := by decide +kernel
theorem dX2_routeState_21 : decode cX2_routeState 21 = .ok (.getfield 96, 3) := by decide +kernel
theorem dX2_routeState_24 : decode cX2_routeState 24 = .ok (.iload_n 1, 1) := by decide +kernel
theorem dX2_routeState_25 : decode cX2_routeState 25 = .ok (.iload_n 2, 1) := by decide +kernel
theorem dX2_routeState_26 : decode cX2_routeState 26 = .ok (.invokestatic 93, 3) := by decide +kernel
theorem dX2_routeState_29 : decode cX2_routeState 29 = .ok (.iaload, 1) := by decide +kernel
theorem dX2_routeState_30 : decode cX2_routeState 30 = .ok (.ireturn, 1) := by decide +kernel
theorem dX2_currentRoutes_0 : decode cX2_currentRoutes 0 = .ok (.iload_n 1, 1) := by decide +kernel
theorem dX2_currentRoutes_1 : decode cX2_currentRoutes 1 = .ok (.invokestatic 102, 3) := by decide +kernel
theorem dX2_currentRoutes_4 : decode cX2_currentRoutes 4 = .ok (.ifCond .ne 8, 3) := by decide +kernel
theorem dX2_currentRoutes_7 : decode cX2_currentRoutes 7 = .ok (.aload_n 0, 1) := by decide +kernel
theorem dX2_currentRoutes_8 : decode cX2_currentRoutes 8 = .ok (.invokevirtual 27, 3) := by decide +kernel
theorem dX2_currentRoutes_11 : decode cX2_currentRoutes 11 = .ok (.ireturn, 1) := by decide +kernel
theorem dX2_currentRoutes_12 : decode cX2_currentRoutes 12 = .ok (.aload_n 0, 1) := by decide +kernel
theorem dX2_currentRoutes_13 : decode cX2_currentRoutes 13 = .ok (.getfield 12, 3) := by decide +kernel
theorem dX2_currentRoutes_16 : decode cX2_currentRoutes 16 = .ok (.iload_n 1, 1) := by decide +kernel
theorem dX2_currentRoutes_17 : decode cX2_currentRoutes 17 = .ok (.invokevirtual 106, 3) := by decide +kernel
theorem dX2_currentRoutes_20 : decode cX2_currentRoutes 20 = .ok (.ireturn, 1) := by decide +kernel
theorem dX2_currentLink_0 : decode cX2_currentLink 0 = .ok (.iload_n 1, 1) := by decide +kernel
theorem dX2_currentLink_1 : decode cX2_currentLink 1 = .ok (.iload_n 2, 1) := by decide +kernel
theorem dX2_currentLink_2 : decode cX2_currentLink 2 = .ok (.invokestatic 109, 3) := by decide +kernel
theorem dX2_currentLink_5 : decode cX2_currentLink 5 = .ok (.ifCond .ne 8, 3) := by decide +kernel
theorem dX2_currentLink_8 : decode cX2_currentLink 8 = .ok (.aload_n 0, 1) := by decide +kernel
theorem dX2_currentLink_9 : decode cX2_currentLink 9 = .ok (.invokevirtual 27, 3) := by decide +kernel
theorem dX2_currentLink_12 : decode cX2_currentLink 12 = .ok (.ireturn, 1) := by decide +kernel
theorem dX2_currentLink_13 : decode cX2_currentLink 13 = .ok (.aload_n 0, 1) := by decide +kernel
theorem dX2_currentLink_14 : decode cX2_currentLink 14 = .ok (.getfield 12, 3) := by decide +kernel
theorem dX2_currentLink_17 : decode cX2_currentLink 17 = .ok (.aload_n 0, 1) := by decide +kernel
theorem dX2_currentLink_18 : decode cX2_currentLink 18 = .ok (.getfield 12, 3) := by decide +kernel
theorem dX2_currentLink_21 : decode cX2_currentLink 21 = .ok (.iload_n 1, 1) := by decide +kernel
theorem dX2_currentLink_22 : decode cX2_currentLink 22 = .ok (.invokevirtual 106, 3) := by decide +kernel
theorem dX2_currentLink_25 : decode cX2_currentLink 25 = .ok (.iload_n 2, 1) := by decide +kernel
theorem dX2_currentLink_26 : decode cX2_currentLink 26 = .ok (.invokevirtual 112, 3) := by decide +kernel
theorem dX2_currentLink_29 : decode cX2_currentLink 29 = .ok (.ireturn, 1) := by decide +kernel
theorem dX2_send_0 : decode cX2_send 0 = .ok (.iload_n 1, 1) := by decide +kernel
theorem dX2_send_1 : decode cX2_send 1 = .ok (.iload_n 2, 1) := by decide +kernel
theorem dX2_send_2 : decode cX2_send 2 = .ok (.invokestatic 109, 3) := by decide +kernel
theorem dX2_send_5 : decode cX2_send 5 = .ok (.ifCond .eq 12, 3) := by decide +kernel
theorem dX2_send_8 : decode cX2_send 8 = .ok (.iload_n 3, 1) := by decide +kernel
theorem dX2_send_9 : decode cX2_send 9 = .ok (.ifCond .lt 8, 3) := by decide +kernel
theorem dX2_send_12 : decode cX2_send 12 = .ok (.iload_n 3, 1) := by decide +kernel
theorem dX2_send_13 : decode cX2_send 13 = .ok (.iconst 3, 1) := by decide +kernel
theorem dX2_send_14 : decode cX2_send 14 = .ok (.if_icmp .le 8, 3) := by decide +kernel
theorem dX2_send_17 : decode cX2_send 17 = .ok (.aload_n 0, 1) := by decide +kernel
theorem dX2_send_18 : decode cX2_send 18 = .ok (.invokevirtual 27, 3) := by decide +kernel
theorem dX2_send_21 : decode cX2_send 21 = .ok (.ireturn, 1) := by decide +kernel
theorem dX2_send_22 : decode cX2_send 22 = .ok (.aload_n 0, 1) := by decide +kernel
theorem dX2_send_23 : decode cX2_send 23 = .ok (.getfield 19, 3) := by decide +kernel
theorem dX2_send_26 : decode cX2_send 26 = .ok (.aload_n 0, 1) := by decide +kernel
theorem dX2_send_27 : decode cX2_send 27 = .ok (.getfield 12, 3) := by decide +kernel
theorem dX2_send_30 : decode cX2_send 30 = .ok (.invokevirtual 38, 3) := by decide +kernel
theorem dX2_send_33 : decode cX2_send 33 = .ok (.aload_n 0, 1) := by decide +kernel
theorem dX2_send_34 : decode cX2_send 34 = .ok (.getfield 12, 3) := by decide +kernel
theorem dX2_send_37 : decode cX2_send 37 = .ok (.iload_n 1, 1) := by decide +kernel
theorem dX2_send_38 : decode cX2_send 38 = .ok (.iload_n 2, 1) := by decide +kernel
theorem dX2_send_39 : decode cX2_send 39 = .ok (.iload_n 3, 1) := by decide +kernel
theorem dX2_send_40 : decode cX2_send 40 = .ok (.invokevirtual 115, 3) := by decide +kernel
theorem dX2_send_43 : decode cX2_send 43 = .ok (.ireturn, 1) := by decide +kernel
theorem dX2_setHoldTime_0 : decode cX2_setHoldTime 0 = .ok (.iload_n 1, 1) := by decide +kernel
theorem dX2_setHoldTime_1 : decode cX2_setHoldTime 1 = .ok (.ifCond .lt 9, 3) := by decide +kernel
theorem dX2_setHoldTime_4 : decode cX2_setHoldTime 4 = .ok (.iload_n 1, 1) := by decide +kernel
theorem dX2_setHoldTime_5 : decode cX2_setHoldTime 5 = .ok (.bipush 9, 2) := by decide +kernel
theorem dX2_setHoldTime_7 : decode cX2_setHoldTime 7 = .ok (.if_icmp .le 8, 3) := by decide +kernel
theorem dX2_setHoldTime_10 : decode cX2_setHoldTime 10 = .ok (.aload_n 0, 1) := by decide +kernel
theorem dX2_setHoldTime_11 : decode cX2_setHoldTime 11 = .ok (.invokevirtual 27, 3) := by decide +kernel
theorem dX2_setHoldTime_14 : decode cX2_setHoldTime 14 = .ok (.ireturn, 1) := by decide +kernel
theorem dX2_setHoldTime_15 : decode cX2_setHoldTime 15 = .ok (.aload_n 0, 1) := by decide +kernel
theorem dX2_setHoldTime_16 : decode cX2_setHoldTime 16 = .ok (.getfield 19, 3) := by decide +kernel
theorem dX2_setHoldTime_19 : decode cX2_setHoldTime 19 = .ok (.aload_n 0, 1) := by decide +kernel
theorem dX2_setHoldTime_20 : decode cX2_setHoldTime 20 = .ok (.getfield 12, 3) := by decide +kernel
theorem dX2_setHoldTime_23 : decode cX2_setHoldTime 23 = .ok (.invokevirtual 38, 3) := by decide +kernel
theorem dX2_setHoldTime_26 : decode cX2_setHoldTime 26 = .ok (.aload_n 0, 1) := by decide +kernel
theorem dX2_setHoldTime_27 : decode cX2_setHoldTime 27 = .ok (.getfield 12, 3) := by decide +kernel
theorem dX2_setHoldTime_30 : decode cX2_setHoldTime 30 = .ok (.getfield 119, 3) := by decide +kernel
theorem dX2_setHoldTime_33 : decode cX2_setHoldTime 33 = .ok (.istore_n 2, 1) := by decide +kernel
theorem dX2_setHoldTime_34 : decode cX2_setHoldTime 34 = .ok (.aload_n 0, 1) := by decide +kernel
theorem dX2_setHoldTime_35 : decode cX2_setHoldTime 35 = .ok (.getfield 12, 3) := by decide +kernel
theorem dX2_setHoldTime_38 : decode cX2_setHoldTime 38 = .ok (.iload_n 1, 1) := by decide +kernel
theorem dX2_setHoldTime_39 : decode cX2_setHoldTime 39 = .ok (.putfield 119, 3) := by decide +kernel
theorem dX2_setHoldTime_42 : decode cX2_setHoldTime 42 = .ok (.iload_n 2, 1) := by decide +kernel
theorem dX2_setHoldTime_43 : decode cX2_setHoldTime 43 = .ok (.ireturn, 1) := by decide +kernel
theorem dX2_tick_0 : decode cX2_tick 0 = .ok (.aload_n 0, 1) := by decide +kernel
theorem dX2_tick_1 : decode cX2_tick 1 = .ok (.getfield 19, 3) := by decide +kernel
theorem dX2_tick_4 : decode cX2_tick 4 = .ok (.aload_n 0, 1) := by decide +kernel
theorem dX2_tick_5 : decode cX2_tick 5 = .ok (.getfield 12, 3) := by decide +kernel
theorem dX2_tick_8 : decode cX2_tick 8 = .ok (.invokevirtual 38, 3) := by decide +kernel
theorem dX2_tick_11 : decode cX2_tick 11 = .ok (.aload_n 0, 1) := by decide +kernel
theorem dX2_tick_12 : decode cX2_tick 12 = .ok (.getfield 12, 3) := by decide +kernel
theorem dX2_tick_15 : decode cX2_tick 15 = .ok (.dup, 1) := by decide +kernel
theorem dX2_tick_16 : decode cX2_tick 16 = .ok (.getfield 122, 3) := by decide +kernel
theorem dX2_tick_19 : decode cX2_tick 19 = .ok (.iconst 1, 1) := by decide +kernel
theorem dX2_tick_20 : decode cX2_tick 20 = .ok (.iadd, 1) := by decide +kernel
theorem dX2_tick_21 : decode cX2_tick 21 = .ok (.putfield 122, 3) := by decide +kernel
theorem dX2_tick_24 : decode cX2_tick 24 = .ok (.aload_n 0, 1) := by decide +kernel
theorem dX2_tick_25 : decode cX2_tick 25 = .ok (.getfield 12, 3) := by decide +kernel
theorem dX2_tick_28 : decode cX2_tick 28 = .ok (.invokevirtual 125, 3) := by decide +kernel
theorem dX2_tick_31 : decode cX2_tick 31 = .ok (.ireturn, 1) := by decide +kernel
theorem dX2_time_0 : decode cX2_time 0 = .ok (.aload_n 0, 1) := by decide +kernel
theorem dX2_time_1 : decode cX2_time 1 = .ok (.getfield 12, 3) := by decide +kernel
theorem dX2_time_4 : decode cX2_time 4 = .ok (.getfield 122, 3) := by decide +kernel
theorem dX2_time_7 : decode cX2_time 7 = .ok (.ireturn, 1) := by decide +kernel
theorem dX2_isHeld_0 : decode cX2_isHeld 0 = .ok (.iload_n 1, 1) := by decide +kernel
theorem dX2_isHeld_1 : decode cX2_isHeld 1 = .ok (.iload_n 2, 1) := by decide +kernel
theorem dX2_isHeld_2 : decode cX2_isHeld 2 = .ok (.invokestatic 109, 3) := by decide +kernel
theorem dX2_isHeld_5 : decode cX2_isHeld 5 = .ok (.ifCond .ne 8, 3) := by decide +kernel
theorem dX2_isHeld_8 : decode cX2_isHeld 8 = .ok (.aload_n 0, 1) := by decide +kernel
theorem dX2_isHeld_9 : decode cX2_isHeld 9 = .ok (.invokevirtual 27, 3) := by decide +kernel
theorem dX2_isHeld_12 : decode cX2_isHeld 12 = .ok (.ireturn, 1) := by decide +kernel
theorem dX2_isHeld_13 : decode cX2_isHeld 13 = .ok (.aload_n 0, 1) := by decide +kernel
theorem dX2_isHeld_14 : decode cX2_isHeld 14 = .ok (.getfield 12, 3) := by decide +kernel
theorem dX2_isHeld_17 : decode cX2_isHeld 17 = .ok (.iload_n 1, 1) := by decide +kernel
theorem dX2_isHeld_18 : decode cX2_isHeld 18 = .ok (.iload_n 2, 1) := by decide +kernel
theorem dX2_isHeld_19 : decode cX2_isHeld 19 = .ok (.invokestatic 128, 3) := by decide +kernel
theorem dX2_isHeld_22 : decode cX2_isHeld 22 = .ok (.invokevirtual 131, 3) := by decide +kernel
theorem dX2_isHeld_25 : decode cX2_isHeld 25 = .ok (.ifCond .eq 7, 3) := by decide +kernel
theorem dX2_isHeld_28 : decode cX2_isHeld 28 = .ok (.iconst 1, 1) := by decide +kernel
theorem dX2_isHeld_29 : decode cX2_isHeld 29 = .ok (.goto 4, 3) := by decide +kernel
theorem dX2_isHeld_32 : decode cX2_isHeld 32 = .ok (.iconst 0, 1) := by decide +kernel
theorem dX2_isHeld_33 : decode cX2_isHeld 33 = .ok (.ireturn, 1) := by decide +kernel
theorem dX2_heldMessages_0 : decode cX2_heldMessages 0 = .ok (.aload_n 0, 1) := by decide +kernel
theorem dX2_heldMessages_1 : decode cX2_heldMessages 1 = .ok (.getfield 12, 3) := by decide +kernel
theorem dX2_heldMessages_4 : decode cX2_heldMessages 4 = .ok (.getfield 134, 3) := by decide +kernel
theorem dX2_heldMessages_7 : decode cX2_heldMessages 7 = .ok (.ireturn, 1) := by decide +kernel
theorem dX2_delivered_0 : decode cX2_delivered 0 = .ok (.aload_n 0, 1) := by decide +kernel
theorem dX2_delivered_1 : decode cX2_delivered 1 = .ok (.getfield 12, 3) := by decide +kernel
theorem dX2_delivered_4 : decode cX2_delivered 4 = .ok (.getfield 137, 3) := by decide +kernel
theorem dX2_delivered_7 : decode cX2_delivered 7 = .ok (.ireturn, 1) := by decide +kernel
theorem dX2_overtaken_0 : decode cX2_overtaken 0 = .ok (.aload_n 0, 1) := by decide +kernel
theorem dX2_overtaken_1 : decode cX2_overtaken 1 = .ok (.getfield 12, 3) := by decide +kernel
theorem dX2_overtaken_4 : decode cX2_overtaken 4 = .ok (.getfield 140, 3) := by decide +kernel
theorem dX2_overtaken_7 : decode cX2_overtaken 7 = .ok (.ireturn, 1) := by decide +kernel
theorem dX2_unreachable_0 : decode cX2_unreachable 0 = .ok (.aload_n 0, 1) := by decide +kernel
theorem dX2_unreachable_1 : decode cX2_unreachable 1 = .ok (.getfield 12, 3) := by decide +kernel
theorem dX2_unreachable_4 : decode cX2_unreachable 4 = .ok (.getfield 143, 3) := by decide +kernel
theorem dX2_unreachable_7 : decode cX2_unreachable 7 = .ok (.ireturn, 1) := by decide +kernel
theorem dX2_congested_0 : decode cX2_congested 0 = .ok (.aload_n 0, 1) := by decide +kernel
theorem dX2_congested_1 : decode cX2_congested 1 = .ok (.getfield 12, 3) := by decide +kernel
theorem dX2_congested_4 : decode cX2_congested 4 = .ok (.getfield 146, 3) := by decide +kernel
theorem dX2_congested_7 : decode cX2_congested 7 = .ok (.ireturn, 1) := by decide +kernel
theorem dX2_lost_0 : decode cX2_lost 0 = .ok (.aload_n 0, 1) := by decide +kernel
theorem dX2_lost_1 : decode cX2_lost 1 = .ok (.getfield 12, 3) := by decide +kernel
theorem dX2_lost_4 : decode cX2_lost 4 = .ok (.getfield 149, 3) := by decide +kernel
theorem dX2_lost_7 : decode cX2_lost 7 = .ok (.ireturn, 1) := by decide +kernel
theorem dX2_spread_0 : decode cX2_spread 0 = .ok (.iload_n 1, 1) := by decide +kernel
theorem dX2_spread_1 : decode cX2_spread 1 = .ok (.invokestatic 102, 3) := by decide +kernel
theorem dX2_spread_4 : decode cX2_spread 4 = .ok (.ifCond .ne 8, 3) := by decide +kernel
theorem dX2_spread_7 : decode cX2_spread 7 = .ok (.aload_n 0, 1) := by decide +kernel
theorem dX2_spread_8 : decode cX2_spread 8 = .ok (.invokevirtual 27, 3) := by decide +kernel
theorem dX2_spread_11 : decode cX2_spread 11 = .ok (.ireturn, 1) := by decide +kernel
theorem dX2_spread_12 : decode cX2_spread 12 = .ok (.aload_n 0, 1) := by decide +kernel
theorem dX2_spread_13 : decode cX2_spread 13 = .ok (.getfield 12, 3) := by decide +kernel
theorem dX2_spread_16 : decode cX2_spread 16 = .ok (.iload_n 1, 1) := by decide +kernel
theorem dX2_spread_17 : decode cX2_spread 17 = .ok (.invokevirtual 152, 3) := by decide +kernel
theorem dX2_spread_20 : decode cX2_spread 20 = .ok (.ireturn, 1) := by decide +kernel
theorem dX2_undo_0 : decode cX2_undo 0 = .ok (.aload_n 0, 1) := by decide +kernel
theorem dX2_undo_1 : decode cX2_undo 1 = .ok (.getfield 19, 3) := by decide +kernel
theorem dX2_undo_4 : decode cX2_undo 4 = .ok (.getfield 155, 3) := by decide +kernel
theorem dX2_undo_7 : decode cX2_undo 7 = .ok (.ifCond .ne 8, 3) := by decide +kernel
theorem dX2_undo_10 : decode cX2_undo 10 = .ok (.aload_n 0, 1) := by decide +kernel
theorem dX2_undo_11 : decode cX2_undo 11 = .ok (.invokevirtual 53, 3) := by decide +kernel
theorem dX2_undo_14 : decode cX2_undo 14 = .ok (.ireturn, 1) := by decide +kernel
theorem dX2_undo_15 : decode cX2_undo 15 = .ok (.aload_n 0, 1) := by decide +kernel
theorem dX2_undo_16 : decode cX2_undo 16 = .ok (.getfield 19, 3) := by decide +kernel
theorem dX2_undo_19 : decode cX2_undo 19 = .ok (.aload_n 0, 1) := by decide +kernel
theorem dX2_undo_20 : decode cX2_undo 20 = .ok (.getfield 12, 3) := by decide +kernel
theorem dX2_undo_23 : decode cX2_undo 23 = .ok (.invokevirtual 158, 3) := by decide +kernel
theorem dX2_undo_26 : decode cX2_undo 26 = .ok (.aload_n 0, 1) := by decide +kernel
theorem dX2_undo_27 : decode cX2_undo 27 = .ok (.getfield 19, 3) := by decide +kernel
theorem dX2_undo_30 : decode cX2_undo 30 = .ok (.getfield 155, 3) := by decide +kernel
theorem dX2_undo_33 : decode cX2_undo 33 = .ok (.ireturn, 1) := by decide +kernel
theorem dX2_errorCount_0 : decode cX2_errorCount 0 = .ok (.iload_n 1, 1) := by decide +kernel
theorem dX2_errorCount_1 : decode cX2_errorCount 1 = .ok (.tableswitch 42 0 2 #[27, 32, 37], 27) := by decide +kernel
theorem dX2_errorCount_28 : decode cX2_errorCount 28 = .ok (.aload_n 0, 1) := by decide +kernel
theorem dX2_errorCount_29 : decode cX2_errorCount 29 = .ok (.getfield 161, 3) := by decide +kernel
theorem dX2_errorCount_32 : decode cX2_errorCount 32 = .ok (.ireturn, 1) := by decide +kernel
theorem dX2_errorCount_33 : decode cX2_errorCount 33 = .ok (.aload_n 0, 1) := by decide +kernel
theorem dX2_errorCount_34 : decode cX2_errorCount 34 = .ok (.getfield 164, 3) := by decide +kernel
theorem dX2_errorCount_37 : decode cX2_errorCount 37 = .ok (.ireturn, 1) := by decide +kernel
theorem dX2_errorCount_38 : decode cX2_errorCount 38 = .ok (.aload_n 0, 1) := by decide +kernel
theorem dX2_errorCount_39 : decode cX2_errorCount 39 = .ok (.getfield 167, 3) := by decide +kernel
theorem dX2_errorCount_42 : decode cX2_errorCount 42 = .ok (.ireturn, 1) := by decide +kernel
theorem dX2_errorCount_43 : decode cX2_errorCount 43 = .ok (.aload_n 0, 1) := by decide +kernel
theorem dX2_errorCount_44 : decode cX2_errorCount 44 = .ok (.invokevirtual 27, 3) := by decide +kernel
theorem dX2_errorCount_47 : decode cX2_errorCount 47 = .ok (.ireturn, 1) := by decide +kernel
theorem dX2_digest_0 : decode cX2_digest 0 = .ok (.ldc2_w 170, 3) := by decide +kernel
theorem dX2_digest_3 : decode cX2_digest 3 = .ok (.lstore_n 1, 1) := by decide +kernel
theorem dX2_digest_4 : decode cX2_digest 4 = .ok (.lload_n 1, 1) := by decide +kernel
theorem dX2_digest_5 : decode cX2_digest 5 = .ok (.aload_n 0, 1) := by decide +kernel
theorem dX2_digest_6 : decode cX2_digest 6 = .ok (.getfield 161, 3) := by decide +kernel
theorem dX2_digest_9 : decode cX2_digest 9 = .ok (.invokestatic 172, 3) := by decide +kernel
theorem dX2_digest_12 : decode cX2_digest 12 = .ok (.lstore_n 1, 1) := by decide +kernel
theorem dX2_digest_13 : decode cX2_digest 13 = .ok (.lload_n 1, 1) := by decide +kernel
theorem dX2_digest_14 : decode cX2_digest 14 = .ok (.aload_n 0, 1) := by decide +kernel
theorem dX2_digest_15 : decode cX2_digest 15 = .ok (.getfield 164, 3) := by decide +kernel
theorem dX2_digest_18 : decode cX2_digest 18 = .ok (.invokestatic 172, 3) := by decide +kernel
theorem dX2_digest_21 : decode cX2_digest 21 = .ok (.lstore_n 1, 1) := by decide +kernel
theorem dX2_digest_22 : decode cX2_digest 22 = .ok (.lload_n 1, 1) := by decide +kernel
theorem dX2_digest_23 : decode cX2_digest 23 = .ok (.aload_n 0, 1) := by decide +kernel
theorem dX2_digest_24 : decode cX2_digest 24 = .ok (.getfield 167, 3) := by decide +kernel
theorem dX2_digest_27 : decode cX2_digest 27 = .ok (.invokestatic 172, 3) := by decide +kernel
theorem dX2_digest_30 : decode cX2_digest 30 = .ok (.lstore_n 1, 1) := by decide +kernel
theorem dX2_digest_31 : decode cX2_digest 31 = .ok (.lload_n 1, 1) := by decide +kernel
theorem dX2_digest_32 : decode cX2_digest 32 = .ok (.aload_n 0, 1) := by decide +kernel
theorem dX2_digest_33 : decode cX2_digest 33 = .ok (.getfield 19, 3) := by decide +kernel
theorem dX2_digest_36 : decode cX2_digest 36 = .ok (.getfield 155, 3) := by decide +kernel
theorem dX2_digest_39 : decode cX2_digest 39 = .ok (.invokestatic 172, 3) := by decide +kernel
theorem dX2_digest_42 : decode cX2_digest 42 = .ok (.lstore_n 1, 1) := by decide +kernel
theorem dX2_digest_43 : decode cX2_digest 43 = .ok (.aload_n 0, 1) := by decide +kernel
theorem dX2_digest_44 : decode cX2_digest 44 = .ok (.getfield 12, 3) := by decide +kernel
theorem dX2_digest_47 : decode cX2_digest 47 = .ok (.lload_n 1, 1) := by decide +kernel
theorem dX2_digest_48 : decode cX2_digest 48 = .ok (.invokevirtual 176, 3) := by decide +kernel
theorem dX2_digest_51 : decode cX2_digest 51 = .ok (.lstore_n 1, 1) := by decide +kernel
theorem dX2_digest_52 : decode cX2_digest 52 = .ok (.aload_n 0, 1) := by decide +kernel
theorem dX2_digest_53 : decode cX2_digest 53 = .ok (.getfield 12, 3) := by decide +kernel
theorem dX2_digest_56 : decode cX2_digest 56 = .ok (.lload_n 1, 1) := by decide +kernel
theorem dX2_digest_57 : decode cX2_digest 57 = .ok (.invokevirtual 180, 3) := by decide +kernel
theorem dX2_digest_60 : decode cX2_digest 60 = .ok (.lstore_n 1, 1) := by decide +kernel
theorem dX2_digest_61 : decode cX2_digest 61 = .ok (.iconst 0, 1) := by decide +kernel
theorem dX2_digest_62 : decode cX2_digest 62 = .ok (.istore_n 3, 1) := by decide +kernel
theorem dX2_digest_63 : decode cX2_digest 63 = .ok (.iload_n 3, 1) := by decide +kernel
theorem dX2_digest_64 : decode cX2_digest 64 = .ok (.bipush 6, 2) := by decide +kernel
theorem dX2_digest_66 : decode cX2_digest 66 = .ok (.if_icmp .ge 19, 3) := by decide +kernel
theorem dX2_digest_69 : decode cX2_digest 69 = .ok (.aload_n 0, 1) := by decide +kernel
theorem dX2_digest_70 : decode cX2_digest 70 = .ok (.getfield 12, 3) := by decide +kernel
theorem dX2_digest_73 : decode cX2_digest 73 = .ok (.lload_n 1, 1) := by decide +kernel
theorem dX2_digest_74 : decode cX2_digest 74 = .ok (.iload_n 3, 1) := by decide +kernel
theorem dX2_digest_75 : decode cX2_digest 75 = .ok (.invokevirtual 183, 3) := by decide +kernel
theorem dX2_digest_78 : decode cX2_digest 78 = .ok (.lstore_n 1, 1) := by decide +kernel
theorem dX2_digest_79 : decode cX2_digest 79 = .ok (.iinc 3 1, 3) := by decide +kernel
theorem dX2_digest_82 : decode cX2_digest 82 = .ok (.goto (-19), 3) := by decide +kernel
theorem dX2_digest_85 : decode cX2_digest 85 = .ok (.aload_n 0, 1) := by decide +kernel
theorem dX2_digest_86 : decode cX2_digest 86 = .ok (.getfield 12, 3) := by decide +kernel
theorem dX2_digest_89 : decode cX2_digest 89 = .ok (.lload_n 1, 1) := by decide +kernel
theorem dX2_digest_90 : decode cX2_digest 90 = .ok (.invokevirtual 186, 3) := by decide +kernel
theorem dX2_digest_93 : decode cX2_digest 93 = .ok (.lreturn, 1) := by decide +kernel
theorem dX2_invalid_0 : decode cX2_invalid 0 = .ok (.aload_n 0, 1) := by decide +kernel
theorem dX2_invalid_1 : decode cX2_invalid 1 = .ok (.dup, 1) := by decide +kernel
theorem dX2_invalid_2 : decode cX2_invalid 2 = .ok (.getfield 161, 3) := by decide +kernel
theorem dX2_invalid_5 : decode cX2_invalid 5 = .ok (.iconst 1, 1) := by decide +kernel
theorem dX2_invalid_6 : decode cX2_invalid 6 = .ok (.iadd, 1) := by decide +kernel
theorem dX2_invalid_7 : decode cX2_invalid 7 = .ok (.putfield 161, 3) := by decide +kernel
theorem dX2_invalid_10 : decode cX2_invalid 10 = .ok (.bipush (-2), 2) := by decide +kernel
theorem dX2_invalid_12 : decode cX2_invalid 12 = .ok (.ireturn, 1) := by decide +kernel
theorem dX2_rejected_0 : decode cX2_rejected 0 = .ok (.aload_n 0, 1) := by decide +kernel
theorem dX2_rejected_1 : decode cX2_rejected 1 = .ok (.dup, 1) := by decide +kernel
theorem dX2_rejected_2 : decode cX2_rejected 2 = .ok (.getfield 164, 3) := by decide +kernel
theorem dX2_rejected_5 : decode cX2_rejected 5 = .ok (.iconst 1, 1) := by decide +kernel
theorem dX2_rejected_6 : decode cX2_rejected 6 = .ok (.iadd, 1) := by decide +kernel
theorem dX2_rejected_7 : decode cX2_rejected 7 = .ok (.putfield 164, 3) := by decide +kernel
theorem dX2_rejected_10 : decode cX2_rejected 10 = .ok (.bipush (-3), 2) := by decide +kernel
theorem dX2_rejected_12 : decode cX2_rejected 12 = .ok (.ireturn, 1) := by decide +kernel
theorem dX2_full_0 : decode cX2_full 0 = .ok (.aload_n 0, 1) := by decide +kernel
theorem dX2_full_1 : decode cX2_full 1 = .ok (.dup, 1) := by decide +kernel
theorem dX2_full_2 : decode cX2_full 2 = .ok (.getfield 167, 3) := by decide +kernel
theorem dX2_full_5 : decode cX2_full 5 = .ok (.iconst 1, 1) := by decide +kernel
theorem dX2_full_6 : decode cX2_full 6 = .ok (.iadd, 1) := by decide +kernel
theorem dX2_full_7 : decode cX2_full 7 = .ok (.putfield 167, 3) := by decide +kernel
theorem dX2_full_10 : decode cX2_full 10 = .ok (.bipush (-4), 2) := by decide +kernel
theorem dX2_full_12 : decode cX2_full 12 = .ok (.ireturn, 1) := by decide +kernel
theorem dX2_isDestination_0 : decode cX2_isDestination 0 = .ok (.iload_n 0, 1) := by decide +kernel
theorem dX2_isDestination_1 : decode cX2_isDestination 1 = .ok (.ifCond .lt 13, 3) := by decide +kernel
theorem dX2_isDestination_4 : decode cX2_isDestination 4 = .ok (.iload_n 0, 1) := by decide +kernel
theorem dX2_isDestination_5 : decode cX2_isDestination 5 = .ok (.bipush 6, 2) := by decide +kernel
theorem dX2_isDestination_7 : decode cX2_isDestination 7 = .ok (.if_icmp .ge 7, 3) := by decide +kernel
theorem dX2_isDestination_10 : decode cX2_isDestination 10 = .ok (.iconst 1, 1) := by decide +kernel
theorem dX2_isDestination_11 : decode cX2_isDestination 11 = .ok (.goto 4, 3) := by decide +kernel
theorem dX2_isDestination_14 : decode cX2_isDestination 14 = .ok (.iconst 0, 1) := by decide +kernel
theorem dX2_isDestination_15 : decode cX2_isDestination 15 = .ok (.ireturn, 1) := by decide +kernel
theorem dX2_isStream_0 : decode cX2_isStream 0 = .ok (.iload_n 0, 1) := by decide +kernel
theorem dX2_isStream_1 : decode cX2_isStream 1 = .ok (.invokestatic 102, 3) := by decide +kernel
theorem dX2_isStream_4 : decode cX2_isStream 4 = .ok (.ifCond .eq 17, 3) := by decide +kernel
theorem dX2_isStream_7 : decode cX2_isStream 7 = .ok (.iload_n 1, 1) := by decide +kernel
theorem dX2_isStream_8 : decode cX2_isStream 8 = .ok (.ifCond .lt 13, 3) := by decide +kernel
theorem dX2_isStream_11 : decode cX2_isStream 11 = .ok (.iload_n 1, 1) := by decide +kernel
theorem dX2_isStream_12 : decode cX2_isStream 12 = .ok (.bipush 16, 2) := by decide +kernel
theorem dX2_isStream_14 : decode cX2_isStream 14 = .ok (.if_icmp .ge 7, 3) := by decide +kernel
theorem dX2_isStream_17 : decode cX2_isStream 17 = .ok (.iconst 1, 1) := by decide +kernel
theorem dX2_isStream_18 : decode cX2_isStream 18 = .ok (.goto 4, 3) := by decide +kernel
theorem dX2_isStream_21 : decode cX2_isStream 21 = .ok (.iconst 0, 1) := by decide +kernel
theorem dX2_isStream_22 : decode cX2_isStream 22 = .ok (.ireturn, 1) := by decide +kernel
theorem dX2_linkPlace_0 : decode cX2_linkPlace 0 = .ok (.iload_n 0, 1) := by decide +kernel
theorem dX2_linkPlace_1 : decode cX2_linkPlace 1 = .ok (.iconst 4, 1) := by decide +kernel
theorem dX2_linkPlace_2 : decode cX2_linkPlace 2 = .ok (.imul, 1) := by decide +kernel
theorem dX2_linkPlace_3 : decode cX2_linkPlace 3 = .ok (.iload_n 1, 1) := by decide +kernel
theorem dX2_linkPlace_4 : decode cX2_linkPlace 4 = .ok (.iadd, 1) := by decide +kernel
theorem dX2_linkPlace_5 : decode cX2_linkPlace 5 = .ok (.ireturn, 1) := by decide +kernel
theorem dX2_routePlace_0 : decode cX2_routePlace 0 = .ok (.iload_n 0, 1) := by decide +kernel
theorem dX2_routePlace_1 : decode cX2_routePlace 1 = .ok (.iconst 4, 1) := by decide +kernel
theorem dX2_routePlace_2 : decode cX2_routePlace 2 = .ok (.imul, 1) := by decide +kernel
theorem dX2_routePlace_3 : decode cX2_routePlace 3 = .ok (.iload_n 1, 1) := by decide +kernel
theorem dX2_routePlace_4 : decode cX2_routePlace 4 = .ok (.iadd, 1) := by decide +kernel
theorem dX2_routePlace_5 : decode cX2_routePlace 5 = .ok (.ireturn, 1) := by decide +kernel
theorem dX2_streamPlace_0 : decode cX2_streamPlace 0 = .ok (.iload_n 0, 1) := by decide +kernel
theorem dX2_streamPlace_1 : decode cX2_streamPlace 1 = .ok (.bipush 16, 2) := by decide +kernel
theorem dX2_streamPlace_3 : decode cX2_streamPlace 3 = .ok (.imul, 1) := by decide +kernel
theorem dX2_streamPlace_4 : decode cX2_streamPlace 4 = .ok (.iload_n 1, 1) := by decide +kernel
theorem dX2_streamPlace_5 : decode cX2_streamPlace 5 = .ok (.iadd, 1) := by decide +kernel
theorem dX2_streamPlace_6 : decode cX2_streamPlace 6 = .ok (.ireturn, 1) := by decide +kernel
theorem dX2_messageOf_0 : decode cX2_messageOf 0 = .ok (.iload_n 0, 1) := by decide +kernel
theorem dX2_messageOf_1 : decode cX2_messageOf 1 = .ok (.bipush 96, 2) := by decide +kernel
theorem dX2_messageOf_3 : decode cX2_messageOf 3 = .ok (.imul, 1) := by decide +kernel
theorem dX2_messageOf_4 : decode cX2_messageOf 4 = .ok (.iload_n 1, 1) := by decide +kernel
theorem dX2_messageOf_5 : decode cX2_messageOf 5 = .ok (.iadd, 1) := by decide +kernel
theorem dX2_messageOf_6 : decode cX2_messageOf 6 = .ok (.ireturn, 1) := by decide +kernel
theorem dX2_numberOf_0 : decode cX2_numberOf 0 = .ok (.iload_n 0, 1) := by decide +kernel
theorem dX2_numberOf_1 : decode cX2_numberOf 1 = .ok (.bipush 96, 2) := by decide +kernel
theorem dX2_numberOf_3 : decode cX2_numberOf 3 = .ok (.invokestatic 189, 3) := by decide +kernel
theorem dX2_numberOf_6 : decode cX2_numberOf 6 = .ok (.ireturn, 1) := by decide +kernel
theorem dX2_streamOf_0 : decode cX2_streamOf 0 = .ok (.iload_n 0, 1) := by decide +kernel
theorem dX2_streamOf_1 : decode cX2_streamOf 1 = .ok (.bipush 96, 2) := by decide +kernel
theorem dX2_streamOf_3 : decode cX2_streamOf 3 = .ok (.invokestatic 194, 3) := by decide +kernel
theorem dX2_streamOf_6 : decode cX2_streamOf 6 = .ok (.ireturn, 1) := by decide +kernel
theorem dX2_setBit_0 : decode cX2_setBit 0 = .ok (.iload_n 1, 1) := by decide +kernel
theorem dX2_setBit_1 : decode cX2_setBit 1 = .ok (.istore_n 2, 1) := by decide +kernel
theorem dX2_setBit_2 : decode cX2_setBit 2 = .ok (.iconst 0, 1) := by decide +kernel
theorem dX2_setBit_3 : decode cX2_setBit 3 = .ok (.istore_n 3, 1) := by decide +kernel
theorem dX2_setBit_4 : decode cX2_setBit 4 = .ok (.iload_n 3, 1) := by decide +kernel
theorem dX2_setBit_5 : decode cX2_setBit 5 = .ok (.iconst 3, 1) := by decide +kernel
theorem dX2_setBit_6 : decode cX2_setBit 6 = .ok (.if_icmp .ge 27, 3) := by decide +kernel
theorem dX2_setBit_9 : decode cX2_setBit 9 = .ok (.iload_n 0, 1) := by decide +kernel
theorem dX2_setBit_10 : decode cX2_setBit 10 = .ok (.iload_n 3, 1) := by decide +kernel
theorem dX2_setBit_11 : decode cX2_setBit 11 = .ok (.ishr, 1) := by decide +kernel
theorem dX2_setBit_12 : decode cX2_setBit 12 = .ok (.iconst 1, 1) := by decide +kernel
theorem dX2_setBit_13 : decode cX2_setBit 13 = .ok (.iand, 1) := by decide +kernel
theorem dX2_setBit_14 : decode cX2_setBit 14 = .ok (.iconst 1, 1) := by decide +kernel
theorem dX2_setBit_15 : decode cX2_setBit 15 = .ok (.if_icmp .ne 12, 3) := by decide +kernel
theorem dX2_setBit_18 : decode cX2_setBit 18 = .ok (.iload_n 2, 1) := by decide +kernel
theorem dX2_setBit_19 : decode cX2_setBit 19 = .ok (.ifCond .ne 5, 3) := by decide +kernel
theorem dX2_setBit_22 : decode cX2_setBit 22 = .ok (.iload_n 3, 1) := by decide +kernel
theorem dX2_setBit_23 : decode cX2_setBit 23 = .ok (.ireturn, 1) := by decide +kernel
theorem dX2_setBit_24 : decode cX2_setBit 24 = .ok (.iinc 2 (-1), 3) := by decide +kernel
theorem dX2_setBit_27 : decode cX2_setBit 27 = .ok (.iinc 3 1, 3) := by decide +kernel
theorem dX2_setBit_30 : decode cX2_setBit 30 = .ok (.goto (-26), 3) := by decide +kernel
theorem dX2_setBit_33 : decode cX2_setBit 33 = .ok (.iconst 3, 1) := by decide +kernel
theorem dX2_setBit_34 : decode cX2_setBit 34 = .ok (.ireturn, 1) := by decide +kernel
theorem dX2_mix_0 : decode cX2_mix 0 = .ok (.ldc2_w 197, 3) := by decide +kernel
theorem dX2_mix_3 : decode cX2_mix 3 = .ok (.lload_n 0, 1) := by decide +kernel
theorem dX2_mix_4 : decode cX2_mix 4 = .ok (.lmul, 1) := by decide +kernel
theorem dX2_mix_5 : decode cX2_mix 5 = .ok (.iload_n 2, 1) := by decide +kernel
theorem dX2_mix_6 : decode cX2_mix 6 = .ok (.i2l, 1) := by decide +kernel
theorem dX2_mix_7 : decode cX2_mix 7 = .ok (.ladd, 1) := by decide +kernel
theorem dX2_mix_8 : decode cX2_mix 8 = .ok (.lreturn, 1) := by decide +kernel
theorem dX3_init_0 : decode cX3_init 0 = .ok (.aload_n 0, 1) := by decide +kernel
theorem dX3_init_1 : decode cX3_init 1 = .ok (.invokespecial 1, 3) := by decide +kernel
theorem dX3_init_4 : decode cX3_init 4 = .ok (.aload_n 0, 1) := by decide +kernel
theorem dX3_init_5 : decode cX3_init 5 = .ok (.sipush 470, 3) := by decide +kernel
theorem dX3_init_8 : decode cX3_init 8 = .ok (.newarray .int, 2) := by decide +kernel
theorem dX3_init_10 : decode cX3_init 10 = .ok (.putfield 7, 3) := by decide +kernel
theorem dX3_init_13 : decode cX3_init 13 = .ok (.aload_n 0, 1) := by decide +kernel
theorem dX3_init_14 : decode cX3_init 14 = .ok (.sipush 1880, 3) := by decide +kernel
theorem dX3_init_17 : decode cX3_init 17 = .ok (.newarray .int, 2) := by decide +kernel
theorem dX3_init_19 : decode cX3_init 19 = .ok (.putfield 13, 3) := by decide +kernel
theorem dX3_init_22 : decode cX3_init 22 = .ok (.aload_n 0, 1) := by decide +kernel
theorem dX3_init_23 : decode cX3_init 23 = .ok (.iconst 3, 1) := by decide +kernel
theorem dX3_init_24 : decode cX3_init 24 = .ok (.newarray .int, 2) := by decide +kernel
theorem dX3_init_26 : decode cX3_init 26 = .ok (.putfield 16, 3) := by decide +kernel
theorem dX3_init_29 : decode cX3_init 29 = .ok (.aload_n 0, 1) := by decide +kernel
theorem dX3_init_30 : decode cX3_init 30 = .ok (.bipush 96, 2) := by decide +kernel
theorem dX3_init_32 : decode cX3_init 32 = .ok (.newarray .int, 2) := by decide +kernel
theorem dX3_init_34 : decode cX3_init 34 = .ok (.putfield 19, 3) := by decide +kernel
theorem dX3_init_37 : decode cX3_init 37 = .ok (.aload_n 0, 1) := by decide +kernel
theorem dX3_init_38 : decode cX3_init 38 = .ok (.bipush 24, 2) := by decide +kernel
theorem dX3_init_40 : decode cX3_init 40 = .ok (.newarray .int, 2) := by decide +kernel
theorem dX3_init_42 : decode cX3_init 42 = .ok (.putfield 22, 3) := by decide +kernel
theorem dX3_init_45 : decode cX3_init 45 = .ok (.aload_n 0, 1) := by decide +kernel
theorem dX3_init_46 : decode cX3_init 46 = .ok (.getfield 7, 3) := by decide +kernel
theorem dX3_init_49 : decode cX3_init 49 = .ok (.sipush 463, 3) := by decide +kernel
theorem dX3_init_52 : decode cX3_init 52 = .ok (.iconst 3, 1) := by decide +kernel
theorem dX3_init_53 : decode cX3_init 53 = .ok (.iastore, 1) := by decide +kernel
theorem dX3_init_54 : decode cX3_init 54 = .ok (.iconst 0, 1) := by decide +kernel
theorem dX3_init_55 : decode cX3_init 55 = .ok (.istore_n 1, 1) := by decide +kernel
theorem dX3_init_56 : decode cX3_init 56 = .ok (.iload_n 1, 1) := by decide +kernel
theorem dX3_init_57 : decode cX3_init 57 = .ok (.bipush 24, 2) := by decide +kernel
theorem dX3_init_59 : decode cX3_init 59 = .ok (.if_icmp .ge 31, 3) := by decide +kernel
theorem dX3_init_62 : decode cX3_init 62 = .ok (.aload_n 0, 1) := by decide +kernel
theorem dX3_init_63 : decode cX3_init 63 = .ok (.getfield 7, 3) := by decide +kernel
theorem dX3_init_66 : decode cX3_init 66 = .ok (.sipush 197, 3) := by decide +kernel
theorem dX3_init_69 : decode cX3_init 69 = .ok (.iload_n 1, 1) := by decide +kernel
theorem dX3_init_70 : decode cX3_init 70 = .ok (.iadd, 1) := by decide +kernel
theorem dX3_init_71 : decode cX3_init 71 = .ok (.iconst (-1), 1) := by decide +kernel
theorem dX3_init_72 : decode cX3_init 72 = .ok (.iastore, 1) := by decide +kernel
theorem dX3_init_73 : decode cX3_init 73 = .ok (.aload_n 0, 1) := by decide +kernel
theorem dX3_init_74 : decode cX3_init 74 = .ok (.getfield 7, 3) := by decide +kernel
theorem dX3_init_77 : decode cX3_init 77 = .ok (.sipush 221, 3) := by decide +kernel
theorem dX3_init_80 : decode cX3_init 80 = .ok (.iload_n 1, 1) := by decide +kernel
theorem dX3_init_81 : decode cX3_init 81 = .ok (.iadd, 1) := by decide +kernel
theorem dX3_init_82 : decode cX3_init 82 = .ok (.iconst (-1), 1) := by decide +kernel
theorem dX3_init_83 : decode cX3_init 83 = .ok (.iastore, 1) := by decide +kernel
theorem dX3_init_84 : decode cX3_init 84 = .ok (.iinc 1 1, 3) := by decide +kernel
theorem dX3_init_87 : decode cX3_init 87 = .ok (.goto (-31), 3) := by decide +kernel
theorem dX3_init_90 : decode cX3_init 90 = .ok (.iconst 0, 1) := by decide +kernel
theorem dX3_init_91 : decode cX3_init 91 = .ok (.istore_n 1, 1) := by decide +kernel
theorem dX3_init_92 : decode cX3_init 92 = .ok (.iload_n 1, 1) := by decide +kernel
theorem dX3_init_93 : decode cX3_init 93 = .ok (.bipush 96, 2) := by decide +kernel
theorem dX3_init_95 : decode cX3_init 95 = .ok (.if_icmp .ge 20, 3) := by decide +kernel
theorem dX3_init_98 : decode cX3_init 98 = .ok (.aload_n 0, 1) := by decide +kernel
theorem dX3_init_99 : decode cX3_init 99 = .ok (.getfield 7, 3) := by decide +kernel
theorem dX3_init_102 : decode cX3_init 102 = .ok (.sipush 366, 3) := by decide +kernel
theorem dX3_init_105 : decode cX3_init 105 = .ok (.iload_n 1, 1) := by decide +kernel
theorem dX3_init_106 : decode cX3_init 106 = .ok (.iadd, 1) := by decide +kernel
theorem dX3_init_107 : decode cX3_init 107 = .ok (.iconst (-1), 1) := by decide +kernel
theorem dX3_init_108 : decode cX3_init 108 = .ok (.iastore, 1) := by decide +kernel
theorem dX3_init_109 : decode cX3_init 109 = .ok (.iinc 1 1, 3) := by decide +kernel
theorem dX3_init_112 : decode cX3_init 112 = .ok (.goto (-20), 3) := by decide +kernel
theorem dX3_init_115 : decode cX3_init 115 = .ok (.return_, 1) := by decide +kernel
theorem dX3_within_0 : decode cX3_within 0 = .ok (.iload_n 0, 1) := by decide +kernel
theorem dX3_within_1 : decode cX3_within 1 = .ok (.iload_n 1, 1) := by decide +kernel
theorem dX3_within_2 : decode cX3_within 2 = .ok (.if_icmp .lt 12, 3) := by decide +kernel
theorem dX3_within_5 : decode cX3_within 5 = .ok (.iload_n 0, 1) := by decide +kernel
theorem dX3_within_6 : decode cX3_within 6 = .ok (.iload_n 2, 1) := by decide +kernel
theorem dX3_within_7 : decode cX3_within 7 = .ok (.if_icmp .gt 7, 3) := by decide +kernel
theorem dX3_within_10 : decode cX3_within 10 = .ok (.iconst 1, 1) := by decide +kernel
theorem dX3_within_11 : decode cX3_within 11 = .ok (.goto 4, 3) := by decide +kernel
theorem dX3_within_14 : decode cX3_within 14 = .ok (.iconst 0, 1) := by decide +kernel
theorem dX3_within_15 : decode cX3_within 15 = .ok (.ireturn, 1) := by decide +kernel
theorem dX3_fails_0 : decode cX3_fails 0 = .ok (.aload_n 0, 1) := by decide +kernel
theorem dX3_fails_1 : decode cX3_fails 1 = .ok (.getfield 16, 3) := by decide +kernel
theorem dX3_fails_4 : decode cX3_fails 4 = .ok (.bipush (-2), 2) := by decide +kernel
theorem dX3_fails_6 : decode cX3_fails 6 = .ok (.iload_n 1, 1) := by decide +kernel
theorem dX3_fails_7 : decode cX3_fails 7 = .ok (.isub, 1) := by decide +kernel
theorem dX3_fails_8 : decode cX3_fails 8 = .ok (.dup2, 1) := by decide +kernel
theorem dX3_fails_9 : decode cX3_fails 9 = .ok (.iaload, 1) := by decide +kernel
theorem dX3_fails_10 : decode cX3_fails 10 = .ok (.iconst 1, 1) := by decide +kernel
theorem dX3_fails_11 : decode cX3_fails 11 = .ok (.iadd, 1) := by decide +kernel
theorem dX3_fails_12 : decode cX3_fails 12 = .ok (.iastore, 1) := by decide +kernel
theorem dX3_fails_13 : decode cX3_fails 13 = .ok (.iload_n 1, 1) := by decide +kernel
theorem dX3_fails_14 : decode cX3_fails 14 = .ok (.ireturn, 1) := by decide +kernel
theorem dX3_saves_0 : decode cX3_saves 0 = .ok (.aload_n 0, 1) := by decide +kernel
theorem dX3_saves_1 : decode cX3_saves 1 = .ok (.getfield 25, 3) := by decide +kernel
theorem dX3_saves_4 : decode cX3_saves 4 = .ok (.iconst 4, 1) := by decide +kernel
theorem dX3_saves_5 : decode cX3_saves 5 = .ok (.if_icmp .ne 44, 3) := by decide +kernel
theorem dX3_saves_8 : decode cX3_saves 8 = .ok (.iconst 0, 1) := by decide +kernel
theorem dX3_saves_9 : decode cX3_saves 9 = .ok (.istore_n 1, 1) := by decide +kernel
theorem dX3_saves_10 : decode cX3_saves 10 = .ok (.iload_n 1, 1) := by decide +kernel
theorem dX3_saves_11 : decode cX3_saves 11 = .ok (.sipush 1410, 3) := by decide +kernel
theorem dX3_saves_14 : decode cX3_saves 14 = .ok (.if_icmp .ge 25, 3) := by decide +kernel
theorem dX3_saves_17 : decode cX3_saves 17 = .ok (.aload_n 0, 1) := by decide +kernel
theorem dX3_saves_18 : decode cX3_saves 18 = .ok (.getfield 13, 3) := by decide +kernel
theorem dX3_saves_21 : decode cX3_saves 21 = .ok (.iload_n 1, 1) := by decide +kernel
theorem dX3_saves_22 : decode cX3_saves 22 = .ok (.aload_n 0, 1) := by decide +kernel
theorem dX3_saves_23 : decode cX3_saves 23 = .ok (.getfield 13, 3) := by decide +kernel
theorem dX3_saves_26 : decode cX3_saves 26 = .ok (.iload_n 1, 1) := by decide +kernel
theorem dX3_saves_27 : decode cX3_saves 27 = .ok (.sipush 470, 3) := by decide +kernel
theorem dX3_saves_30 : decode cX3_saves 30 = .ok (.iadd, 1) := by decide +kernel
theorem dX3_saves_31 : decode cX3_saves 31 = .ok (.iaload, 1) := by decide +kernel
theorem dX3_saves_32 : decode cX3_saves 32 = .ok (.iastore, 1) := by decide +kernel
theorem dX3_saves_33 : decode cX3_saves 33 = .ok (.iinc 1 1, 3) := by decide +kernel
theorem dX3_saves_36 : decode cX3_saves 36 = .ok (.goto (-26), 3) := by decide +kernel
theorem dX3_saves_39 : decode cX3_saves 39 = .ok (.aload_n 0, 1) := by decide +kernel
theorem dX3_saves_40 : decode cX3_saves 40 = .ok (.dup, 1) := by decide +kernel
theorem dX3_saves_41 : decode cX3_saves 41 = .ok (.getfield 25, 3) := by decide +kernel
theorem dX3_saves_44 : decode cX3_saves 44 = .ok (.iconst 1, 1) := by decide +kernel
theorem dX3_saves_45 : decode cX3_saves 45 = .ok (.isub, 1) := by decide +kernel
theorem dX3_saves_46 : decode cX3_saves 46 = .ok (.putfield 25, 3) := by decide +kernel
theorem dX3_saves_49 : decode cX3_saves 49 = .ok (.iconst 0, 1) := by decide +kernel
theorem dX3_saves_50 : decode cX3_saves 50 = .ok (.istore_n 1, 1) := by decide +kernel
theorem dX3_saves_51 : decode cX3_saves 51 = .ok (.iload_n 1, 1) := by decide +kernel
theorem dX3_saves_52 : decode cX3_saves 52 = .ok (.sipush 470, 3) := by decide +kernel
theorem dX3_saves_55 : decode cX3_saves 55 = .ok (.if_icmp .ge 30, 3) := by decide +kernel
theorem dX3_saves_58 : decode cX3_saves 58 = .ok (.aload_n 0, 1) := by decide +kernel
theorem dX3_saves_59 : decode cX3_saves 59 = .ok (.getfield 13, 3) := by decide +kernel
theorem dX3_saves_62 : decode cX3_saves 62 = .ok (.sipush 470, 3) := by decide +kernel
theorem dX3_saves_65 : decode cX3_saves 65 = .ok (.aload_n 0, 1) := by decide +kernel
theorem dX3_saves_66 : decode cX3_saves 66 = .ok (.getfield 25, 3) := by decide +kernel
theorem dX3_saves_69 : decode cX3_saves 69 = .ok (.imul, 1) := by decide +kernel
theorem dX3_saves_70 : decode cX3_saves 70 = .ok (.iload_n 1, 1) := by decide +kernel
theorem dX3_saves_71 : decode cX3_saves 71 = .ok (.iadd, 1) := by decide +kernel
theorem dX3_saves_72 : decode cX3_saves 72 = .ok (.aload_n 0, 1) := by decide +kernel
theorem dX3_saves_73 : decode cX3_saves 73 = .ok (.getfield 7, 3) := by decide +kernel
theorem dX3_saves_76 : decode cX3_saves 76 = .ok (.iload_n 1, 1) := by decide +kernel
theorem dX3_saves_77 : decode cX3_saves 77 = .ok (.iaload, 1) := by decide +kernel
theorem dX3_saves_78 : decode cX3_saves 78 = .ok (.iastore, 1) := by decide +kernel
theorem dX3_saves_79 : decode cX3_saves 79 = .ok (.iinc 1 1, 3) := by decide +kernel
theorem dX3_saves_82 : decode cX3_saves 82 = .ok (.goto (-31), 3) := by decide +kernel
theorem dX3_saves_85 : decode cX3_saves 85 = .ok (.aload_n 0, 1) := by decide +kernel
theorem dX3_saves_86 : decode cX3_saves 86 = .ok (.dup, 1) := by decide +kernel
theorem dX3_saves_87 : decode cX3_saves 87 = .ok (.getfield 25, 3) := by decide +kernel
theorem dX3_saves_90 : decode cX3_saves 90 = .ok (.iconst 1, 1) := by decide +kernel
theorem dX3_saves_91 : decode cX3_saves 91 = .ok (.iadd, 1) := by decide +kernel
theorem dX3_saves_92 : decode cX3_saves 92 = .ok (.putfield 25, 3) := by decide +kernel
theorem dX3_saves_95 : decode cX3_saves 95 = .ok (.return_, 1) := by decide +kernel
theorem dX3_undo_0 : decode cX3_undo 0 = .ok (.aload_n 0, 1) := by decide +kernel
theorem dX3_undo_1 : decode cX3_undo 1 = .ok (.getfield 25, 3) := by decide +kernel
theorem dX3_undo_4 : decode cX3_undo 4 = .ok (.ifCond .ne 10, 3) := by decide +kernel
theorem dX3_undo_7 : decode cX3_undo 7 = .ok (.aload_n 0, 1) := by decide +kernel
theorem dX3_undo_8 : decode cX3_undo 8 = .ok (.bipush (-3), 2) := by decide +kernel
theorem dX3_undo_10 : decode cX3_undo 10 = .ok (.invokevirtual 29, 3) := by decide +kernel
theorem dX3_undo_13 : decode cX3_undo 13 = .ok (.ireturn, 1) := by decide +kernel
theorem dX3_undo_14 : decode cX3_undo 14 = .ok (.aload_n 0, 1) := by decide +kernel
theorem dX3_undo_15 : decode cX3_undo 15 = .ok (.dup, 1) := by decide +kernel
theorem dX3_undo_16 : decode cX3_undo 16 = .ok (.getfield 25, 3) := by decide +kernel
theorem dX3_undo_19 : decode cX3_undo 19 = .ok (.iconst 1, 1) := by decide +kernel
theorem dX3_undo_20 : decode cX3_undo 20 = .ok (.isub, 1) := by decide +kernel
theorem dX3_undo_21 : decode cX3_undo 21 = .ok (.putfield 25, 3) := by decide +kernel
theorem dX3_undo_24 : decode cX3_undo 24 = .ok (.iconst 0, 1) := by decide +kernel
theorem dX3_undo_25 : decode cX3_undo 25 = .ok (.istore_n 1, 1) := by decide +kernel
theorem dX3_undo_26 : decode cX3_undo 26 = .ok (.iload_n 1, 1) := by decide +kernel
theorem dX3_undo_27 : decode cX3_undo 27 = .ok (.sipush 470, 3) := by decide +kernel
theorem dX3_undo_30 : decode cX3_undo 30 = .ok (.if_icmp .ge 30, 3) := by decide +kernel
theorem dX3_undo_33 : decode cX3_undo 33 = .ok (.aload_n 0, 1) := by decide +kernel
theorem dX3_undo_34 : decode cX3_undo 34 = .ok (.getfield 7, 3) := by decide +kernel
theorem dX3_undo_37 : decode cX3_undo 37 = .ok (.iload_n 1, 1) := by decide +kernel
theorem dX3_undo_38 : decode cX3_undo 38 = .ok (.aload_n 0, 1) := by decide +kernel
theorem dX3_undo_39 : decode cX3_undo 39 = .ok (.getfield 13, 3) := by decide +kernel
theorem dX3_undo_42 : decode cX3_undo 42 = .ok (.sipush 470, 3) := by decide +kernel
theorem dX3_undo_45 : decode cX3_undo 45 = .ok (.aload_n 0, 1) := by decide +kernel
theorem dX3_undo_46 : decode cX3_undo 46 = .ok (.getfield 25, 3) := by decide +kernel
theorem dX3_undo_49 : decode cX3_undo 49 = .ok (.imul, 1) := by decide +kernel
theorem dX3_undo_50 : decode cX3_undo 50 = .ok (.iload_n 1, 1) := by decide +kernel
theorem dX3_undo_51 : decode cX3_undo 51 = .ok (.iadd, 1) := by decide +kernel
theorem dX3_undo_52 : decode cX3_undo 52 = .ok (.iaload, 1) := by decide +kernel
theorem dX3_undo_53 : decode cX3_undo 53 = .ok (.iastore, 1) := by decide +kernel
theorem dX3_undo_54 : decode cX3_undo 54 = .ok (.iinc 1 1, 3) := by decide +kernel
theorem dX3_undo_57 : decode cX3_undo 57 = .ok (.goto (-31), 3) := by decide +kernel
theorem dX3_undo_60 : decode cX3_undo 60 = .ok (.aload_n 0, 1) := by decide +kernel
theorem dX3_undo_61 : decode cX3_undo 61 = .ok (.getfield 25, 3) := by decide +kernel
theorem dX3_undo_64 : decode cX3_undo 64 = .ok (.ireturn, 1) := by decide +kernel
theorem dX3_isSet_0 : decode cX3_isSet 0 = .ok (.iload_n 1, 1) := by decide +kernel
theorem dX3_isSet_1 : decode cX3_isSet 1 = .ok (.iconst 0, 1) := by decide +kernel
theorem dX3_isSet_2 : decode cX3_isSet 2 = .ok (.aload_n 0, 1) := by decide +kernel
theorem dX3_isSet_3 : decode cX3_isSet 3 = .ok (.getfield 7, 3) := by decide +kernel
theorem dX3_isSet_6 : decode cX3_isSet 6 = .ok (.iconst 0, 1) := by decide +kernel
theorem dX3_isSet_7 : decode cX3_isSet 7 = .ok (.iaload, 1) := by decide +kernel
theorem dX3_isSet_8 : decode cX3_isSet 8 = .ok (.iconst 1, 1) := by decide +kernel
theorem dX3_isSet_9 : decode cX3_isSet 9 = .ok (.isub, 1) := by decide +kernel
theorem dX3_isSet_10 : decode cX3_isSet 10 = .ok (.invokestatic 33, 3) := by decide +kernel
theorem dX3_isSet_13 : decode cX3_isSet 13 = .ok (.ireturn, 1) := by decide +kernel
theorem dX3_isLink_0 : decode cX3_isLink 0 = .ok (.aload_n 0, 1) := by decide +kernel
theorem dX3_isLink_1 : decode cX3_isLink 1 = .ok (.iload_n 1, 1) := by decide +kernel
theorem dX3_isLink_2 : decode cX3_isLink 2 = .ok (.invokevirtual 37, 3) := by decide +kernel
theorem dX3_isLink_5 : decode cX3_isLink 5 = .ok (.ifCond .eq 25, 3) := by decide +kernel
theorem dX3_isLink_8 : decode cX3_isLink 8 = .ok (.iload_n 2, 1) := by decide +kernel
theorem dX3_isLink_9 : decode cX3_isLink 9 = .ok (.iconst 0, 1) := by decide +kernel
theorem dX3_isLink_10 : decode cX3_isLink 10 = .ok (.aload_n 0, 1) := by decide +kernel
theorem dX3_isLink_11 : decode cX3_isLink 11 = .ok (.getfield 7, 3) := by decide +kernel
theorem dX3_isLink_14 : decode cX3_isLink 14 = .ok (.iconst 1, 1) := by decide +kernel
theorem dX3_isLink_15 : decode cX3_isLink 15 = .ok (.iload_n 1, 1) := by decide +kernel
theorem dX3_isLink_16 : decode cX3_isLink 16 = .ok (.iadd, 1) := by decide +kernel
theorem dX3_isLink_17 : decode cX3_isLink 17 = .ok (.iaload, 1) := by decide +kernel
theorem dX3_isLink_18 : decode cX3_isLink 18 = .ok (.iconst 1, 1) := by decide +kernel
theorem dX3_isLink_19 : decode cX3_isLink 19 = .ok (.isub, 1) := by decide +kernel
theorem dX3_isLink_20 : decode cX3_isLink 20 = .ok (.invokestatic 33, 3) := by decide +kernel
theorem dX3_isLink_23 : decode cX3_isLink 23 = .ok (.ifCond .eq 7, 3) := by decide +kernel
theorem dX3_isLink_26 : decode cX3_isLink 26 = .ok (.iconst 1, 1) := by decide +kernel
theorem dX3_isLink_27 : decode cX3_isLink 27 = .ok (.goto 4, 3) := by decide +kernel
theorem dX3_isLink_30 : decode cX3_isLink 30 = .ok (.iconst 0, 1) := by decide +kernel
theorem dX3_isLink_31 : decode cX3_isLink 31 = .ok (.ireturn, 1) := by decide +kernel
theorem dX3_activeOf_0 : decode cX3_activeOf 0 = .ok (.iconst 0, 1) := by decide +kernel
theorem dX3_activeOf_1 : decode cX3_activeOf 1 = .ok (.istore_n 2, 1) := by decide +kernel
theorem dX3_activeOf_2 : decode cX3_activeOf 2 = .ok (.iconst 0, 1) := by decide +kernel
theorem dX3_activeOf_3 : decode cX3_activeOf 3 = .ok (.istore_n 3, 1) := by decide +kernel
theorem dX3_activeOf_4 : decode cX3_activeOf 4 = .ok (.iload_n 3, 1) := by decide +kernel
theorem dX3_activeOf_5 : decode cX3_activeOf 5 = .ok (.aload_n 0, 1) := by decide +kernel
theorem dX3_activeOf_6 : decode cX3_activeOf 6 = .ok (.getfield 7, 3) := by decide +kernel
theorem dX3_activeOf_9 : decode cX3_activeOf 9 = .ok (.iconst 1, 1) := by decide +kernel
theorem dX3_activeOf_10 : decode cX3_activeOf 10 = .ok (.iload_n 1, 1) := by decide +kernel
theorem dX3_activeOf_11 : decode cX3_activeOf 11 = .ok (.iadd, 1) := by decide +kernel
theorem dX3_activeOf_12 : decode cX3_activeOf 12 = .ok (.iaload, 1) := by decide +kernel
theorem dX3_activeOf_13 : decode cX3_activeOf 13 = .ok (.if_icmp .ge 24, 3) := by decide +kernel
theorem dX3_activeOf_16 : decode cX3_activeOf 16 = .ok (.iload_n 2, 1) := by decide +kernel
theorem dX3_activeOf_17 : decode cX3_activeOf 17 = .ok (.aload_n 0, 1) := by decide +kernel
theorem dX3_activeOf_18 : decode cX3_activeOf 18 = .ok (.getfield 7, 3) := by decide +kernel
theorem dX3_activeOf_21 : decode cX3_activeOf 21 = .ok (.iconst 5, 1) := by decide +kernel
theorem dX3_activeOf_22 : decode cX3_activeOf 22 = .ok (.iconst 4, 1) := by decide +kernel
theorem dX3_activeOf_23 : decode cX3_activeOf 23 = .ok (.iload_n 1, 1) := by decide +kernel
theorem dX3_activeOf_24 : decode cX3_activeOf 24 = .ok (.imul, 1) := by decide +kernel
theorem dX3_activeOf_25 : decode cX3_activeOf 25 = .ok (.iadd, 1) := by decide +kernel
theorem dX3_activeOf_26 : decode cX3_activeOf 26 = .ok (.iload_n 3, 1) := by decide +kernel
theorem dX3_activeOf_27 : decode cX3_activeOf 27 = .ok (.iadd, 1) := by decide +kernel
theorem dX3_activeOf_28 : decode cX3_activeOf 28 = .ok (.iaload, 1) := by decide +kernel
theorem dX3_activeOf_29 : decode cX3_activeOf 29 = .ok (.iadd, 1) := by decide +kernel
theorem dX3_activeOf_30 : decode cX3_activeOf 30 = .ok (.istore_n 2, 1) := by decide +kernel
theorem dX3_activeOf_31 : decode cX3_activeOf 31 = .ok (.iinc 3 1, 3) := by decide +kernel
theorem dX3_activeOf_34 : decode cX3_activeOf 34 = .ok (.goto (-30), 3) := by decide +kernel
theorem dX3_activeOf_37 : decode cX3_activeOf 37 = .ok (.iload_n 2, 1) := by decide +kernel
theorem dX3_activeOf_38 : decode cX3_activeOf 38 = .ok (.ireturn, 1) := by decide +kernel
theorem dX3_isUsable_0 : decode cX3_isUsable 0 = .ok (.aload_n 0, 1) := by decide +kernel
theorem dX3_isUsable_1 : decode cX3_isUsable 1 = .ok (.getfield 7, 3) := by decide +kernel
theorem dX3_isUsable_4 : decode cX3_isUsable 4 = .ok (.sipush 197, 3) := by decide +kernel
theorem dX3_isUsable_7 : decode cX3_isUsable 7 = .ok (.iconst 4, 1) := by decide +kernel
theorem dX3_isUsable_8 : decode cX3_isUsable 8 = .ok (.iload_n 1, 1) := by decide +kernel
theorem dX3_isUsable_9 : decode cX3_isUsable 9 = .ok (.imul, 1) := by decide +kernel
theorem dX3_isUsable_10 : decode cX3_isUsable 10 = .ok (.iadd, 1) := by decide +kernel
theorem dX3_isUsable_11 : decode cX3_isUsable 11 = .ok (.iload_n 2, 1) := by decide +kernel
theorem dX3_isUsable_12 : decode cX3_isUsable 12 = .ok (.iadd, 1) := by decide +kernel
theorem dX3_isUsable_13 : decode cX3_isUsable 13 = .ok (.iaload, 1) := by decide +kernel
theorem dX3_isUsable_14 : decode cX3_isUsable 14 = .ok (.istore_n 3, 1) := by decide +kernel
theorem dX3_isUsable_15 : decode cX3_isUsable 15 = .ok (.iload_n 3, 1) := by decide +kernel
theorem dX3_isUsable_16 : decode cX3_isUsable 16 = .ok (.ifCond .eq 8, 3) := by decide +kernel
theorem dX3_isUsable_19 : decode cX3_isUsable 19 = .ok (.iload_n 3, 1) := by decide +kernel
theorem dX3_isUsable_20 : decode cX3_isUsable 20 = .ok (.iconst 1, 1) := by decide +kernel
theorem dX3_isUsable_21 : decode cX3_isUsable 21 = .ok (.if_icmp .ne 15, 3) := by decide +kernel
theorem dX3_isUsable_24 : decode cX3_isUsable 24 = .ok (.aload_n 0, 1) := by decide +kernel
theorem dX3_isUsable_25 : decode cX3_isUsable 25 = .ok (.iload_n 2, 1) := by decide +kernel
theorem dX3_isUsable_26 : decode cX3_isUsable 26 = .ok (.invokevirtual 41, 3) := by decide +kernel
theorem dX3_isUsable_29 : decode cX3_isUsable 29 = .ok (.ifCond .le 7, 3) := by decide +kernel
theorem dX3_isUsable_32 : decode cX3_isUsable 32 = .ok (.iconst 1, 1) := by decide +kernel
theorem dX3_isUsable_33 : decode cX3_isUsable 33 = .ok (.goto 4, 3) := by decide +kernel
theorem dX3_isUsable_36 : decode cX3_isUsable 36 = .ok (.iconst 0, 1) := by decide +kernel
theorem dX3_isUsable_37 : decode cX3_isUsable 37 = .ok (.ireturn, 1) := by decide +kernel
theorem dX3_routesOf_0 : decode cX3_routesOf 0 = .ok (.bipush 99, 2) := by decide +kernel
theorem dX3_routesOf_2 : decode cX3_routesOf 2 = .ok (.istore_n 2, 1) := by decide +kernel
theorem dX3_routesOf_3 : decode cX3_routesOf 3 = .ok (.iconst 0, 1) := by decide +kernel
theorem dX3_routesOf_4 : decode cX3_routesOf 4 = .ok (.istore_n 3, 1) := by decide +kernel
theorem dX3_routesOf_5 : decode cX3_routesOf 5 = .ok (.iconst 0, 1) := by decide +kernel
theorem dX3_routesOf_6 : decode cX3_routesOf 6 = .ok (.istore 4, 2) := by decide +kernel
theorem dX3_routesOf_8 : decode cX3_routesOf 8 = .ok (.iload 4, 2) := by decide +kernel
theorem dX3_routesOf_10 : decode cX3_routesOf 10 = .ok (.aload_n 0, 1) := by decide +kernel
theorem dX3_routesOf_11 : decode cX3_routesOf 11 = .ok (.getfield 7, 3) := by decide +kernel
theorem dX3_routesOf_14 : decode cX3_routesOf 14 = .ok (.iconst 0, 1) := by decide +kernel
theorem dX3_routesOf_15 : decode cX3_routesOf 15 = .ok (.iaload, 1) := by decide +kernel
theorem dX3_routesOf_16 : decode cX3_routesOf 16 = .ok (.if_icmp .ge 97, 3) := by decide +kernel
theorem dX3_routesOf_19 : decode cX3_routesOf 19 = .ok (.aload_n 0, 1) := by decide +kernel
theorem dX3_routesOf_20 : decode cX3_routesOf 20 = .ok (.iload_n 1, 1) := by decide +kernel
theorem dX3_routesOf_21 : decode cX3_routesOf 21 = .ok (.iload 4, 2) := by decide +kernel
theorem dX3_routesOf_23 : decode cX3_routesOf 23 = .ok (.invokevirtual 44, 3) := by decide +kernel
theorem dX3_routesOf_26 : decode cX3_routesOf 26 = .ok (.ifCond .eq 81, 3) := by decide +kernel
theorem dX3_routesOf_29 : decode cX3_routesOf 29 = .ok (.bipush 10, 2) := by decide +kernel
theorem dX3_routesOf_31 : decode cX3_routesOf 31 = .ok (.aload_n 0, 1) := by decide +kernel
theorem dX3_routesOf_32 : decode cX3_routesOf 32 = .ok (.getfield 7, 3) := by decide +kernel
theorem dX3_routesOf_35 : decode cX3_routesOf 35 = .ok (.sipush 197, 3) := by decide +kernel
theorem dX3_routesOf_38 : decode cX3_routesOf 38 = .ok (.iconst 4, 1) := by decide +kernel
theorem dX3_routesOf_39 : decode cX3_routesOf 39 = .ok (.iload_n 1, 1) := by decide +kernel
theorem dX3_routesOf_40 : decode cX3_routesOf 40 = .ok (.imul, 1) := by decide +kernel
theorem dX3_routesOf_41 : decode cX3_routesOf 41 = .ok (.iadd, 1) := by decide +kernel
theorem dX3_routesOf_42 : decode cX3_routesOf 42 = .ok (.iload 4, 2) := by decide +kernel
theorem dX3_routesOf_44 : decode cX3_routesOf 44 = .ok (.iadd, 1) := by decide +kernel
theorem dX3_routesOf_45 : decode cX3_routesOf 45 = .ok (.iaload, 1) := by decide +kernel
theorem dX3_routesOf_46 : decode cX3_routesOf 46 = .ok (.imul, 1) := by decide +kernel
theorem dX3_routesOf_47 : decode cX3_routesOf 47 = .ok (.aload_n 0, 1) := by decide +kernel
theorem dX3_routesOf_48 : decode cX3_routesOf 48 = .ok (.getfield 7, 3) := by decide +kernel
theorem dX3_routesOf_51 : decode cX3_routesOf 51 = .ok (.sipush 221, 3) := by decide +kernel
theorem dX3_routesOf_54 : decode cX3_routesOf 54 = .ok (.iconst 4, 1) := by decide +kernel
theorem dX3_routesOf_55 : decode cX3_routesOf 55 = .ok (.iload_n 1, 1) := by decide +kernel
theorem dX3_routesOf_56 : decode cX3_routesOf 56 = .ok (.imul, 1) := by decide +kernel
theorem dX3_routesOf_57 : decode cX3_routesOf 57 = .ok (.iadd, 1) := by decide +kernel
theorem dX3_routesOf_58 : decode cX3_routesOf 58 = .ok (.iload 4, 2) := by decide +kernel
theorem dX3_routesOf_60 : decode cX3_routesOf 60 = .ok (.iadd, 1) := by decide +kernel
theorem dX3_routesOf_61 : decode cX3_routesOf 61 = .ok (.iaload, 1) := by decide +kernel
theorem dX3_routesOf_62 : decode cX3_routesOf 62 = .ok (.iadd, 1) := by decide +kernel
theorem dX3_routesOf_63 : decode cX3_routesOf 63 = .ok (.istore 5, 2) := by decide +kernel
theorem dX3_routesOf_65 : decode cX3_routesOf 65 = .ok (.iload 5, 2) := by decide +kernel
theorem dX3_routesOf_67 : decode cX3_routesOf 67 = .ok (.iload_n 2, 1) := by decide +kernel
theorem dX3_routesOf_68 : decode cX3_routesOf 68 = .ok (.if_icmp .ge 7, 3) := by decide +kernel
theorem dX3_routesOf_71 : decode cX3_routesOf 71 = .ok (.iconst 0, 1) := by decide +kernel
theorem dX3_routesOf_72 : decode cX3_routesOf 72 = .ok (.goto 4, 3) := by decide +kernel
theorem dX3_routesOf_75 : decode cX3_routesOf 75 = .ok (.iload_n 3, 1) := by decide +kernel
theorem dX3_routesOf_76 : decode cX3_routesOf 76 = .ok (.istore_n 3, 1) := by decide +kernel
theorem dX3_routesOf_77 : decode cX3_routesOf 77 = .ok (.iload 5, 2) := by decide +kernel
theorem dX3_routesOf_79 : decode cX3_routesOf 79 = .ok (.iload_n 2, 1) := by decide +kernel
theorem dX3_routesOf_80 : decode cX3_routesOf 80 = .ok (.if_icmp .ge 8, 3) := by decide +kernel
theorem dX3_routesOf_83 : decode cX3_routesOf 83 = .ok (.iload 5, 2) := by decide +kernel
theorem dX3_routesOf_85 : decode cX3_routesOf 85 = .ok (.goto 4, 3) := by decide +kernel
theorem dX3_routesOf_88 : decode cX3_routesOf 88 = .ok (.iload_n 2, 1) := by decide +kernel
theorem dX3_routesOf_89 : decode cX3_routesOf 89 = .ok (.istore_n 2, 1) := by decide +kernel
theorem dX3_routesOf_90 : decode cX3_routesOf 90 = .ok (.iload_n 3, 1) := by decide +kernel
theorem dX3_routesOf_91 : decode cX3_routesOf 91 = .ok (.iload 5, 2) := by decide +kernel
theorem dX3_routesOf_93 : decode cX3_routesOf 93 = .ok (.iload_n 2, 1) := by decide +kernel
theorem dX3_routesOf_94 : decode cX3_routesOf 94 = .ok (.if_icmp .ne 10, 3) := by decide +kernel
theorem dX3_routesOf_97 : decode cX3_routesOf 97 = .ok (.iconst 1, 1) := by decide +kernel
theorem dX3_routesOf_98 : decode cX3_routesOf 98 = .ok (.iload 4, 2) := by decide +kernel
theorem dX3_routesOf_100 : decode cX3_routesOf 100 = .ok (.ishl, 1) := by decide +kernel
theorem dX3_routesOf_101 : decode cX3_routesOf 101 = .ok (.goto 4, 3) := by decide +kernel
theorem dX3_routesOf_104 : decode cX3_routesOf 104 = .ok (.iconst 0, 1) := by decide +kernel
theorem dX3_routesOf_105 : decode cX3_routesOf 105 = .ok (.ior, 1) := by decide +kernel
theorem dX3_routesOf_106 : decode cX3_routesOf 106 = .ok (.istore_n 3, 1) := by decide +kernel
theorem dX3_routesOf_107 : decode cX3_routesOf 107 = .ok (.iinc 4 1, 3) := by decide +kernel
theorem dX3_routesOf_110 : decode cX3_routesOf 110 = .ok (.goto (-102), 3) := by decide +kernel
theorem dX3_routesOf_113 : decode cX3_routesOf 113 = .ok (.iload_n 3, 1) := by decide +kernel
theorem dX3_routesOf_114 : decode cX3_routesOf 114 = .ok (.ireturn, 1) := by decide +kernel
theorem dX3_bits_0 : decode cX3_bits 0 = .ok (.iconst 0, 1) := by decide +kernel
theorem dX3_bits_1 : decode cX3_bits 1 = .ok (.istore_n 1, 1) := by decide +kernel
theorem dX3_bits_2 : decode cX3_bits 2 = .ok (.iconst 0, 1) := by decide +kernel
theorem dX3_bits_3 : decode cX3_bits 3 = .ok (.istore_n 2, 1) := by decide +kernel
theorem dX3_bits_4 : decode cX3_bits 4 = .ok (.iload_n 2, 1) := by decide +kernel
theorem dX3_bits_5 : decode cX3_bits 5 = .ok (.iconst 4, 1) := by decide +kernel
theorem dX3_bits_6 : decode cX3_bits 6 = .ok (.if_icmp .ge 17, 3) := by decide +kernel
theorem dX3_bits_9 : decode cX3_bits 9 = .ok (.iload_n 1, 1) := by decide +kernel
theorem dX3_bits_10 : decode cX3_bits 10 = .ok (.iload_n 0, 1) := by decide +kernel
theorem dX3_bits_11 : decode cX3_bits 11 = .ok (.iload_n 2, 1) := by decide +kernel
theorem dX3_bits_12 : decode cX3_bits 12 = .ok (.ishr, 1) := by decide +kernel
theorem dX3_bits_13 : decode cX3_bits 13 = .ok (.iconst 1, 1) := by decide +kernel
theorem dX3_bits_14 : decode cX3_bits 14 = .ok (.iand, 1) := by decide +kernel
theorem dX3_bits_15 : decode cX3_bits 15 = .ok (.iadd, 1) := by decide +kernel
theorem dX3_bits_16 : decode cX3_bits 16 = .ok (.istore_n 1, 1) := by decide +kernel
theorem dX3_bits_17 : decode cX3_bits 17 = .ok (.iinc 2 1, 3) := by decide +kernel
theorem dX3_bits_20 : decode cX3_bits 20 = .ok (.goto (-16), 3) := by decide +kernel
theorem dX3_bits_23 : decode cX3_bits 23 = .ok (.iload_n 1, 1) := by decide +kernel
theorem dX3_bits_24 : decode cX3_bits 24 = .ok (.ireturn, 1) := by decide +kernel
theorem dX3_linkOf_0 : decode cX3_linkOf 0 = .ok (.aload_n 0, 1) := by decide +kernel
theorem dX3_linkOf_1 : decode cX3_linkOf 1 = .ok (.iload_n 1, 1) := by decide +kernel
theorem dX3_linkOf_2 : decode cX3_linkOf 2 = .ok (.bipush 16, 2) := by decide +kernel
theorem dX3_linkOf_4 : decode cX3_linkOf 4 = .ok (.idiv, 1) := by decide +kernel
theorem dX3_linkOf_5 : decode cX3_linkOf 5 = .ok (.invokevirtual 48, 3) := by decide +kernel
theorem dX3_linkOf_8 : decode cX3_linkOf 8 = .ok (.istore_n 2, 1) := by decide +kernel
theorem dX3_linkOf_9 : decode cX3_linkOf 9 = .ok (.iload_n 2, 1) := by decide +kernel
theorem dX3_linkOf_10 : decode cX3_linkOf 10 = .ok (.invokestatic 51, 3) := by decide +kernel
theorem dX3_linkOf_13 : decode cX3_linkOf 13 = .ok (.istore_n 3, 1) := by decide +kernel
theorem dX3_linkOf_14 : decode cX3_linkOf 14 = .ok (.iload_n 3, 1) := by decide +kernel
theorem dX3_linkOf_15 : decode cX3_linkOf 15 = .ok (.ifCond .ne 5, 3) := by decide +kernel
theorem dX3_linkOf_18 : decode cX3_linkOf 18 = .ok (.iconst (-1), 1) := by decide +kernel
theorem dX3_linkOf_19 : decode cX3_linkOf 19 = .ok (.ireturn, 1) := by decide +kernel
theorem dX3_linkOf_20 : decode cX3_linkOf 20 = .ok (.iload_n 1, 1) := by decide +kernel
theorem dX3_linkOf_21 : decode cX3_linkOf 21 = .ok (.bipush 16, 2) := by decide +kernel
theorem dX3_linkOf_23 : decode cX3_linkOf 23 = .ok (.irem, 1) := by decide +kernel
theorem dX3_linkOf_24 : decode cX3_linkOf 24 = .ok (.iload_n 3, 1) := by decide +kernel
theorem dX3_linkOf_25 : decode cX3_linkOf 25 = .ok (.irem, 1) := by decide +kernel
theorem dX3_linkOf_26 : decode cX3_linkOf 26 = .ok (.istore 4, 2) := by decide +kernel
theorem dX3_linkOf_28 : decode cX3_linkOf 28 = .ok (.iconst 0, 1) := by decide +kernel
theorem dX3_linkOf_29 : decode cX3_linkOf 29 = .ok (.istore 5, 2) := by decide +kernel
theorem dX3_linkOf_31 : decode cX3_linkOf 31 = .ok (.iload_n 2, 1) := by decide +kernel
theorem dX3_linkOf_32 : decode cX3_linkOf 32 = .ok (.iload 5, 2) := by decide +kernel
theorem dX3_linkOf_34 : decode cX3_linkOf 34 = .ok (.ishr, 1) := by decide +kernel
theorem dX3_linkOf_35 : decode cX3_linkOf 35 = .ok (.iconst 1, 1) := by decide +kernel
theorem dX3_linkOf_36 : decode cX3_linkOf 36 = .ok (.iand, 1) := by decide +kernel
theorem dX3_linkOf_37 : decode cX3_linkOf 37 = .ok (.ifCond .eq 8, 3) := by decide +kernel
theorem dX3_linkOf_40 : decode cX3_linkOf 40 = .ok (.iload 4, 2) := by decide +kernel
theorem dX3_linkOf_42 : decode cX3_linkOf 42 = .ok (.ifCond .le 20, 3) := by decide +kernel
theorem dX3_linkOf_45 : decode cX3_linkOf 45 = .ok (.iload 4, 2) := by decide +kernel
theorem dX3_linkOf_47 : decode cX3_linkOf 47 = .ok (.iload_n 2, 1) := by decide +kernel
theorem dX3_linkOf_48 : decode cX3_linkOf 48 = .ok (.iload 5, 2) := by decide +kernel
theorem dX3_linkOf_50 : decode cX3_linkOf 50 = .ok (.ishr, 1) := by decide +kernel
theorem dX3_linkOf_51 : decode cX3_linkOf 51 = .ok (.iconst 1, 1) := by decide +kernel
theorem dX3_linkOf_52 : decode cX3_linkOf 52 = .ok (.iand, 1) := by decide +kernel
theorem dX3_linkOf_53 : decode cX3_linkOf 53 = .ok (.isub, 1) := by decide +kernel
theorem dX3_linkOf_54 : decode cX3_linkOf 54 = .ok (.istore 4, 2) := by decide +kernel
theorem dX3_linkOf_56 : decode cX3_linkOf 56 = .ok (.iinc 5 1, 3) := by decide +kernel
theorem dX3_linkOf_59 : decode cX3_linkOf 59 = .ok (.goto (-28), 3) := by decide +kernel
theorem dX3_linkOf_62 : decode cX3_linkOf 62 = .ok (.iload_n 1, 1) := by decide +kernel
theorem dX3_linkOf_63 : decode cX3_linkOf 63 = .ok (.bipush 16, 2) := by decide +kernel
theorem dX3_linkOf_65 : decode cX3_linkOf 65 = .ok (.irem, 1) := by decide +kernel
theorem dX3_linkOf_66 : decode cX3_linkOf 66 = .ok (.iload_n 3, 1) := by decide +kernel
theorem dX3_linkOf_67 : decode cX3_linkOf 67 = .ok (.idiv, 1) := by decide +kernel
theorem dX3_linkOf_68 : decode cX3_linkOf 68 = .ok (.aload_n 0, 1) := by decide +kernel
theorem dX3_linkOf_69 : decode cX3_linkOf 69 = .ok (.iload 5, 2) := by decide +kernel
theorem dX3_linkOf_71 : decode cX3_linkOf 71 = .ok (.invokevirtual 41, 3) := by decide +kernel
theorem dX3_linkOf_74 : decode cX3_linkOf 74 = .ok (.irem, 1) := by decide +kernel
theorem dX3_linkOf_75 : decode cX3_linkOf 75 = .ok (.istore 4, 2) := by decide +kernel
theorem dX3_linkOf_77 : decode cX3_linkOf 77 = .ok (.iconst 4, 1) := by decide +kernel
theorem dX3_linkOf_78 : decode cX3_linkOf 78 = .ok (.iload 5, 2) := by decide +kernel
theorem dX3_linkOf_80 : decode cX3_linkOf 80 = .ok (.imul, 1) := by decide +kernel
theorem dX3_linkOf_81 : decode cX3_linkOf 81 = .ok (.istore 6, 2) := by decide +kernel
theorem dX3_linkOf_83 : decode cX3_linkOf 83 = .ok (.aload_n 0, 1) := by decide +kernel
theorem dX3_linkOf_84 : decode cX3_linkOf 84 = .ok (.getfield 7, 3) := by decide +kernel
theorem dX3_linkOf_87 : decode cX3_linkOf 87 = .ok (.iconst 5, 1) := by decide +kernel
theorem dX3_linkOf_88 : decode cX3_linkOf 88 = .ok (.iload 6, 2) := by decide +kernel
theorem dX3_linkOf_90 : decode cX3_linkOf 90 = .ok (.iadd, 1) := by decide +kernel
theorem dX3_linkOf_91 : decode cX3_linkOf 91 = .ok (.iaload, 1) := by decide +kernel
theorem dX3_linkOf_92 : decode cX3_linkOf 92 = .ok (.ifCond .eq 8, 3) := by decide +kernel
theorem dX3_linkOf_95 : decode cX3_linkOf 95 = .ok (.iload 4, 2) := by decide +kernel
theorem dX3_linkOf_97 : decode cX3_linkOf 97 = .ok (.ifCond .le 23, 3) := by decide +kernel
theorem dX3_linkOf_100 : decode cX3_linkOf 100 = .ok (.iload 4, 2) := by decide +kernel
theorem dX3_linkOf_102 : decode cX3_linkOf 102 = .ok (.aload_n 0, 1) := by decide +kernel
theorem dX3_linkOf_103 : decode cX3_linkOf 103 = .ok (.getfield 7, 3) := by decide +kernel
theorem dX3_linkOf_106 : decode cX3_linkOf 106 = .ok (.iconst 5, 1) := by decide +kernel
theorem dX3_linkOf_107 : decode cX3_linkOf 107 = .ok (.iload 6, 2) := by decide +kernel
theorem dX3_linkOf_109 : decode cX3_linkOf 109 = .ok (.iadd, 1) := by decide +kernel
theorem dX3_linkOf_110 : decode cX3_linkOf 110 = .ok (.iaload, 1) := by decide +kernel
theorem dX3_linkOf_111 : decode cX3_linkOf 111 = .ok (.isub, 1) := by decide +kernel
theorem dX3_linkOf_112 : decode cX3_linkOf 112 = .ok (.istore 4, 2) := by decide +kernel
theorem dX3_linkOf_114 : decode cX3_linkOf 114 = .ok (.iinc 6 1, 3) := by decide +kernel
theorem dX3_linkOf_117 : decode cX3_linkOf 117 = .ok (.goto (-34), 3) := by decide +kernel
theorem dX3_linkOf_120 : decode cX3_linkOf 120 = .ok (.iload 6, 2) := by decide +kernel
theorem dX3_linkOf_122 : decode cX3_linkOf 122 = .ok (.ireturn, 1) := by decide +kernel
theorem dX3_laysBefore_0 : decode cX3_laysBefore 0 = .ok (.iconst 0, 1) := by decide +kernel
theorem dX3_laysBefore_1 : decode cX3_laysBefore 1 = .ok (.istore_n 1, 1) := by decide +kernel
theorem dX3_laysBefore_2 : decode cX3_laysBefore 2 = .ok (.iload_n 1, 1) := by decide +kernel
theorem dX3_laysBefore_3 : decode cX3_laysBefore 3 = .ok (.bipush 96, 2) := by decide +kernel
theorem dX3_laysBefore_5 : decode cX3_laysBefore 5 = .ok (.if_icmp .ge 20, 3) := by decide +kernel
theorem dX3_laysBefore_8 : decode cX3_laysBefore 8 = .ok (.aload_n 0, 1) := by decide +kernel
end
section
theorem dX3_laysBefore_9 : decode cX3_laysBefore 9 = .ok (.getfield 19, 3) := by decide +kernel
theorem dX3_laysBefore_12 : decode cX3_laysBefore 12 = .ok (.iload_n 1, 1) := by decide +kernel
theorem dX3_laysBefore_13 : decode cX3_laysBefore 13 = .ok (.aload_n 0, 1) := by decide +kernel
theorem dX3_laysBefore_14 : decode cX3_laysBefore 14 = .ok (.iload_n 1, 1) := by decide +kernel
theorem dX3_laysBefore_15 : decode cX3_laysBefore 15 = .ok (.invokevirtual 54, 3) := by decide +kernel
theorem dX3_laysBefore_18 : decode cX3_laysBefore 18 = .ok (.iastore, 1) := by decide +kernel
theorem dX3_laysBefore_19 : decode cX3_laysBefore 19 = .ok (.iinc 1 1, 3) := by decide +kernel
theorem dX3_laysBefore_22 : decode cX3_laysBefore 22 = .ok (.goto (-20), 3) := by decide +kernel
theorem dX3_laysBefore_25 : decode cX3_laysBefore 25 = .ok (.return_, 1) := by decide +kernel
theorem dX3_diverts_0 : decode cX3_diverts 0 = .ok (.iconst 0, 1) := by decide +kernel
theorem dX3_diverts_1 : decode cX3_diverts 1 = .ok (.istore_n 1, 1) := by decide +kernel
theorem dX3_diverts_2 : decode cX3_diverts 2 = .ok (.iconst 0, 1) := by decide +kernel
theorem dX3_diverts_3 : decode cX3_diverts 3 = .ok (.istore_n 2, 1) := by decide +kernel
theorem dX3_diverts_4 : decode cX3_diverts 4 = .ok (.iload_n 2, 1) := by decide +kernel
theorem dX3_diverts_5 : decode cX3_diverts 5 = .ok (.bipush 96, 2) := by decide +kernel
theorem dX3_diverts_7 : decode cX3_diverts 7 = .ok (.if_icmp .ge 81, 3) := by decide +kernel
theorem dX3_diverts_10 : decode cX3_diverts 10 = .ok (.aload_n 0, 1) := by decide +kernel
theorem dX3_diverts_11 : decode cX3_diverts 11 = .ok (.getfield 7, 3) := by decide +kernel
theorem dX3_diverts_14 : decode cX3_diverts 14 = .ok (.sipush 463, 3) := by decide +kernel
theorem dX3_diverts_17 : decode cX3_diverts 17 = .ok (.iaload, 1) := by decide +kernel
theorem dX3_diverts_18 : decode cX3_diverts 18 = .ok (.ifCond .le 70, 3) := by decide +kernel
theorem dX3_diverts_21 : decode cX3_diverts 21 = .ok (.aload_n 0, 1) := by decide +kernel
theorem dX3_diverts_22 : decode cX3_diverts 22 = .ok (.iload_n 2, 1) := by decide +kernel
theorem dX3_diverts_23 : decode cX3_diverts 23 = .ok (.invokevirtual 54, 3) := by decide +kernel
theorem dX3_diverts_26 : decode cX3_diverts 26 = .ok (.istore_n 3, 1) := by decide +kernel
theorem dX3_diverts_27 : decode cX3_diverts 27 = .ok (.aload_n 0, 1) := by decide +kernel
theorem dX3_diverts_28 : decode cX3_diverts 28 = .ok (.getfield 19, 3) := by decide +kernel
theorem dX3_diverts_31 : decode cX3_diverts 31 = .ok (.iload_n 2, 1) := by decide +kernel
theorem dX3_diverts_32 : decode cX3_diverts 32 = .ok (.iaload, 1) := by decide +kernel
theorem dX3_diverts_33 : decode cX3_diverts 33 = .ok (.iconst (-1), 1) := by decide +kernel
theorem dX3_diverts_34 : decode cX3_diverts 34 = .ok (.if_icmp .eq 48, 3) := by decide +kernel
theorem dX3_diverts_37 : decode cX3_diverts 37 = .ok (.iload_n 3, 1) := by decide +kernel
theorem dX3_diverts_38 : decode cX3_diverts 38 = .ok (.iconst (-1), 1) := by decide +kernel
theorem dX3_diverts_39 : decode cX3_diverts 39 = .ok (.if_icmp .eq 43, 3) := by decide +kernel
theorem dX3_diverts_42 : decode cX3_diverts 42 = .ok (.iload_n 3, 1) := by decide +kernel
theorem dX3_diverts_43 : decode cX3_diverts 43 = .ok (.aload_n 0, 1) := by decide +kernel
theorem dX3_diverts_44 : decode cX3_diverts 44 = .ok (.getfield 19, 3) := by decide +kernel
theorem dX3_diverts_47 : decode cX3_diverts 47 = .ok (.iload_n 2, 1) := by decide +kernel
theorem dX3_diverts_48 : decode cX3_diverts 48 = .ok (.iaload, 1) := by decide +kernel
theorem dX3_diverts_49 : decode cX3_diverts 49 = .ok (.if_icmp .eq 33, 3) := by decide +kernel
theorem dX3_diverts_52 : decode cX3_diverts 52 = .ok (.aload_n 0, 1) := by decide +kernel
theorem dX3_diverts_53 : decode cX3_diverts 53 = .ok (.getfield 7, 3) := by decide +kernel
theorem dX3_diverts_56 : decode cX3_diverts 56 = .ok (.sipush 245, 3) := by decide +kernel
theorem dX3_diverts_59 : decode cX3_diverts 59 = .ok (.iload_n 2, 1) := by decide +kernel
theorem dX3_diverts_60 : decode cX3_diverts 60 = .ok (.iadd, 1) := by decide +kernel
theorem dX3_diverts_61 : decode cX3_diverts 61 = .ok (.aload_n 0, 1) := by decide +kernel
theorem dX3_diverts_62 : decode cX3_diverts 62 = .ok (.getfield 7, 3) := by decide +kernel
theorem dX3_diverts_65 : decode cX3_diverts 65 = .ok (.sipush 462, 3) := by decide +kernel
theorem dX3_diverts_68 : decode cX3_diverts 68 = .ok (.iaload, 1) := by decide +kernel
theorem dX3_diverts_69 : decode cX3_diverts 69 = .ok (.aload_n 0, 1) := by decide +kernel
theorem dX3_diverts_70 : decode cX3_diverts 70 = .ok (.getfield 7, 3) := by decide +kernel
theorem dX3_diverts_73 : decode cX3_diverts 73 = .ok (.sipush 463, 3) := by decide +kernel
theorem dX3_diverts_76 : decode cX3_diverts 76 = .ok (.iaload, 1) := by decide +kernel
theorem dX3_diverts_77 : decode cX3_diverts 77 = .ok (.iadd, 1) := by decide +kernel
theorem dX3_diverts_78 : decode cX3_diverts 78 = .ok (.iastore, 1) := by decide +kernel
theorem dX3_diverts_79 : decode cX3_diverts 79 = .ok (.iinc 1 1, 3) := by decide +kernel
theorem dX3_diverts_82 : decode cX3_diverts 82 = .ok (.iinc 2 1, 3) := by decide +kernel
theorem dX3_diverts_85 : decode cX3_diverts 85 = .ok (.goto (-81), 3) := by decide +kernel
theorem dX3_diverts_88 : decode cX3_diverts 88 = .ok (.iload_n 1, 1) := by decide +kernel
theorem dX3_diverts_89 : decode cX3_diverts 89 = .ok (.ireturn, 1) := by decide +kernel
theorem dX3_dispatches_0 : decode cX3_dispatches 0 = .ok (.aload_n 0, 1) := by decide +kernel
theorem dX3_dispatches_1 : decode cX3_dispatches 1 = .ok (.iload_n 1, 1) := by decide +kernel
theorem dX3_dispatches_2 : decode cX3_dispatches 2 = .ok (.sipush 128, 3) := by decide +kernel
theorem dX3_dispatches_5 : decode cX3_dispatches 5 = .ok (.irem, 1) := by decide +kernel
theorem dX3_dispatches_6 : decode cX3_dispatches 6 = .ok (.invokevirtual 54, 3) := by decide +kernel
theorem dX3_dispatches_9 : decode cX3_dispatches 9 = .ok (.istore_n 2, 1) := by decide +kernel
theorem dX3_dispatches_10 : decode cX3_dispatches 10 = .ok (.iload_n 2, 1) := by decide +kernel
theorem dX3_dispatches_11 : decode cX3_dispatches 11 = .ok (.iconst (-1), 1) := by decide +kernel
theorem dX3_dispatches_12 : decode cX3_dispatches 12 = .ok (.if_icmp .ne 18, 3) := by decide +kernel
theorem dX3_dispatches_15 : decode cX3_dispatches 15 = .ok (.aload_n 0, 1) := by decide +kernel
theorem dX3_dispatches_16 : decode cX3_dispatches 16 = .ok (.getfield 7, 3) := by decide +kernel
theorem dX3_dispatches_19 : decode cX3_dispatches 19 = .ok (.sipush 467, 3) := by decide +kernel
theorem dX3_dispatches_22 : decode cX3_dispatches 22 = .ok (.dup2, 1) := by decide +kernel
theorem dX3_dispatches_23 : decode cX3_dispatches 23 = .ok (.iaload, 1) := by decide +kernel
theorem dX3_dispatches_24 : decode cX3_dispatches 24 = .ok (.iconst 1, 1) := by decide +kernel
theorem dX3_dispatches_25 : decode cX3_dispatches 25 = .ok (.iadd, 1) := by decide +kernel
theorem dX3_dispatches_26 : decode cX3_dispatches 26 = .ok (.iastore, 1) := by decide +kernel
theorem dX3_dispatches_27 : decode cX3_dispatches 27 = .ok (.goto 68, 3) := by decide +kernel
theorem dX3_dispatches_30 : decode cX3_dispatches 30 = .ok (.aload_n 0, 1) := by decide +kernel
theorem dX3_dispatches_31 : decode cX3_dispatches 31 = .ok (.getfield 7, 3) := by decide +kernel
theorem dX3_dispatches_34 : decode cX3_dispatches 34 = .ok (.bipush 21, 2) := by decide +kernel
theorem dX3_dispatches_36 : decode cX3_dispatches 36 = .ok (.iload_n 2, 1) := by decide +kernel
theorem dX3_dispatches_37 : decode cX3_dispatches 37 = .ok (.iadd, 1) := by decide +kernel
theorem dX3_dispatches_38 : decode cX3_dispatches 38 = .ok (.iaload, 1) := by decide +kernel
theorem dX3_dispatches_39 : decode cX3_dispatches 39 = .ok (.bipush 10, 2) := by decide +kernel
theorem dX3_dispatches_41 : decode cX3_dispatches 41 = .ok (.if_icmp .ne 18, 3) := by decide +kernel
theorem dX3_dispatches_44 : decode cX3_dispatches 44 = .ok (.aload_n 0, 1) := by decide +kernel
theorem dX3_dispatches_45 : decode cX3_dispatches 45 = .ok (.getfield 7, 3) := by decide +kernel
theorem dX3_dispatches_48 : decode cX3_dispatches 48 = .ok (.sipush 469, 3) := by decide +kernel
theorem dX3_dispatches_51 : decode cX3_dispatches 51 = .ok (.dup2, 1) := by decide +kernel
theorem dX3_dispatches_52 : decode cX3_dispatches 52 = .ok (.iaload, 1) := by decide +kernel
theorem dX3_dispatches_53 : decode cX3_dispatches 53 = .ok (.iconst 1, 1) := by decide +kernel
theorem dX3_dispatches_54 : decode cX3_dispatches 54 = .ok (.iadd, 1) := by decide +kernel
theorem dX3_dispatches_55 : decode cX3_dispatches 55 = .ok (.iastore, 1) := by decide +kernel
theorem dX3_dispatches_56 : decode cX3_dispatches 56 = .ok (.goto 39, 3) := by decide +kernel
theorem dX3_dispatches_59 : decode cX3_dispatches 59 = .ok (.aload_n 0, 1) := by decide +kernel
theorem dX3_dispatches_60 : decode cX3_dispatches 60 = .ok (.getfield 7, 3) := by decide +kernel
theorem dX3_dispatches_63 : decode cX3_dispatches 63 = .ok (.bipush 37, 2) := by decide +kernel
theorem dX3_dispatches_65 : decode cX3_dispatches 65 = .ok (.bipush 10, 2) := by decide +kernel
theorem dX3_dispatches_67 : decode cX3_dispatches 67 = .ok (.iload_n 2, 1) := by decide +kernel
theorem dX3_dispatches_68 : decode cX3_dispatches 68 = .ok (.imul, 1) := by decide +kernel
theorem dX3_dispatches_69 : decode cX3_dispatches 69 = .ok (.iadd, 1) := by decide +kernel
theorem dX3_dispatches_70 : decode cX3_dispatches 70 = .ok (.aload_n 0, 1) := by decide +kernel
theorem dX3_dispatches_71 : decode cX3_dispatches 71 = .ok (.getfield 7, 3) := by decide +kernel
theorem dX3_dispatches_74 : decode cX3_dispatches 74 = .ok (.bipush 21, 2) := by decide +kernel
theorem dX3_dispatches_76 : decode cX3_dispatches 76 = .ok (.iload_n 2, 1) := by decide +kernel
theorem dX3_dispatches_77 : decode cX3_dispatches 77 = .ok (.iadd, 1) := by decide +kernel
theorem dX3_dispatches_78 : decode cX3_dispatches 78 = .ok (.iaload, 1) := by decide +kernel
theorem dX3_dispatches_79 : decode cX3_dispatches 79 = .ok (.iadd, 1) := by decide +kernel
theorem dX3_dispatches_80 : decode cX3_dispatches 80 = .ok (.iload_n 1, 1) := by decide +kernel
theorem dX3_dispatches_81 : decode cX3_dispatches 81 = .ok (.iastore, 1) := by decide +kernel
theorem dX3_dispatches_82 : decode cX3_dispatches 82 = .ok (.aload_n 0, 1) := by decide +kernel
theorem dX3_dispatches_83 : decode cX3_dispatches 83 = .ok (.getfield 7, 3) := by decide +kernel
theorem dX3_dispatches_86 : decode cX3_dispatches 86 = .ok (.bipush 21, 2) := by decide +kernel
theorem dX3_dispatches_88 : decode cX3_dispatches 88 = .ok (.iload_n 2, 1) := by decide +kernel
theorem dX3_dispatches_89 : decode cX3_dispatches 89 = .ok (.iadd, 1) := by decide +kernel
theorem dX3_dispatches_90 : decode cX3_dispatches 90 = .ok (.dup2, 1) := by decide +kernel
theorem dX3_dispatches_91 : decode cX3_dispatches 91 = .ok (.iaload, 1) := by decide +kernel
theorem dX3_dispatches_92 : decode cX3_dispatches 92 = .ok (.iconst 1, 1) := by decide +kernel
theorem dX3_dispatches_93 : decode cX3_dispatches 93 = .ok (.iadd, 1) := by decide +kernel
theorem dX3_dispatches_94 : decode cX3_dispatches 94 = .ok (.iastore, 1) := by decide +kernel
theorem dX3_dispatches_95 : decode cX3_dispatches 95 = .ok (.return_, 1) := by decide +kernel
theorem dX3_levelOf_0 : decode cX3_levelOf 0 = .ok (.aload_n 0, 1) := by decide +kernel
theorem dX3_levelOf_1 : decode cX3_levelOf 1 = .ok (.getfield 7, 3) := by decide +kernel
theorem dX3_levelOf_4 : decode cX3_levelOf 4 = .ok (.bipush 21, 2) := by decide +kernel
theorem dX3_levelOf_6 : decode cX3_levelOf 6 = .ok (.iload_n 1, 1) := by decide +kernel
theorem dX3_levelOf_7 : decode cX3_levelOf 7 = .ok (.iadd, 1) := by decide +kernel
theorem dX3_levelOf_8 : decode cX3_levelOf 8 = .ok (.iaload, 1) := by decide +kernel
theorem dX3_levelOf_9 : decode cX3_levelOf 9 = .ok (.istore_n 2, 1) := by decide +kernel
theorem dX3_levelOf_10 : decode cX3_levelOf 10 = .ok (.iload_n 2, 1) := by decide +kernel
theorem dX3_levelOf_11 : decode cX3_levelOf 11 = .ok (.iconst 4, 1) := by decide +kernel
theorem dX3_levelOf_12 : decode cX3_levelOf 12 = .ok (.if_icmp .ge 7, 3) := by decide +kernel
theorem dX3_levelOf_15 : decode cX3_levelOf 15 = .ok (.iconst 0, 1) := by decide +kernel
theorem dX3_levelOf_16 : decode cX3_levelOf 16 = .ok (.goto 24, 3) := by decide +kernel
theorem dX3_levelOf_19 : decode cX3_levelOf 19 = .ok (.iload_n 2, 1) := by decide +kernel
theorem dX3_levelOf_20 : decode cX3_levelOf 20 = .ok (.bipush 6, 2) := by decide +kernel
theorem dX3_levelOf_22 : decode cX3_levelOf 22 = .ok (.if_icmp .ge 7, 3) := by decide +kernel
theorem dX3_levelOf_25 : decode cX3_levelOf 25 = .ok (.iconst 1, 1) := by decide +kernel
theorem dX3_levelOf_26 : decode cX3_levelOf 26 = .ok (.goto 14, 3) := by decide +kernel
theorem dX3_levelOf_29 : decode cX3_levelOf 29 = .ok (.iload_n 2, 1) := by decide +kernel
theorem dX3_levelOf_30 : decode cX3_levelOf 30 = .ok (.bipush 8, 2) := by decide +kernel
theorem dX3_levelOf_32 : decode cX3_levelOf 32 = .ok (.if_icmp .ge 7, 3) := by decide +kernel
theorem dX3_levelOf_35 : decode cX3_levelOf 35 = .ok (.iconst 2, 1) := by decide +kernel
theorem dX3_levelOf_36 : decode cX3_levelOf 36 = .ok (.goto 4, 3) := by decide +kernel
theorem dX3_levelOf_39 : decode cX3_levelOf 39 = .ok (.iconst 3, 1) := by decide +kernel
theorem dX3_levelOf_40 : decode cX3_levelOf 40 = .ok (.ireturn, 1) := by decide +kernel
theorem dX3_addLinkset_0 : decode cX3_addLinkset 0 = .ok (.iload_n 1, 1) := by decide +kernel
theorem dX3_addLinkset_1 : decode cX3_addLinkset 1 = .ok (.iconst 1, 1) := by decide +kernel
theorem dX3_addLinkset_2 : decode cX3_addLinkset 2 = .ok (.iconst 4, 1) := by decide +kernel
theorem dX3_addLinkset_3 : decode cX3_addLinkset 3 = .ok (.invokestatic 33, 3) := by decide +kernel
theorem dX3_addLinkset_6 : decode cX3_addLinkset 6 = .ok (.ifCond .ne 10, 3) := by decide +kernel
theorem dX3_addLinkset_9 : decode cX3_addLinkset 9 = .ok (.aload_n 0, 1) := by decide +kernel
theorem dX3_addLinkset_10 : decode cX3_addLinkset 10 = .ok (.bipush (-2), 2) := by decide +kernel
theorem dX3_addLinkset_12 : decode cX3_addLinkset 12 = .ok (.invokevirtual 29, 3) := by decide +kernel
theorem dX3_addLinkset_15 : decode cX3_addLinkset 15 = .ok (.ireturn, 1) := by decide +kernel
theorem dX3_addLinkset_16 : decode cX3_addLinkset 16 = .ok (.aload_n 0, 1) := by decide +kernel
theorem dX3_addLinkset_17 : decode cX3_addLinkset 17 = .ok (.getfield 7, 3) := by decide +kernel
theorem dX3_addLinkset_20 : decode cX3_addLinkset 20 = .ok (.iconst 0, 1) := by decide +kernel
theorem dX3_addLinkset_21 : decode cX3_addLinkset 21 = .ok (.iaload, 1) := by decide +kernel
theorem dX3_addLinkset_22 : decode cX3_addLinkset 22 = .ok (.iconst 4, 1) := by decide +kernel
theorem dX3_addLinkset_23 : decode cX3_addLinkset 23 = .ok (.if_icmp .ne 10, 3) := by decide +kernel
theorem dX3_addLinkset_26 : decode cX3_addLinkset 26 = .ok (.aload_n 0, 1) := by decide +kernel
theorem dX3_addLinkset_27 : decode cX3_addLinkset 27 = .ok (.bipush (-4), 2) := by decide +kernel
theorem dX3_addLinkset_29 : decode cX3_addLinkset 29 = .ok (.invokevirtual 29, 3) := by decide +kernel
theorem dX3_addLinkset_32 : decode cX3_addLinkset 32 = .ok (.ireturn, 1) := by decide +kernel
theorem dX3_addLinkset_33 : decode cX3_addLinkset 33 = .ok (.aload_n 0, 1) := by decide +kernel
theorem dX3_addLinkset_34 : decode cX3_addLinkset 34 = .ok (.invokevirtual 57, 3) := by decide +kernel
theorem dX3_addLinkset_37 : decode cX3_addLinkset 37 = .ok (.aload_n 0, 1) := by decide +kernel
theorem dX3_addLinkset_38 : decode cX3_addLinkset 38 = .ok (.getfield 7, 3) := by decide +kernel
theorem dX3_addLinkset_41 : decode cX3_addLinkset 41 = .ok (.iconst 0, 1) := by decide +kernel
theorem dX3_addLinkset_42 : decode cX3_addLinkset 42 = .ok (.iaload, 1) := by decide +kernel
theorem dX3_addLinkset_43 : decode cX3_addLinkset 43 = .ok (.istore_n 2, 1) := by decide +kernel
theorem dX3_addLinkset_44 : decode cX3_addLinkset 44 = .ok (.aload_n 0, 1) := by decide +kernel
theorem dX3_addLinkset_45 : decode cX3_addLinkset 45 = .ok (.getfield 7, 3) := by decide +kernel
theorem dX3_addLinkset_48 : decode cX3_addLinkset 48 = .ok (.iconst 1, 1) := by decide +kernel
theorem dX3_addLinkset_49 : decode cX3_addLinkset 49 = .ok (.iload_n 2, 1) := by decide +kernel
theorem dX3_addLinkset_50 : decode cX3_addLinkset 50 = .ok (.iadd, 1) := by decide +kernel
theorem dX3_addLinkset_51 : decode cX3_addLinkset 51 = .ok (.iload_n 1, 1) := by decide +kernel
theorem dX3_addLinkset_52 : decode cX3_addLinkset 52 = .ok (.iastore, 1) := by decide +kernel
theorem dX3_addLinkset_53 : decode cX3_addLinkset 53 = .ok (.iconst 0, 1) := by decide +kernel
theorem dX3_addLinkset_54 : decode cX3_addLinkset 54 = .ok (.istore_n 3, 1) := by decide +kernel
theorem dX3_addLinkset_55 : decode cX3_addLinkset 55 = .ok (.iload_n 3, 1) := by decide +kernel
theorem dX3_addLinkset_56 : decode cX3_addLinkset 56 = .ok (.iconst 4, 1) := by decide +kernel
theorem dX3_addLinkset_57 : decode cX3_addLinkset 57 = .ok (.if_icmp .ge 45, 3) := by decide +kernel
theorem dX3_addLinkset_60 : decode cX3_addLinkset 60 = .ok (.aload_n 0, 1) := by decide +kernel
theorem dX3_addLinkset_61 : decode cX3_addLinkset 61 = .ok (.getfield 7, 3) := by decide +kernel
theorem dX3_addLinkset_64 : decode cX3_addLinkset 64 = .ok (.iconst 5, 1) := by decide +kernel
theorem dX3_addLinkset_65 : decode cX3_addLinkset 65 = .ok (.iconst 4, 1) := by decide +kernel
theorem dX3_addLinkset_66 : decode cX3_addLinkset 66 = .ok (.iload_n 2, 1) := by decide +kernel
theorem dX3_addLinkset_67 : decode cX3_addLinkset 67 = .ok (.imul, 1) := by decide +kernel
theorem dX3_addLinkset_68 : decode cX3_addLinkset 68 = .ok (.iadd, 1) := by decide +kernel
theorem dX3_addLinkset_69 : decode cX3_addLinkset 69 = .ok (.iload_n 3, 1) := by decide +kernel
theorem dX3_addLinkset_70 : decode cX3_addLinkset 70 = .ok (.iadd, 1) := by decide +kernel
theorem dX3_addLinkset_71 : decode cX3_addLinkset 71 = .ok (.iload_n 3, 1) := by decide +kernel
theorem dX3_addLinkset_72 : decode cX3_addLinkset 72 = .ok (.iload_n 1, 1) := by decide +kernel
theorem dX3_addLinkset_73 : decode cX3_addLinkset 73 = .ok (.if_icmp .ge 7, 3) := by decide +kernel
theorem dX3_addLinkset_76 : decode cX3_addLinkset 76 = .ok (.iconst 1, 1) := by decide +kernel
theorem dX3_addLinkset_77 : decode cX3_addLinkset 77 = .ok (.goto 4, 3) := by decide +kernel
theorem dX3_addLinkset_80 : decode cX3_addLinkset 80 = .ok (.iconst 0, 1) := by decide +kernel
theorem dX3_addLinkset_81 : decode cX3_addLinkset 81 = .ok (.iastore, 1) := by decide +kernel
theorem dX3_addLinkset_82 : decode cX3_addLinkset 82 = .ok (.aload_n 0, 1) := by decide +kernel
theorem dX3_addLinkset_83 : decode cX3_addLinkset 83 = .ok (.getfield 7, 3) := by decide +kernel
theorem dX3_addLinkset_86 : decode cX3_addLinkset 86 = .ok (.bipush 21, 2) := by decide +kernel
theorem dX3_addLinkset_88 : decode cX3_addLinkset 88 = .ok (.iconst 4, 1) := by decide +kernel
theorem dX3_addLinkset_89 : decode cX3_addLinkset 89 = .ok (.iload_n 2, 1) := by decide +kernel
theorem dX3_addLinkset_90 : decode cX3_addLinkset 90 = .ok (.imul, 1) := by decide +kernel
theorem dX3_addLinkset_91 : decode cX3_addLinkset 91 = .ok (.iadd, 1) := by decide +kernel
theorem dX3_addLinkset_92 : decode cX3_addLinkset 92 = .ok (.iload_n 3, 1) := by decide +kernel
theorem dX3_addLinkset_93 : decode cX3_addLinkset 93 = .ok (.iadd, 1) := by decide +kernel
theorem dX3_addLinkset_94 : decode cX3_addLinkset 94 = .ok (.iconst 0, 1) := by decide +kernel
theorem dX3_addLinkset_95 : decode cX3_addLinkset 95 = .ok (.iastore, 1) := by decide +kernel
theorem dX3_addLinkset_96 : decode cX3_addLinkset 96 = .ok (.iinc 3 1, 3) := by decide +kernel
theorem dX3_addLinkset_99 : decode cX3_addLinkset 99 = .ok (.goto (-44), 3) := by decide +kernel
theorem dX3_addLinkset_102 : decode cX3_addLinkset 102 = .ok (.aload_n 0, 1) := by decide +kernel
theorem dX3_addLinkset_103 : decode cX3_addLinkset 103 = .ok (.getfield 7, 3) := by decide +kernel
theorem dX3_addLinkset_106 : decode cX3_addLinkset 106 = .ok (.iconst 0, 1) := by decide +kernel
theorem dX3_addLinkset_107 : decode cX3_addLinkset 107 = .ok (.dup2, 1) := by decide +kernel
theorem dX3_addLinkset_108 : decode cX3_addLinkset 108 = .ok (.iaload, 1) := by decide +kernel
theorem dX3_addLinkset_109 : decode cX3_addLinkset 109 = .ok (.iconst 1, 1) := by decide +kernel
theorem dX3_addLinkset_110 : decode cX3_addLinkset 110 = .ok (.iadd, 1) := by decide +kernel
theorem dX3_addLinkset_111 : decode cX3_addLinkset 111 = .ok (.iastore, 1) := by decide +kernel
theorem dX3_addLinkset_112 : decode cX3_addLinkset 112 = .ok (.iload_n 2, 1) := by decide +kernel
theorem dX3_addLinkset_113 : decode cX3_addLinkset 113 = .ok (.ireturn, 1) := by decide +kernel
theorem dX3_failLink_0 : decode cX3_failLink 0 = .ok (.aload_n 0, 1) := by decide +kernel
theorem dX3_failLink_1 : decode cX3_failLink 1 = .ok (.iload_n 1, 1) := by decide +kernel
theorem dX3_failLink_2 : decode cX3_failLink 2 = .ok (.iload_n 2, 1) := by decide +kernel
theorem dX3_failLink_3 : decode cX3_failLink 3 = .ok (.invokevirtual 60, 3) := by decide +kernel
theorem dX3_failLink_6 : decode cX3_failLink 6 = .ok (.ifCond .ne 10, 3) := by decide +kernel
theorem dX3_failLink_9 : decode cX3_failLink 9 = .ok (.aload_n 0, 1) := by decide +kernel
theorem dX3_failLink_10 : decode cX3_failLink 10 = .ok (.bipush (-2), 2) := by decide +kernel
theorem dX3_failLink_12 : decode cX3_failLink 12 = .ok (.invokevirtual 29, 3) := by decide +kernel
theorem dX3_failLink_15 : decode cX3_failLink 15 = .ok (.ireturn, 1) := by decide +kernel
theorem dX3_failLink_16 : decode cX3_failLink 16 = .ok (.iconst 4, 1) := by decide +kernel
theorem dX3_failLink_17 : decode cX3_failLink 17 = .ok (.iload_n 1, 1) := by decide +kernel
theorem dX3_failLink_18 : decode cX3_failLink 18 = .ok (.imul, 1) := by decide +kernel
theorem dX3_failLink_19 : decode cX3_failLink 19 = .ok (.iload_n 2, 1) := by decide +kernel
theorem dX3_failLink_20 : decode cX3_failLink 20 = .ok (.iadd, 1) := by decide +kernel
theorem dX3_failLink_21 : decode cX3_failLink 21 = .ok (.istore_n 3, 1) := by decide +kernel
theorem dX3_failLink_22 : decode cX3_failLink 22 = .ok (.aload_n 0, 1) := by decide +kernel
theorem dX3_failLink_23 : decode cX3_failLink 23 = .ok (.getfield 7, 3) := by decide +kernel
theorem dX3_failLink_26 : decode cX3_failLink 26 = .ok (.iconst 5, 1) := by decide +kernel
theorem dX3_failLink_27 : decode cX3_failLink 27 = .ok (.iload_n 3, 1) := by decide +kernel
theorem dX3_failLink_28 : decode cX3_failLink 28 = .ok (.iadd, 1) := by decide +kernel
theorem dX3_failLink_29 : decode cX3_failLink 29 = .ok (.iaload, 1) := by decide +kernel
theorem dX3_failLink_30 : decode cX3_failLink 30 = .ok (.ifCond .ne 10, 3) := by decide +kernel
theorem dX3_failLink_33 : decode cX3_failLink 33 = .ok (.aload_n 0, 1) := by decide +kernel
theorem dX3_failLink_34 : decode cX3_failLink 34 = .ok (.bipush (-3), 2) := by decide +kernel
theorem dX3_failLink_36 : decode cX3_failLink 36 = .ok (.invokevirtual 29, 3) := by decide +kernel
theorem dX3_failLink_39 : decode cX3_failLink 39 = .ok (.ireturn, 1) := by decide +kernel
theorem dX3_failLink_40 : decode cX3_failLink 40 = .ok (.aload_n 0, 1) := by decide +kernel
theorem dX3_failLink_41 : decode cX3_failLink 41 = .ok (.invokevirtual 57, 3) := by decide +kernel
theorem dX3_failLink_44 : decode cX3_failLink 44 = .ok (.aload_n 0, 1) := by decide +kernel
theorem dX3_failLink_45 : decode cX3_failLink 45 = .ok (.getfield 7, 3) := by decide +kernel
theorem dX3_failLink_48 : decode cX3_failLink 48 = .ok (.bipush 21, 2) := by decide +kernel
theorem dX3_failLink_50 : decode cX3_failLink 50 = .ok (.iload_n 3, 1) := by decide +kernel
theorem dX3_failLink_51 : decode cX3_failLink 51 = .ok (.iadd, 1) := by decide +kernel
theorem dX3_failLink_52 : decode cX3_failLink 52 = .ok (.iaload, 1) := by decide +kernel
theorem dX3_failLink_53 : decode cX3_failLink 53 = .ok (.istore 4, 2) := by decide +kernel
theorem dX3_failLink_55 : decode cX3_failLink 55 = .ok (.iconst 0, 1) := by decide +kernel
theorem dX3_failLink_56 : decode cX3_failLink 56 = .ok (.istore 5, 2) := by decide +kernel
theorem dX3_failLink_58 : decode cX3_failLink 58 = .ok (.iload 5, 2) := by decide +kernel
theorem dX3_failLink_60 : decode cX3_failLink 60 = .ok (.iload 4, 2) := by decide +kernel
theorem dX3_failLink_62 : decode cX3_failLink 62 = .ok (.if_icmp .ge 31, 3) := by decide +kernel
theorem dX3_failLink_65 : decode cX3_failLink 65 = .ok (.aload_n 0, 1) := by decide +kernel
theorem dX3_failLink_66 : decode cX3_failLink 66 = .ok (.getfield 22, 3) := by decide +kernel
theorem dX3_failLink_69 : decode cX3_failLink 69 = .ok (.iload 5, 2) := by decide +kernel
theorem dX3_failLink_71 : decode cX3_failLink 71 = .ok (.aload_n 0, 1) := by decide +kernel
theorem dX3_failLink_72 : decode cX3_failLink 72 = .ok (.getfield 7, 3) := by decide +kernel
theorem dX3_failLink_75 : decode cX3_failLink 75 = .ok (.bipush 37, 2) := by decide +kernel
theorem dX3_failLink_77 : decode cX3_failLink 77 = .ok (.bipush 10, 2) := by decide +kernel
theorem dX3_failLink_79 : decode cX3_failLink 79 = .ok (.iload_n 3, 1) := by decide +kernel
theorem dX3_failLink_80 : decode cX3_failLink 80 = .ok (.imul, 1) := by decide +kernel
theorem dX3_failLink_81 : decode cX3_failLink 81 = .ok (.iadd, 1) := by decide +kernel
theorem dX3_failLink_82 : decode cX3_failLink 82 = .ok (.iload 5, 2) := by decide +kernel
theorem dX3_failLink_84 : decode cX3_failLink 84 = .ok (.iadd, 1) := by decide +kernel
theorem dX3_failLink_85 : decode cX3_failLink 85 = .ok (.iaload, 1) := by decide +kernel
theorem dX3_failLink_86 : decode cX3_failLink 86 = .ok (.iastore, 1) := by decide +kernel
theorem dX3_failLink_87 : decode cX3_failLink 87 = .ok (.iinc 5 1, 3) := by decide +kernel
theorem dX3_failLink_90 : decode cX3_failLink 90 = .ok (.goto (-32), 3) := by decide +kernel
theorem dX3_failLink_93 : decode cX3_failLink 93 = .ok (.aload_n 0, 1) := by decide +kernel
theorem dX3_failLink_94 : decode cX3_failLink 94 = .ok (.getfield 7, 3) := by decide +kernel
theorem dX3_failLink_97 : decode cX3_failLink 97 = .ok (.iconst 5, 1) := by decide +kernel
theorem dX3_failLink_98 : decode cX3_failLink 98 = .ok (.iload_n 3, 1) := by decide +kernel
theorem dX3_failLink_99 : decode cX3_failLink 99 = .ok (.iadd, 1) := by decide +kernel
theorem dX3_failLink_100 : decode cX3_failLink 100 = .ok (.iconst 0, 1) := by decide +kernel
theorem dX3_failLink_101 : decode cX3_failLink 101 = .ok (.iastore, 1) := by decide +kernel
theorem dX3_failLink_102 : decode cX3_failLink 102 = .ok (.aload_n 0, 1) := by decide +kernel
theorem dX3_failLink_103 : decode cX3_failLink 103 = .ok (.getfield 7, 3) := by decide +kernel
theorem dX3_failLink_106 : decode cX3_failLink 106 = .ok (.bipush 21, 2) := by decide +kernel
theorem dX3_failLink_108 : decode cX3_failLink 108 = .ok (.iload_n 3, 1) := by decide +kernel
theorem dX3_failLink_109 : decode cX3_failLink 109 = .ok (.iadd, 1) := by decide +kernel
theorem dX3_failLink_110 : decode cX3_failLink 110 = .ok (.iconst 0, 1) := by decide +kernel
theorem dX3_failLink_111 : decode cX3_failLink 111 = .ok (.iastore, 1) := by decide +kernel
theorem dX3_failLink_112 : decode cX3_failLink 112 = .ok (.iconst 0, 1) := by decide +kernel
theorem dX3_failLink_113 : decode cX3_failLink 113 = .ok (.istore 5, 2) := by decide +kernel
theorem dX3_failLink_115 : decode cX3_failLink 115 = .ok (.iload 5, 2) := by decide +kernel
theorem dX3_failLink_117 : decode cX3_failLink 117 = .ok (.iload 4, 2) := by decide +kernel
theorem dX3_failLink_119 : decode cX3_failLink 119 = .ok (.if_icmp .ge 20, 3) := by decide +kernel
theorem dX3_failLink_122 : decode cX3_failLink 122 = .ok (.aload_n 0, 1) := by decide +kernel
theorem dX3_failLink_123 : decode cX3_failLink 123 = .ok (.aload_n 0, 1) := by decide +kernel
theorem dX3_failLink_124 : decode cX3_failLink 124 = .ok (.getfield 22, 3) := by decide +kernel
theorem dX3_failLink_127 : decode cX3_failLink 127 = .ok (.iload 5, 2) := by decide +kernel
theorem dX3_failLink_129 : decode cX3_failLink 129 = .ok (.iaload, 1) := by decide +kernel
theorem dX3_failLink_130 : decode cX3_failLink 130 = .ok (.invokevirtual 63, 3) := by decide +kernel
theorem dX3_failLink_133 : decode cX3_failLink 133 = .ok (.iinc 5 1, 3) := by decide +kernel
theorem dX3_failLink_136 : decode cX3_failLink 136 = .ok (.goto (-21), 3) := by decide +kernel
theorem dX3_failLink_139 : decode cX3_failLink 139 = .ok (.iload 4, 2) := by decide +kernel
theorem dX3_failLink_141 : decode cX3_failLink 141 = .ok (.ireturn, 1) := by decide +kernel
theorem dX3_restoreLink_0 : decode cX3_restoreLink 0 = .ok (.aload_n 0, 1) := by decide +kernel
theorem dX3_restoreLink_1 : decode cX3_restoreLink 1 = .ok (.iload_n 1, 1) := by decide +kernel
theorem dX3_restoreLink_2 : decode cX3_restoreLink 2 = .ok (.iload_n 2, 1) := by decide +kernel
theorem dX3_restoreLink_3 : decode cX3_restoreLink 3 = .ok (.invokevirtual 60, 3) := by decide +kernel
theorem dX3_restoreLink_6 : decode cX3_restoreLink 6 = .ok (.ifCond .ne 10, 3) := by decide +kernel
theorem dX3_restoreLink_9 : decode cX3_restoreLink 9 = .ok (.aload_n 0, 1) := by decide +kernel
theorem dX3_restoreLink_10 : decode cX3_restoreLink 10 = .ok (.bipush (-2), 2) := by decide +kernel
theorem dX3_restoreLink_12 : decode cX3_restoreLink 12 = .ok (.invokevirtual 29, 3) := by decide +kernel
theorem dX3_restoreLink_15 : decode cX3_restoreLink 15 = .ok (.ireturn, 1) := by decide +kernel
theorem dX3_restoreLink_16 : decode cX3_restoreLink 16 = .ok (.aload_n 0, 1) := by decide +kernel
theorem dX3_restoreLink_17 : decode cX3_restoreLink 17 = .ok (.getfield 7, 3) := by decide +kernel
theorem dX3_restoreLink_20 : decode cX3_restoreLink 20 = .ok (.iconst 5, 1) := by decide +kernel
theorem dX3_restoreLink_21 : decode cX3_restoreLink 21 = .ok (.iconst 4, 1) := by decide +kernel
theorem dX3_restoreLink_22 : decode cX3_restoreLink 22 = .ok (.iload_n 1, 1) := by decide +kernel
theorem dX3_restoreLink_23 : decode cX3_restoreLink 23 = .ok (.imul, 1) := by decide +kernel
theorem dX3_restoreLink_24 : decode cX3_restoreLink 24 = .ok (.iadd, 1) := by decide +kernel
theorem dX3_restoreLink_25 : decode cX3_restoreLink 25 = .ok (.iload_n 2, 1) := by decide +kernel
theorem dX3_restoreLink_26 : decode cX3_restoreLink 26 = .ok (.iadd, 1) := by decide +kernel
theorem dX3_restoreLink_27 : decode cX3_restoreLink 27 = .ok (.iaload, 1) := by decide +kernel
theorem dX3_restoreLink_28 : decode cX3_restoreLink 28 = .ok (.iconst 1, 1) := by decide +kernel
theorem dX3_restoreLink_29 : decode cX3_restoreLink 29 = .ok (.if_icmp .ne 10, 3) := by decide +kernel
theorem dX3_restoreLink_32 : decode cX3_restoreLink 32 = .ok (.aload_n 0, 1) := by decide +kernel
theorem dX3_restoreLink_33 : decode cX3_restoreLink 33 = .ok (.bipush (-3), 2) := by decide +kernel
theorem dX3_restoreLink_35 : decode cX3_restoreLink 35 = .ok (.invokevirtual 29, 3) := by decide +kernel
theorem dX3_restoreLink_38 : decode cX3_restoreLink 38 = .ok (.ireturn, 1) := by decide +kernel
theorem dX3_restoreLink_39 : decode cX3_restoreLink 39 = .ok (.aload_n 0, 1) := by decide +kernel
theorem dX3_restoreLink_40 : decode cX3_restoreLink 40 = .ok (.invokevirtual 57, 3) := by decide +kernel
theorem dX3_restoreLink_43 : decode cX3_restoreLink 43 = .ok (.aload_n 0, 1) := by decide +kernel
theorem dX3_restoreLink_44 : decode cX3_restoreLink 44 = .ok (.invokevirtual 67, 3) := by decide +kernel
theorem dX3_restoreLink_47 : decode cX3_restoreLink 47 = .ok (.aload_n 0, 1) := by decide +kernel
theorem dX3_restoreLink_48 : decode cX3_restoreLink 48 = .ok (.getfield 7, 3) := by decide +kernel
theorem dX3_restoreLink_51 : decode cX3_restoreLink 51 = .ok (.iconst 5, 1) := by decide +kernel
theorem dX3_restoreLink_52 : decode cX3_restoreLink 52 = .ok (.iconst 4, 1) := by decide +kernel
theorem dX3_restoreLink_53 : decode cX3_restoreLink 53 = .ok (.iload_n 1, 1) := by decide +kernel
theorem dX3_restoreLink_54 : decode cX3_restoreLink 54 = .ok (.imul, 1) := by decide +kernel
theorem dX3_restoreLink_55 : decode cX3_restoreLink 55 = .ok (.iadd, 1) := by decide +kernel
theorem dX3_restoreLink_56 : decode cX3_restoreLink 56 = .ok (.iload_n 2, 1) := by decide +kernel
theorem dX3_restoreLink_57 : decode cX3_restoreLink 57 = .ok (.iadd, 1) := by decide +kernel
theorem dX3_restoreLink_58 : decode cX3_restoreLink 58 = .ok (.iconst 1, 1) := by decide +kernel
theorem dX3_restoreLink_59 : decode cX3_restoreLink 59 = .ok (.iastore, 1) := by decide +kernel
theorem dX3_restoreLink_60 : decode cX3_restoreLink 60 = .ok (.aload_n 0, 1) := by decide +kernel
theorem dX3_restoreLink_61 : decode cX3_restoreLink 61 = .ok (.invokevirtual 70, 3) := by decide +kernel
theorem dX3_restoreLink_64 : decode cX3_restoreLink 64 = .ok (.ireturn, 1) := by decide +kernel
theorem dX3_delivers_0 : decode cX3_delivers 0 = .ok (.iload_n 1, 1) := by decide +kernel
theorem dX3_delivers_1 : decode cX3_delivers 1 = .ok (.sipush 128, 3) := by decide +kernel
theorem dX3_delivers_4 : decode cX3_delivers 4 = .ok (.irem, 1) := by decide +kernel
theorem dX3_delivers_5 : decode cX3_delivers 5 = .ok (.istore_n 2, 1) := by decide +kernel
theorem dX3_delivers_6 : decode cX3_delivers 6 = .ok (.aload_n 0, 1) := by decide +kernel
theorem dX3_delivers_7 : decode cX3_delivers 7 = .ok (.getfield 7, 3) := by decide +kernel
theorem dX3_delivers_10 : decode cX3_delivers 10 = .ok (.sipush 465, 3) := by decide +kernel
theorem dX3_delivers_13 : decode cX3_delivers 13 = .ok (.dup2, 1) := by decide +kernel
theorem dX3_delivers_14 : decode cX3_delivers 14 = .ok (.iaload, 1) := by decide +kernel
theorem dX3_delivers_15 : decode cX3_delivers 15 = .ok (.iconst 1, 1) := by decide +kernel
theorem dX3_delivers_16 : decode cX3_delivers 16 = .ok (.iadd, 1) := by decide +kernel
theorem dX3_delivers_17 : decode cX3_delivers 17 = .ok (.iastore, 1) := by decide +kernel
theorem dX3_delivers_18 : decode cX3_delivers 18 = .ok (.aload_n 0, 1) := by decide +kernel
theorem dX3_delivers_19 : decode cX3_delivers 19 = .ok (.getfield 7, 3) := by decide +kernel
theorem dX3_delivers_22 : decode cX3_delivers 22 = .ok (.sipush 466, 3) := by decide +kernel
theorem dX3_delivers_25 : decode cX3_delivers 25 = .ok (.dup2, 1) := by decide +kernel
theorem dX3_delivers_26 : decode cX3_delivers 26 = .ok (.iaload, 1) := by decide +kernel
theorem dX3_delivers_27 : decode cX3_delivers 27 = .ok (.aload_n 0, 1) := by decide +kernel
theorem dX3_delivers_28 : decode cX3_delivers 28 = .ok (.getfield 7, 3) := by decide +kernel
theorem dX3_delivers_31 : decode cX3_delivers 31 = .ok (.sipush 366, 3) := by decide +kernel
theorem dX3_delivers_34 : decode cX3_delivers 34 = .ok (.iload_n 2, 1) := by decide +kernel
theorem dX3_delivers_35 : decode cX3_delivers 35 = .ok (.iadd, 1) := by decide +kernel
theorem dX3_delivers_36 : decode cX3_delivers 36 = .ok (.iaload, 1) := by decide +kernel
theorem dX3_delivers_37 : decode cX3_delivers 37 = .ok (.iload_n 1, 1) := by decide +kernel
theorem dX3_delivers_38 : decode cX3_delivers 38 = .ok (.if_icmp .le 7, 3) := by decide +kernel
theorem dX3_delivers_41 : decode cX3_delivers 41 = .ok (.iconst 1, 1) := by decide +kernel
theorem dX3_delivers_42 : decode cX3_delivers 42 = .ok (.goto 4, 3) := by decide +kernel
theorem dX3_delivers_45 : decode cX3_delivers 45 = .ok (.iconst 0, 1) := by decide +kernel
theorem dX3_delivers_46 : decode cX3_delivers 46 = .ok (.iadd, 1) := by decide +kernel
theorem dX3_delivers_47 : decode cX3_delivers 47 = .ok (.iastore, 1) := by decide +kernel
theorem dX3_delivers_48 : decode cX3_delivers 48 = .ok (.aload_n 0, 1) := by decide +kernel
theorem dX3_delivers_49 : decode cX3_delivers 49 = .ok (.getfield 7, 3) := by decide +kernel
theorem dX3_delivers_52 : decode cX3_delivers 52 = .ok (.sipush 366, 3) := by decide +kernel
theorem dX3_delivers_55 : decode cX3_delivers 55 = .ok (.iload_n 2, 1) := by decide +kernel
theorem dX3_delivers_56 : decode cX3_delivers 56 = .ok (.iadd, 1) := by decide +kernel
theorem dX3_delivers_57 : decode cX3_delivers 57 = .ok (.aload_n 0, 1) := by decide +kernel
theorem dX3_delivers_58 : decode cX3_delivers 58 = .ok (.getfield 7, 3) := by decide +kernel
theorem dX3_delivers_61 : decode cX3_delivers 61 = .ok (.sipush 366, 3) := by decide +kernel
theorem dX3_delivers_64 : decode cX3_delivers 64 = .ok (.iload_n 2, 1) := by decide +kernel
theorem dX3_delivers_65 : decode cX3_delivers 65 = .ok (.iadd, 1) := by decide +kernel
theorem dX3_delivers_66 : decode cX3_delivers 66 = .ok (.iaload, 1) := by decide +kernel
theorem dX3_delivers_67 : decode cX3_delivers 67 = .ok (.iload_n 1, 1) := by decide +kernel
theorem dX3_delivers_68 : decode cX3_delivers 68 = .ok (.if_icmp .le 16, 3) := by decide +kernel
theorem dX3_delivers_71 : decode cX3_delivers 71 = .ok (.aload_n 0, 1) := by decide +kernel
theorem dX3_delivers_72 : decode cX3_delivers 72 = .ok (.getfield 7, 3) := by decide +kernel
theorem dX3_delivers_75 : decode cX3_delivers 75 = .ok (.sipush 366, 3) := by decide +kernel
theorem dX3_delivers_78 : decode cX3_delivers 78 = .ok (.iload_n 2, 1) := by decide +kernel
theorem dX3_delivers_79 : decode cX3_delivers 79 = .ok (.iadd, 1) := by decide +kernel
theorem dX3_delivers_80 : decode cX3_delivers 80 = .ok (.iaload, 1) := by decide +kernel
theorem dX3_delivers_81 : decode cX3_delivers 81 = .ok (.goto 4, 3) := by decide +kernel
theorem dX3_delivers_84 : decode cX3_delivers 84 = .ok (.iload_n 1, 1) := by decide +kernel
theorem dX3_delivers_85 : decode cX3_delivers 85 = .ok (.iastore, 1) := by decide +kernel
theorem dX3_delivers_86 : decode cX3_delivers 86 = .ok (.return_, 1) := by decide +kernel
theorem dX3_acknowledge_0 : decode cX3_acknowledge 0 = .ok (.aload_n 0, 1) := by decide +kernel
theorem dX3_acknowledge_1 : decode cX3_acknowledge 1 = .ok (.iload_n 1, 1) := by decide +kernel
theorem dX3_acknowledge_2 : decode cX3_acknowledge 2 = .ok (.iload_n 2, 1) := by decide +kernel
theorem dX3_acknowledge_3 : decode cX3_acknowledge 3 = .ok (.invokevirtual 60, 3) := by decide +kernel
theorem dX3_acknowledge_6 : decode cX3_acknowledge 6 = .ok (.ifCond .eq 13, 3) := by decide +kernel
theorem dX3_acknowledge_9 : decode cX3_acknowledge 9 = .ok (.iload_n 3, 1) := by decide +kernel
theorem dX3_acknowledge_10 : decode cX3_acknowledge 10 = .ok (.iconst 1, 1) := by decide +kernel
theorem dX3_acknowledge_11 : decode cX3_acknowledge 11 = .ok (.bipush 10, 2) := by decide +kernel
theorem dX3_acknowledge_13 : decode cX3_acknowledge 13 = .ok (.invokestatic 33, 3) := by decide +kernel
theorem dX3_acknowledge_16 : decode cX3_acknowledge 16 = .ok (.ifCond .ne 10, 3) := by decide +kernel
theorem dX3_acknowledge_19 : decode cX3_acknowledge 19 = .ok (.aload_n 0, 1) := by decide +kernel
theorem dX3_acknowledge_20 : decode cX3_acknowledge 20 = .ok (.bipush (-2), 2) := by decide +kernel
theorem dX3_acknowledge_22 : decode cX3_acknowledge 22 = .ok (.invokevirtual 29, 3) := by decide +kernel
theorem dX3_acknowledge_25 : decode cX3_acknowledge 25 = .ok (.ireturn, 1) := by decide +kernel
theorem dX3_acknowledge_26 : decode cX3_acknowledge 26 = .ok (.aload_n 0, 1) := by decide +kernel
theorem dX3_acknowledge_27 : decode cX3_acknowledge 27 = .ok (.invokevirtual 57, 3) := by decide +kernel
theorem dX3_acknowledge_30 : decode cX3_acknowledge 30 = .ok (.iconst 4, 1) := by decide +kernel
theorem dX3_acknowledge_31 : decode cX3_acknowledge 31 = .ok (.iload_n 1, 1) := by decide +kernel
theorem dX3_acknowledge_32 : decode cX3_acknowledge 32 = .ok (.imul, 1) := by decide +kernel
theorem dX3_acknowledge_33 : decode cX3_acknowledge 33 = .ok (.iload_n 2, 1) := by decide +kernel
theorem dX3_acknowledge_34 : decode cX3_acknowledge 34 = .ok (.iadd, 1) := by decide +kernel
theorem dX3_acknowledge_35 : decode cX3_acknowledge 35 = .ok (.istore 4, 2) := by decide +kernel
theorem dX3_acknowledge_37 : decode cX3_acknowledge 37 = .ok (.aload_n 0, 1) := by decide +kernel
theorem dX3_acknowledge_38 : decode cX3_acknowledge 38 = .ok (.getfield 7, 3) := by decide +kernel
theorem dX3_acknowledge_41 : decode cX3_acknowledge 41 = .ok (.bipush 21, 2) := by decide +kernel
theorem dX3_acknowledge_43 : decode cX3_acknowledge 43 = .ok (.iload 4, 2) := by decide +kernel
theorem dX3_acknowledge_45 : decode cX3_acknowledge 45 = .ok (.iadd, 1) := by decide +kernel
theorem dX3_acknowledge_46 : decode cX3_acknowledge 46 = .ok (.iaload, 1) := by decide +kernel
theorem dX3_acknowledge_47 : decode cX3_acknowledge 47 = .ok (.istore 5, 2) := by decide +kernel
theorem dX3_acknowledge_49 : decode cX3_acknowledge 49 = .ok (.iload 5, 2) := by decide +kernel
theorem dX3_acknowledge_51 : decode cX3_acknowledge 51 = .ok (.iload_n 3, 1) := by decide +kernel
theorem dX3_acknowledge_52 : decode cX3_acknowledge 52 = .ok (.if_icmp .ge 8, 3) := by decide +kernel
theorem dX3_acknowledge_55 : decode cX3_acknowledge 55 = .ok (.iload 5, 2) := by decide +kernel
theorem dX3_acknowledge_57 : decode cX3_acknowledge 57 = .ok (.goto 4, 3) := by decide +kernel
theorem dX3_acknowledge_60 : decode cX3_acknowledge 60 = .ok (.iload_n 3, 1) := by decide +kernel
theorem dX3_acknowledge_61 : decode cX3_acknowledge 61 = .ok (.istore 6, 2) := by decide +kernel
theorem dX3_acknowledge_63 : decode cX3_acknowledge 63 = .ok (.iconst 0, 1) := by decide +kernel
theorem dX3_acknowledge_64 : decode cX3_acknowledge 64 = .ok (.istore 7, 2) := by decide +kernel
theorem dX3_acknowledge_66 : decode cX3_acknowledge 66 = .ok (.iload 7, 2) := by decide +kernel
theorem dX3_acknowledge_68 : decode cX3_acknowledge 68 = .ok (.iload 6, 2) := by decide +kernel
theorem dX3_acknowledge_70 : decode cX3_acknowledge 70 = .ok (.if_icmp .ge 29, 3) := by decide +kernel
theorem dX3_acknowledge_73 : decode cX3_acknowledge 73 = .ok (.aload_n 0, 1) := by decide +kernel
theorem dX3_acknowledge_74 : decode cX3_acknowledge 74 = .ok (.aload_n 0, 1) := by decide +kernel
theorem dX3_acknowledge_75 : decode cX3_acknowledge 75 = .ok (.getfield 7, 3) := by decide +kernel
theorem dX3_acknowledge_78 : decode cX3_acknowledge 78 = .ok (.bipush 37, 2) := by decide +kernel
theorem dX3_acknowledge_80 : decode cX3_acknowledge 80 = .ok (.bipush 10, 2) := by decide +kernel
theorem dX3_acknowledge_82 : decode cX3_acknowledge 82 = .ok (.iload 4, 2) := by decide +kernel
theorem dX3_acknowledge_84 : decode cX3_acknowledge 84 = .ok (.imul, 1) := by decide +kernel
theorem dX3_acknowledge_85 : decode cX3_acknowledge 85 = .ok (.iadd, 1) := by decide +kernel
theorem dX3_acknowledge_86 : decode cX3_acknowledge 86 = .ok (.iload 7, 2) := by decide +kernel
theorem dX3_acknowledge_88 : decode cX3_acknowledge 88 = .ok (.iadd, 1) := by decide +kernel
theorem dX3_acknowledge_89 : decode cX3_acknowledge 89 = .ok (.iaload, 1) := by decide +kernel
theorem dX3_acknowledge_90 : decode cX3_acknowledge 90 = .ok (.invokevirtual 74, 3) := by decide +kernel
theorem dX3_acknowledge_93 : decode cX3_acknowledge 93 = .ok (.iinc 7 1, 3) := by decide +kernel
theorem dX3_acknowledge_96 : decode cX3_acknowledge 96 = .ok (.goto (-30), 3) := by decide +kernel
theorem dX3_acknowledge_99 : decode cX3_acknowledge 99 = .ok (.iload 6, 2) := by decide +kernel
theorem dX3_acknowledge_101 : decode cX3_acknowledge 101 = .ok (.istore 7, 2) := by decide +kernel
theorem dX3_acknowledge_103 : decode cX3_acknowledge 103 = .ok (.iload 7, 2) := by decide +kernel
theorem dX3_acknowledge_105 : decode cX3_acknowledge 105 = .ok (.iload 5, 2) := by decide +kernel
theorem dX3_acknowledge_107 : decode cX3_acknowledge 107 = .ok (.if_icmp .ge 44, 3) := by decide +kernel
theorem dX3_acknowledge_110 : decode cX3_acknowledge 110 = .ok (.aload_n 0, 1) := by decide +kernel
theorem dX3_acknowledge_111 : decode cX3_acknowledge 111 = .ok (.getfield 7, 3) := by decide +kernel
theorem dX3_acknowledge_114 : decode cX3_acknowledge 114 = .ok (.bipush 37, 2) := by decide +kernel
theorem dX3_acknowledge_116 : decode cX3_acknowledge 116 = .ok (.bipush 10, 2) := by decide +kernel
theorem dX3_acknowledge_118 : decode cX3_acknowledge 118 = .ok (.iload 4, 2) := by decide +kernel
theorem dX3_acknowledge_120 : decode cX3_acknowledge 120 = .ok (.imul, 1) := by decide +kernel
theorem dX3_acknowledge_121 : decode cX3_acknowledge 121 = .ok (.iadd, 1) := by decide +kernel
theorem dX3_acknowledge_122 : decode cX3_acknowledge 122 = .ok (.iload 7, 2) := by decide +kernel
theorem dX3_acknowledge_124 : decode cX3_acknowledge 124 = .ok (.iadd, 1) := by decide +kernel
theorem dX3_acknowledge_125 : decode cX3_acknowledge 125 = .ok (.iload 6, 2) := by decide +kernel
theorem dX3_acknowledge_127 : decode cX3_acknowledge 127 = .ok (.isub, 1) := by decide +kernel
theorem dX3_acknowledge_128 : decode cX3_acknowledge 128 = .ok (.aload_n 0, 1) := by decide +kernel
theorem dX3_acknowledge_129 : decode cX3_acknowledge 129 = .ok (.getfield 7, 3) := by decide +kernel
theorem dX3_acknowledge_132 : decode cX3_acknowledge 132 = .ok (.bipush 37, 2) := by decide +kernel
theorem dX3_acknowledge_134 : decode cX3_acknowledge 134 = .ok (.bipush 10, 2) := by decide +kernel
theorem dX3_acknowledge_136 : decode cX3_acknowledge 136 = .ok (.iload 4, 2) := by decide +kernel
theorem dX3_acknowledge_138 : decode cX3_acknowledge 138 = .ok (.imul, 1) := by decide +kernel
theorem dX3_acknowledge_139 : decode cX3_acknowledge 139 = .ok (.iadd, 1) := by decide +kernel
theorem dX3_acknowledge_140 : decode cX3_acknowledge 140 = .ok (.iload 7, 2) := by decide +kernel
theorem dX3_acknowledge_142 : decode cX3_acknowledge 142 = .ok (.iadd, 1) := by decide +kernel
theorem dX3_acknowledge_143 : decode cX3_acknowledge 143 = .ok (.iaload, 1) := by decide +kernel
theorem dX3_acknowledge_144 : decode cX3_acknowledge 144 = .ok (.iastore, 1) := by decide +kernel
theorem dX3_acknowledge_145 : decode cX3_acknowledge 145 = .ok (.iinc 7 1, 3) := by decide +kernel
theorem dX3_acknowledge_148 : decode cX3_acknowledge 148 = .ok (.goto (-45), 3) := by decide +kernel
theorem dX3_acknowledge_151 : decode cX3_acknowledge 151 = .ok (.aload_n 0, 1) := by decide +kernel
theorem dX3_acknowledge_152 : decode cX3_acknowledge 152 = .ok (.getfield 7, 3) := by decide +kernel
theorem dX3_acknowledge_155 : decode cX3_acknowledge 155 = .ok (.bipush 21, 2) := by decide +kernel
theorem dX3_acknowledge_157 : decode cX3_acknowledge 157 = .ok (.iload 4, 2) := by decide +kernel
theorem dX3_acknowledge_159 : decode cX3_acknowledge 159 = .ok (.iadd, 1) := by decide +kernel
theorem dX3_acknowledge_160 : decode cX3_acknowledge 160 = .ok (.dup2, 1) := by decide +kernel
theorem dX3_acknowledge_161 : decode cX3_acknowledge 161 = .ok (.iaload, 1) := by decide +kernel
theorem dX3_acknowledge_162 : decode cX3_acknowledge 162 = .ok (.iload 6, 2) := by decide +kernel
theorem dX3_acknowledge_164 : decode cX3_acknowledge 164 = .ok (.isub, 1) := by decide +kernel
theorem dX3_acknowledge_165 : decode cX3_acknowledge 165 = .ok (.iastore, 1) := by decide +kernel
theorem dX3_acknowledge_166 : decode cX3_acknowledge 166 = .ok (.iload 6, 2) := by decide +kernel
theorem dX3_acknowledge_168 : decode cX3_acknowledge 168 = .ok (.ireturn, 1) := by decide +kernel
theorem dX3_queueLength_0 : decode cX3_queueLength 0 = .ok (.aload_n 0, 1) := by decide +kernel
theorem dX3_queueLength_1 : decode cX3_queueLength 1 = .ok (.iload_n 1, 1) := by decide +kernel
theorem dX3_queueLength_2 : decode cX3_queueLength 2 = .ok (.iload_n 2, 1) := by decide +kernel
theorem dX3_queueLength_3 : decode cX3_queueLength 3 = .ok (.invokevirtual 60, 3) := by decide +kernel
theorem dX3_queueLength_6 : decode cX3_queueLength 6 = .ok (.ifCond .eq 19, 3) := by decide +kernel
theorem dX3_queueLength_9 : decode cX3_queueLength 9 = .ok (.aload_n 0, 1) := by decide +kernel
theorem dX3_queueLength_10 : decode cX3_queueLength 10 = .ok (.getfield 7, 3) := by decide +kernel
theorem dX3_queueLength_13 : decode cX3_queueLength 13 = .ok (.bipush 21, 2) := by decide +kernel
theorem dX3_queueLength_15 : decode cX3_queueLength 15 = .ok (.iconst 4, 1) := by decide +kernel
theorem dX3_queueLength_16 : decode cX3_queueLength 16 = .ok (.iload_n 1, 1) := by decide +kernel
theorem dX3_queueLength_17 : decode cX3_queueLength 17 = .ok (.imul, 1) := by decide +kernel
theorem dX3_queueLength_18 : decode cX3_queueLength 18 = .ok (.iadd, 1) := by decide +kernel
theorem dX3_queueLength_19 : decode cX3_queueLength 19 = .ok (.iload_n 2, 1) := by decide +kernel
theorem dX3_queueLength_20 : decode cX3_queueLength 20 = .ok (.iadd, 1) := by decide +kernel
theorem dX3_queueLength_21 : decode cX3_queueLength 21 = .ok (.iaload, 1) := by decide +kernel
theorem dX3_queueLength_22 : decode cX3_queueLength 22 = .ok (.goto 9, 3) := by decide +kernel
theorem dX3_queueLength_25 : decode cX3_queueLength 25 = .ok (.aload_n 0, 1) := by decide +kernel
theorem dX3_queueLength_26 : decode cX3_queueLength 26 = .ok (.bipush (-2), 2) := by decide +kernel
theorem dX3_queueLength_28 : decode cX3_queueLength 28 = .ok (.invokevirtual 29, 3) := by decide +kernel
theorem dX3_queueLength_31 : decode cX3_queueLength 31 = .ok (.ireturn, 1) := by decide +kernel
theorem dX3_queued_0 : decode cX3_queued 0 = .ok (.aload_n 0, 1) := by decide +kernel
theorem dX3_queued_1 : decode cX3_queued 1 = .ok (.iload_n 1, 1) := by decide +kernel
theorem dX3_queued_2 : decode cX3_queued 2 = .ok (.iload_n 2, 1) := by decide +kernel
theorem dX3_queued_3 : decode cX3_queued 3 = .ok (.invokevirtual 60, 3) := by decide +kernel
theorem dX3_queued_6 : decode cX3_queued 6 = .ok (.ifCond .eq 7, 3) := by decide +kernel
theorem dX3_queued_9 : decode cX3_queued 9 = .ok (.iload_n 3, 1) := by decide +kernel
theorem dX3_queued_10 : decode cX3_queued 10 = .ok (.ifCond .ge 10, 3) := by decide +kernel
theorem dX3_queued_13 : decode cX3_queued 13 = .ok (.aload_n 0, 1) := by decide +kernel
theorem dX3_queued_14 : decode cX3_queued 14 = .ok (.bipush (-2), 2) := by decide +kernel
theorem dX3_queued_16 : decode cX3_queued 16 = .ok (.invokevirtual 29, 3) := by decide +kernel
theorem dX3_queued_19 : decode cX3_queued 19 = .ok (.ireturn, 1) := by decide +kernel
theorem dX3_queued_20 : decode cX3_queued 20 = .ok (.iconst 4, 1) := by decide +kernel
theorem dX3_queued_21 : decode cX3_queued 21 = .ok (.iload_n 1, 1) := by decide +kernel
theorem dX3_queued_22 : decode cX3_queued 22 = .ok (.imul, 1) := by decide +kernel
theorem dX3_queued_23 : decode cX3_queued 23 = .ok (.iload_n 2, 1) := by decide +kernel
theorem dX3_queued_24 : decode cX3_queued 24 = .ok (.iadd, 1) := by decide +kernel
theorem dX3_queued_25 : decode cX3_queued 25 = .ok (.istore 4, 2) := by decide +kernel
theorem dX3_queued_27 : decode cX3_queued 27 = .ok (.iload_n 3, 1) := by decide +kernel
theorem dX3_queued_28 : decode cX3_queued 28 = .ok (.aload_n 0, 1) := by decide +kernel
theorem dX3_queued_29 : decode cX3_queued 29 = .ok (.getfield 7, 3) := by decide +kernel
theorem dX3_queued_32 : decode cX3_queued 32 = .ok (.bipush 21, 2) := by decide +kernel
theorem dX3_queued_34 : decode cX3_queued 34 = .ok (.iload 4, 2) := by decide +kernel
theorem dX3_queued_36 : decode cX3_queued 36 = .ok (.iadd, 1) := by decide +kernel
theorem dX3_queued_37 : decode cX3_queued 37 = .ok (.iaload, 1) := by decide +kernel
theorem dX3_queued_38 : decode cX3_queued 38 = .ok (.if_icmp .ge 25, 3) := by decide +kernel
theorem dX3_queued_41 : decode cX3_queued 41 = .ok (.aload_n 0, 1) := by decide +kernel
theorem dX3_queued_42 : decode cX3_queued 42 = .ok (.getfield 7, 3) := by decide +kernel
theorem dX3_queued_45 : decode cX3_queued 45 = .ok (.bipush 37, 2) := by decide +kernel
theorem dX3_queued_47 : decode cX3_queued 47 = .ok (.bipush 10, 2) := by decide +kernel
theorem dX3_queued_49 : decode cX3_queued 49 = .ok (.iload 4, 2) := by decide +kernel
theorem dX3_queued_51 : decode cX3_queued 51 = .ok (.imul, 1) := by decide +kernel
theorem dX3_queued_52 : decode cX3_queued 52 = .ok (.iadd, 1) := by decide +kernel
theorem dX3_queued_53 : decode cX3_queued 53 = .ok (.iload_n 3, 1) := by decide +kernel
theorem dX3_queued_54 : decode cX3_queued 54 = .ok (.iadd, 1) := by decide +kernel
theorem dX3_queued_55 : decode cX3_queued 55 = .ok (.iaload, 1) := by decide +kernel
theorem dX3_queued_56 : decode cX3_queued 56 = .ok (.sipush 128, 3) := by decide +kernel
theorem dX3_queued_59 : decode cX3_queued 59 = .ok (.idiv, 1) := by decide +kernel
theorem dX3_queued_60 : decode cX3_queued 60 = .ok (.goto 4, 3) := by decide +kernel
theorem dX3_queued_63 : decode cX3_queued 63 = .ok (.iconst (-1), 1) := by decide +kernel
theorem dX3_queued_64 : decode cX3_queued 64 = .ok (.ireturn, 1) := by decide +kernel
theorem dX3_congestion_0 : decode cX3_congestion 0 = .ok (.aload_n 0, 1) := by decide +kernel
theorem dX3_congestion_1 : decode cX3_congestion 1 = .ok (.iload_n 1, 1) := by decide +kernel
theorem dX3_congestion_2 : decode cX3_congestion 2 = .ok (.iload_n 2, 1) := by decide +kernel
theorem dX3_congestion_3 : decode cX3_congestion 3 = .ok (.invokevirtual 60, 3) := by decide +kernel
theorem dX3_congestion_6 : decode cX3_congestion 6 = .ok (.ifCond .eq 15, 3) := by decide +kernel
theorem dX3_congestion_9 : decode cX3_congestion 9 = .ok (.aload_n 0, 1) := by decide +kernel
theorem dX3_congestion_10 : decode cX3_congestion 10 = .ok (.iconst 4, 1) := by decide +kernel
theorem dX3_congestion_11 : decode cX3_congestion 11 = .ok (.iload_n 1, 1) := by decide +kernel
theorem dX3_congestion_12 : decode cX3_congestion 12 = .ok (.imul, 1) := by decide +kernel
theorem dX3_congestion_13 : decode cX3_congestion 13 = .ok (.iload_n 2, 1) := by decide +kernel
theorem dX3_congestion_14 : decode cX3_congestion 14 = .ok (.iadd, 1) := by decide +kernel
theorem dX3_congestion_15 : decode cX3_congestion 15 = .ok (.invokevirtual 77, 3) := by decide +kernel
theorem dX3_congestion_18 : decode cX3_congestion 18 = .ok (.goto 9, 3) := by decide +kernel
theorem dX3_congestion_21 : decode cX3_congestion 21 = .ok (.aload_n 0, 1) := by decide +kernel
theorem dX3_congestion_22 : decode cX3_congestion 22 = .ok (.bipush (-2), 2) := by decide +kernel
theorem dX3_congestion_24 : decode cX3_congestion 24 = .ok (.invokevirtual 29, 3) := by decide +kernel
theorem dX3_congestion_27 : decode cX3_congestion 27 = .ok (.ireturn, 1) := by decide +kernel
theorem dX3_isActive_0 : decode cX3_isActive 0 = .ok (.aload_n 0, 1) := by decide +kernel
theorem dX3_isActive_1 : decode cX3_isActive 1 = .ok (.iload_n 1, 1) := by decide +kernel
theorem dX3_isActive_2 : decode cX3_isActive 2 = .ok (.iload_n 2, 1) := by decide +kernel
theorem dX3_isActive_3 : decode cX3_isActive 3 = .ok (.invokevirtual 60, 3) := by decide +kernel
theorem dX3_isActive_6 : decode cX3_isActive 6 = .ok (.ifCond .eq 18, 3) := by decide +kernel
theorem dX3_isActive_9 : decode cX3_isActive 9 = .ok (.aload_n 0, 1) := by decide +kernel
theorem dX3_isActive_10 : decode cX3_isActive 10 = .ok (.getfield 7, 3) := by decide +kernel
theorem dX3_isActive_13 : decode cX3_isActive 13 = .ok (.iconst 5, 1) := by decide +kernel
theorem dX3_isActive_14 : decode cX3_isActive 14 = .ok (.iconst 4, 1) := by decide +kernel
theorem dX3_isActive_15 : decode cX3_isActive 15 = .ok (.iload_n 1, 1) := by decide +kernel
theorem dX3_isActive_16 : decode cX3_isActive 16 = .ok (.imul, 1) := by decide +kernel
theorem dX3_isActive_17 : decode cX3_isActive 17 = .ok (.iadd, 1) := by decide +kernel
theorem dX3_isActive_18 : decode cX3_isActive 18 = .ok (.iload_n 2, 1) := by decide +kernel
theorem dX3_isActive_19 : decode cX3_isActive 19 = .ok (.iadd, 1) := by decide +kernel
theorem dX3_isActive_20 : decode cX3_isActive 20 = .ok (.iaload, 1) := by decide +kernel
theorem dX3_isActive_21 : decode cX3_isActive 21 = .ok (.goto 9, 3) := by decide +kernel
theorem dX3_isActive_24 : decode cX3_isActive 24 = .ok (.aload_n 0, 1) := by decide +kernel
theorem dX3_isActive_25 : decode cX3_isActive 25 = .ok (.bipush (-2), 2) := by decide +kernel
theorem dX3_isActive_27 : decode cX3_isActive 27 = .ok (.invokevirtual 29, 3) := by decide +kernel
theorem dX3_isActive_30 : decode cX3_isActive 30 = .ok (.ireturn, 1) := by decide +kernel
theorem dX3_isDestination_0 : decode cX3_isDestination 0 = .ok (.iload_n 0, 1) := by decide +kernel
theorem dX3_isDestination_1 : decode cX3_isDestination 1 = .ok (.iconst 0, 1) := by decide +kernel
theorem dX3_isDestination_2 : decode cX3_isDestination 2 = .ok (.iconst 5, 1) := by decide +kernel
theorem dX3_isDestination_3 : decode cX3_isDestination 3 = .ok (.invokestatic 33, 3) := by decide +kernel
theorem dX3_isDestination_6 : decode cX3_isDestination 6 = .ok (.ireturn, 1) := by decide +kernel
theorem dX3_addRoute_0 : decode cX3_addRoute 0 = .ok (.iload_n 1, 1) := by decide +kernel
theorem dX3_addRoute_1 : decode cX3_addRoute 1 = .ok (.invokestatic 80, 3) := by decide +kernel
theorem dX3_addRoute_4 : decode cX3_addRoute 4 = .ok (.ifCond .eq 20, 3) := by decide +kernel
theorem dX3_addRoute_7 : decode cX3_addRoute 7 = .ok (.aload_n 0, 1) := by decide +kernel
theorem dX3_addRoute_8 : decode cX3_addRoute 8 = .ok (.iload_n 2, 1) := by decide +kernel
theorem dX3_addRoute_9 : decode cX3_addRoute 9 = .ok (.invokevirtual 37, 3) := by decide +kernel
theorem dX3_addRoute_12 : decode cX3_addRoute 12 = .ok (.ifCond .eq 12, 3) := by decide +kernel
theorem dX3_addRoute_15 : decode cX3_addRoute 15 = .ok (.iload_n 3, 1) := by decide +kernel
theorem dX3_addRoute_16 : decode cX3_addRoute 16 = .ok (.iconst 0, 1) := by decide +kernel
theorem dX3_addRoute_17 : decode cX3_addRoute 17 = .ok (.iconst 2, 1) := by decide +kernel
theorem dX3_addRoute_18 : decode cX3_addRoute 18 = .ok (.invokestatic 33, 3) := by decide +kernel
theorem dX3_addRoute_21 : decode cX3_addRoute 21 = .ok (.ifCond .ne 10, 3) := by decide +kernel
theorem dX3_addRoute_24 : decode cX3_addRoute 24 = .ok (.aload_n 0, 1) := by decide +kernel
theorem dX3_addRoute_25 : decode cX3_addRoute 25 = .ok (.bipush (-2), 2) := by decide +kernel
theorem dX3_addRoute_27 : decode cX3_addRoute 27 = .ok (.invokevirtual 29, 3) := by decide +kernel
theorem dX3_addRoute_30 : decode cX3_addRoute 30 = .ok (.ireturn, 1) := by decide +kernel
theorem dX3_addRoute_31 : decode cX3_addRoute 31 = .ok (.iconst 4, 1) := by decide +kernel
theorem dX3_addRoute_32 : decode cX3_addRoute 32 = .ok (.iload_n 1, 1) := by decide +kernel
theorem dX3_addRoute_33 : decode cX3_addRoute 33 = .ok (.imul, 1) := by decide +kernel
theorem dX3_addRoute_34 : decode cX3_addRoute 34 = .ok (.iload_n 2, 1) := by decide +kernel
theorem dX3_addRoute_35 : decode cX3_addRoute 35 = .ok (.iadd, 1) := by decide +kernel
theorem dX3_addRoute_36 : decode cX3_addRoute 36 = .ok (.istore 4, 2) := by decide +kernel
theorem dX3_addRoute_38 : decode cX3_addRoute 38 = .ok (.aload_n 0, 1) := by decide +kernel
theorem dX3_addRoute_39 : decode cX3_addRoute 39 = .ok (.getfield 7, 3) := by decide +kernel
theorem dX3_addRoute_42 : decode cX3_addRoute 42 = .ok (.sipush 197, 3) := by decide +kernel
theorem dX3_addRoute_45 : decode cX3_addRoute 45 = .ok (.iload 4, 2) := by decide +kernel
theorem dX3_addRoute_47 : decode cX3_addRoute 47 = .ok (.iadd, 1) := by decide +kernel
theorem dX3_addRoute_48 : decode cX3_addRoute 48 = .ok (.iaload, 1) := by decide +kernel
theorem dX3_addRoute_49 : decode cX3_addRoute 49 = .ok (.iconst (-1), 1) := by decide +kernel
theorem dX3_addRoute_50 : decode cX3_addRoute 50 = .ok (.if_icmp .eq 10, 3) := by decide +kernel
theorem dX3_addRoute_53 : decode cX3_addRoute 53 = .ok (.aload_n 0, 1) := by decide +kernel
theorem dX3_addRoute_54 : decode cX3_addRoute 54 = .ok (.bipush (-3), 2) := by decide +kernel
theorem dX3_addRoute_56 : decode cX3_addRoute 56 = .ok (.invokevirtual 29, 3) := by decide +kernel
theorem dX3_addRoute_59 : decode cX3_addRoute 59 = .ok (.ireturn, 1) := by decide +kernel
theorem dX3_addRoute_60 : decode cX3_addRoute 60 = .ok (.aload_n 0, 1) := by decide +kernel
theorem dX3_addRoute_61 : decode cX3_addRoute 61 = .ok (.invokevirtual 57, 3) := by decide +kernel
theorem dX3_addRoute_64 : decode cX3_addRoute 64 = .ok (.aload_n 0, 1) := by decide +kernel
theorem dX3_addRoute_65 : decode cX3_addRoute 65 = .ok (.invokevirtual 67, 3) := by decide +kernel
theorem dX3_addRoute_68 : decode cX3_addRoute 68 = .ok (.aload_n 0, 1) := by decide +kernel
theorem dX3_addRoute_69 : decode cX3_addRoute 69 = .ok (.getfield 7, 3) := by decide +kernel
theorem dX3_addRoute_72 : decode cX3_addRoute 72 = .ok (.sipush 197, 3) := by decide +kernel
theorem dX3_addRoute_75 : decode cX3_addRoute 75 = .ok (.iload 4, 2) := by decide +kernel
theorem dX3_addRoute_77 : decode cX3_addRoute 77 = .ok (.iadd, 1) := by decide +kernel
theorem dX3_addRoute_78 : decode cX3_addRoute 78 = .ok (.iconst 0, 1) := by decide +kernel
theorem dX3_addRoute_79 : decode cX3_addRoute 79 = .ok (.iastore, 1) := by decide +kernel
theorem dX3_addRoute_80 : decode cX3_addRoute 80 = .ok (.aload_n 0, 1) := by decide +kernel
theorem dX3_addRoute_81 : decode cX3_addRoute 81 = .ok (.getfield 7, 3) := by decide +kernel
theorem dX3_addRoute_84 : decode cX3_addRoute 84 = .ok (.sipush 221, 3) := by decide +kernel
theorem dX3_addRoute_87 : decode cX3_addRoute 87 = .ok (.iload 4, 2) := by decide +kernel
theorem dX3_addRoute_89 : decode cX3_addRoute 89 = .ok (.iadd, 1) := by decide +kernel
theorem dX3_addRoute_90 : decode cX3_addRoute 90 = .ok (.iload_n 3, 1) := by decide +kernel
theorem dX3_addRoute_91 : decode cX3_addRoute 91 = .ok (.iastore, 1) := by decide +kernel
theorem dX3_addRoute_92 : decode cX3_addRoute 92 = .ok (.aload_n 0, 1) := by decide +kernel
theorem dX3_addRoute_93 : decode cX3_addRoute 93 = .ok (.invokevirtual 70, 3) := by decide +kernel
theorem dX3_addRoute_96 : decode cX3_addRoute 96 = .ok (.ireturn, 1) := by decide +kernel
theorem dX3_removeRoute_0 : decode cX3_removeRoute 0 = .ok (.iload_n 1, 1) := by decide +kernel
theorem dX3_removeRoute_1 : decode cX3_removeRoute 1 = .ok (.invokestatic 80, 3) := by decide +kernel
theorem dX3_removeRoute_4 : decode cX3_removeRoute 4 = .ok (.ifCond .eq 11, 3) := by decide +kernel
theorem dX3_removeRoute_7 : decode cX3_removeRoute 7 = .ok (.aload_n 0, 1) := by decide +kernel
theorem dX3_removeRoute_8 : decode cX3_removeRoute 8 = .ok (.iload_n 2, 1) := by decide +kernel
theorem dX3_removeRoute_9 : decode cX3_removeRoute 9 = .ok (.invokevirtual 37, 3) := by decide +kernel
theorem dX3_removeRoute_12 : decode cX3_removeRoute 12 = .ok (.ifCond .ne 10, 3) := by decide +kernel
theorem dX3_removeRoute_15 : decode cX3_removeRoute 15 = .ok (.aload_n 0, 1) := by decide +kernel
theorem dX3_removeRoute_16 : decode cX3_removeRoute 16 = .ok (.bipush (-2), 2) := by decide +kernel
theorem dX3_removeRoute_18 : decode cX3_removeRoute 18 = .ok (.invokevirtual 29, 3) := by decide +kernel
theorem dX3_removeRoute_21 : decode cX3_removeRoute 21 = .ok (.ireturn, 1) := by decide +kernel
theorem dX3_removeRoute_22 : decode cX3_removeRoute 22 = .ok (.iconst 4, 1) := by decide +kernel
theorem dX3_removeRoute_23 : decode cX3_removeRoute 23 = .ok (.iload_n 1, 1) := by decide +kernel
theorem dX3_removeRoute_24 : decode cX3_removeRoute 24 = .ok (.imul, 1) := by decide +kernel
theorem dX3_removeRoute_25 : decode cX3_removeRoute 25 = .ok (.iload_n 2, 1) := by decide +kernel
theorem dX3_removeRoute_26 : decode cX3_removeRoute 26 = .ok (.iadd, 1) := by decide +kernel
theorem dX3_removeRoute_27 : decode cX3_removeRoute 27 = .ok (.istore_n 3, 1) := by decide +kernel
theorem dX3_removeRoute_28 : decode cX3_removeRoute 28 = .ok (.aload_n 0, 1) := by decide +kernel
theorem dX3_removeRoute_29 : decode cX3_removeRoute 29 = .ok (.getfield 7, 3) := by decide +kernel
theorem dX3_removeRoute_32 : decode cX3_removeRoute 32 = .ok (.sipush 197, 3) := by decide +kernel
theorem dX3_removeRoute_35 : decode cX3_removeRoute 35 = .ok (.iload_n 3, 1) := by decide +kernel
theorem dX3_removeRoute_36 : decode cX3_removeRoute 36 = .ok (.iadd, 1) := by decide +kernel
theorem dX3_removeRoute_37 : decode cX3_removeRoute 37 = .ok (.iaload, 1) := by decide +kernel
theorem dX3_removeRoute_38 : decode cX3_removeRoute 38 = .ok (.istore 4, 2) := by decide +kernel
theorem dX3_removeRoute_40 : decode cX3_removeRoute 40 = .ok (.iload 4, 2) := by decide +kernel
theorem dX3_removeRoute_42 : decode cX3_removeRoute 42 = .ok (.iconst (-1), 1) := by decide +kernel
theorem dX3_removeRoute_43 : decode cX3_removeRoute 43 = .ok (.if_icmp .ne 10, 3) := by decide +kernel
theorem dX3_removeRoute_46 : decode cX3_removeRoute 46 = .ok (.aload_n 0, 1) := by decide +kernel
theorem dX3_removeRoute_47 : decode cX3_removeRoute 47 = .ok (.bipush (-3), 2) := by decide +kernel
theorem dX3_removeRoute_49 : decode cX3_removeRoute 49 = .ok (.invokevirtual 29, 3) := by decide +kernel
theorem dX3_removeRoute_52 : decode cX3_removeRoute 52 = .ok (.ireturn, 1) := by decide +kernel
theorem dX3_removeRoute_53 : decode cX3_removeRoute 53 = .ok (.aload_n 0, 1) := by decide +kernel
theorem dX3_removeRoute_54 : decode cX3_removeRoute 54 = .ok (.invokevirtual 57, 3) := by decide +kernel
theorem dX3_removeRoute_57 : decode cX3_removeRoute 57 = .ok (.aload_n 0, 1) := by decide +kernel
theorem dX3_removeRoute_58 : decode cX3_removeRoute 58 = .ok (.getfield 7, 3) := by decide +kernel
theorem dX3_removeRoute_61 : decode cX3_removeRoute 61 = .ok (.sipush 197, 3) := by decide +kernel
theorem dX3_removeRoute_64 : decode cX3_removeRoute 64 = .ok (.iload_n 3, 1) := by decide +kernel
theorem dX3_removeRoute_65 : decode cX3_removeRoute 65 = .ok (.iadd, 1) := by decide +kernel
theorem dX3_removeRoute_66 : decode cX3_removeRoute 66 = .ok (.iconst (-1), 1) := by decide +kernel
theorem dX3_removeRoute_67 : decode cX3_removeRoute 67 = .ok (.iastore, 1) := by decide +kernel
theorem dX3_removeRoute_68 : decode cX3_removeRoute 68 = .ok (.aload_n 0, 1) := by decide +kernel
theorem dX3_removeRoute_69 : decode cX3_removeRoute 69 = .ok (.getfield 7, 3) := by decide +kernel
theorem dX3_removeRoute_72 : decode cX3_removeRoute 72 = .ok (.sipush 221, 3) := by decide +kernel
theorem dX3_removeRoute_75 : decode cX3_removeRoute 75 = .ok (.iload_n 3, 1) := by decide +kernel
theorem dX3_removeRoute_76 : decode cX3_removeRoute 76 = .ok (.iadd, 1) := by decide +kernel
theorem dX3_removeRoute_77 : decode cX3_removeRoute 77 = .ok (.iconst (-1), 1) := by decide +kernel
theorem dX3_removeRoute_78 : decode cX3_removeRoute 78 = .ok (.iastore, 1) := by decide +kernel
theorem dX3_removeRoute_79 : decode cX3_removeRoute 79 = .ok (.iload 4, 2) := by decide +kernel
theorem dX3_removeRoute_81 : decode cX3_removeRoute 81 = .ok (.ireturn, 1) := by decide +kernel
theorem dX3_setRouteState_0 : decode cX3_setRouteState 0 = .ok (.iload_n 1, 1) := by decide +kernel
theorem dX3_setRouteState_1 : decode cX3_setRouteState 1 = .ok (.invokestatic 80, 3) := by decide +kernel
theorem dX3_setRouteState_4 : decode cX3_setRouteState 4 = .ok (.ifCond .eq 20, 3) := by decide +kernel
theorem dX3_setRouteState_7 : decode cX3_setRouteState 7 = .ok (.aload_n 0, 1) := by decide +kernel
theorem dX3_setRouteState_8 : decode cX3_setRouteState 8 = .ok (.iload_n 2, 1) := by decide +kernel
theorem dX3_setRouteState_9 : decode cX3_setRouteState 9 = .ok (.invokevirtual 37, 3) := by decide +kernel
theorem dX3_setRouteState_12 : decode cX3_setRouteState 12 = .ok (.ifCond .eq 12, 3) := by decide +kernel
theorem dX3_setRouteState_15 : decode cX3_setRouteState 15 = .ok (.iload_n 3, 1) := by decide +kernel
theorem dX3_setRouteState_16 : decode cX3_setRouteState 16 = .ok (.iconst 0, 1) := by decide +kernel
theorem dX3_setRouteState_17 : decode cX3_setRouteState 17 = .ok (.iconst 2, 1) := by decide +kernel
theorem dX3_setRouteState_18 : decode cX3_setRouteState 18 = .ok (.invokestatic 33, 3) := by decide +kernel
theorem dX3_setRouteState_21 : decode cX3_setRouteState 21 = .ok (.ifCond .ne 10, 3) := by decide +kernel
theorem dX3_setRouteState_24 : decode cX3_setRouteState 24 = .ok (.aload_n 0, 1) := by decide +kernel
theorem dX3_setRouteState_25 : decode cX3_setRouteState 25 = .ok (.bipush (-2), 2) := by decide +kernel
theorem dX3_setRouteState_27 : decode cX3_setRouteState 27 = .ok (.invokevirtual 29, 3) := by decide +kernel
theorem dX3_setRouteState_30 : decode cX3_setRouteState 30 = .ok (.ireturn, 1) := by decide +kernel
theorem dX3_setRouteState_31 : decode cX3_setRouteState 31 = .ok (.iconst 4, 1) := by decide +kernel
theorem dX3_setRouteState_32 : decode cX3_setRouteState 32 = .ok (.iload_n 1, 1) := by decide +kernel
theorem dX3_setRouteState_33 : decode cX3_setRouteState 33 = .ok (.imul, 1) := by decide +kernel
theorem dX3_setRouteState_34 : decode cX3_setRouteState 34 = .ok (.iload_n 2, 1) := by decide +kernel
theorem dX3_setRouteState_35 : decode cX3_setRouteState 35 = .ok (.iadd, 1) := by decide +kernel
theorem dX3_setRouteState_36 : decode cX3_setRouteState 36 = .ok (.istore 4, 2) := by decide +kernel
theorem dX3_setRouteState_38 : decode cX3_setRouteState 38 = .ok (.aload_n 0, 1) := by decide +kernel
theorem dX3_setRouteState_39 : decode cX3_setRouteState 39 = .ok (.getfield 7, 3) := by decide +kernel
theorem dX3_setRouteState_42 : decode cX3_setRouteState 42 = .ok (.sipush 197, 3) := by decide +kernel
theorem dX3_setRouteState_45 : decode cX3_setRouteState 45 = .ok (.iload 4, 2) := by decide +kernel
theorem dX3_setRouteState_47 : decode cX3_setRouteState 47 = .ok (.iadd, 1) := by decide +kernel
theorem dX3_setRouteState_48 : decode cX3_setRouteState 48 = .ok (.iaload, 1) := by decide +kernel
theorem dX3_setRouteState_49 : decode cX3_setRouteState 49 = .ok (.istore 5, 2) := by decide +kernel
theorem dX3_setRouteState_51 : decode cX3_setRouteState 51 = .ok (.iload 5, 2) := by decide +kernel
theorem dX3_setRouteState_53 : decode cX3_setRouteState 53 = .ok (.iconst (-1), 1) := by decide +kernel
theorem dX3_setRouteState_54 : decode cX3_setRouteState 54 = .ok (.if_icmp .ne 10, 3) := by decide +kernel
theorem dX3_setRouteState_57 : decode cX3_setRouteState 57 = .ok (.aload_n 0, 1) := by decide +kernel
theorem dX3_setRouteState_58 : decode cX3_setRouteState 58 = .ok (.bipush (-3), 2) := by decide +kernel
theorem dX3_setRouteState_60 : decode cX3_setRouteState 60 = .ok (.invokevirtual 29, 3) := by decide +kernel
theorem dX3_setRouteState_63 : decode cX3_setRouteState 63 = .ok (.ireturn, 1) := by decide +kernel
theorem dX3_setRouteState_64 : decode cX3_setRouteState 64 = .ok (.aload_n 0, 1) := by decide +kernel
theorem dX3_setRouteState_65 : decode cX3_setRouteState 65 = .ok (.invokevirtual 57, 3) := by decide +kernel
theorem dX3_setRouteState_68 : decode cX3_setRouteState 68 = .ok (.aload_n 0, 1) := by decide +kernel
theorem dX3_setRouteState_69 : decode cX3_setRouteState 69 = .ok (.invokevirtual 67, 3) := by decide +kernel
theorem dX3_setRouteState_72 : decode cX3_setRouteState 72 = .ok (.aload_n 0, 1) := by decide +kernel
theorem dX3_setRouteState_73 : decode cX3_setRouteState 73 = .ok (.getfield 7, 3) := by decide +kernel
theorem dX3_setRouteState_76 : decode cX3_setRouteState 76 = .ok (.sipush 197, 3) := by decide +kernel
theorem dX3_setRouteState_79 : decode cX3_setRouteState 79 = .ok (.iload 4, 2) := by decide +kernel
theorem dX3_setRouteState_81 : decode cX3_setRouteState 81 = .ok (.iadd, 1) := by decide +kernel
theorem dX3_setRouteState_82 : decode cX3_setRouteState 82 = .ok (.iload_n 3, 1) := by decide +kernel
theorem dX3_setRouteState_83 : decode cX3_setRouteState 83 = .ok (.iastore, 1) := by decide +kernel
theorem dX3_setRouteState_84 : decode cX3_setRouteState 84 = .ok (.iload_n 3, 1) := by decide +kernel
theorem dX3_setRouteState_85 : decode cX3_setRouteState 85 = .ok (.iload 5, 2) := by decide +kernel
theorem dX3_setRouteState_87 : decode cX3_setRouteState 87 = .ok (.if_icmp .ge 8, 3) := by decide +kernel
theorem dX3_setRouteState_90 : decode cX3_setRouteState 90 = .ok (.aload_n 0, 1) := by decide +kernel
theorem dX3_setRouteState_91 : decode cX3_setRouteState 91 = .ok (.invokevirtual 70, 3) := by decide +kernel
theorem dX3_setRouteState_94 : decode cX3_setRouteState 94 = .ok (.pop, 1) := by decide +kernel
theorem dX3_setRouteState_95 : decode cX3_setRouteState 95 = .ok (.iload 5, 2) := by decide +kernel
theorem dX3_setRouteState_97 : decode cX3_setRouteState 97 = .ok (.ireturn, 1) := by decide +kernel
theorem dX3_routeState_0 : decode cX3_routeState 0 = .ok (.iload_n 1, 1) := by decide +kernel
theorem dX3_routeState_1 : decode cX3_routeState 1 = .ok (.invokestatic 80, 3) := by decide +kernel
theorem dX3_routeState_4 : decode cX3_routeState 4 = .ok (.ifCond .eq 28, 3) := by decide +kernel
theorem dX3_routeState_7 : decode cX3_routeState 7 = .ok (.aload_n 0, 1) := by decide +kernel
theorem dX3_routeState_8 : decode cX3_routeState 8 = .ok (.iload_n 2, 1) := by decide +kernel
theorem dX3_routeState_9 : decode cX3_routeState 9 = .ok (.invokevirtual 37, 3) := by decide +kernel
theorem dX3_routeState_12 : decode cX3_routeState 12 = .ok (.ifCond .eq 20, 3) := by decide +kernel
theorem dX3_routeState_15 : decode cX3_routeState 15 = .ok (.aload_n 0, 1) := by decide +kernel
theorem dX3_routeState_16 : decode cX3_routeState 16 = .ok (.getfield 7, 3) := by decide +kernel
theorem dX3_routeState_19 : decode cX3_routeState 19 = .ok (.sipush 197, 3) := by decide +kernel
theorem dX3_routeState_22 : decode cX3_routeState 22 = .ok (.iconst 4, 1) := by decide +kernel
theorem dX3_routeState_23 : decode cX3_routeState 23 = .ok (.iload_n 1, 1) := by decide +kernel
theorem dX3_routeState_24 : decode cX3_routeState 24 = .ok (.imul, 1) := by decide +kernel
theorem dX3_routeState_25 : decode cX3_routeState 25 = .ok (.iadd, 1) := by decide +kernel
theorem dX3_routeState_26 : decode cX3_routeState 26 = .ok (.iload_n 2, 1) := by decide +kernel
theorem dX3_routeState_27 : decode cX3_routeState 27 = .ok (.iadd, 1) := by decide +kernel
theorem dX3_routeState_28 : decode cX3_routeState 28 = .ok (.iaload, 1) := by decide +kernel
theorem dX3_routeState_29 : decode cX3_routeState 29 = .ok (.goto 9, 3) := by decide +kernel
theorem dX3_routeState_32 : decode cX3_routeState 32 = .ok (.aload_n 0, 1) := by decide +kernel
theorem dX3_routeState_33 : decode cX3_routeState 33 = .ok (.bipush (-2), 2) := by decide +kernel
theorem dX3_routeState_35 : decode cX3_routeState 35 = .ok (.invokevirtual 29, 3) := by decide +kernel
theorem dX3_routeState_38 : decode cX3_routeState 38 = .ok (.ireturn, 1) := by decide +kernel
theorem dX3_currentRoutes_0 : decode cX3_currentRoutes 0 = .ok (.iload_n 1, 1) := by decide +kernel
theorem dX3_currentRoutes_1 : decode cX3_currentRoutes 1 = .ok (.invokestatic 80, 3) := by decide +kernel
theorem dX3_currentRoutes_4 : decode cX3_currentRoutes 4 = .ok (.ifCond .eq 11, 3) := by decide +kernel
theorem dX3_currentRoutes_7 : decode cX3_currentRoutes 7 = .ok (.aload_n 0, 1) := by decide +kernel
theorem dX3_currentRoutes_8 : decode cX3_currentRoutes 8 = .ok (.iload_n 1, 1) := by decide +kernel
theorem dX3_currentRoutes_9 : decode cX3_currentRoutes 9 = .ok (.invokevirtual 48, 3) := by decide +kernel
theorem dX3_currentRoutes_12 : decode cX3_currentRoutes 12 = .ok (.goto 9, 3) := by decide +kernel
theorem dX3_currentRoutes_15 : decode cX3_currentRoutes 15 = .ok (.aload_n 0, 1) := by decide +kernel
theorem dX3_currentRoutes_16 : decode cX3_currentRoutes 16 = .ok (.bipush (-2), 2) := by decide +kernel
theorem dX3_currentRoutes_18 : decode cX3_currentRoutes 18 = .ok (.invokevirtual 29, 3) := by decide +kernel
theorem dX3_currentRoutes_21 : decode cX3_currentRoutes 21 = .ok (.ireturn, 1) := by decide +kernel
theorem dX3_isStream_0 : decode cX3_isStream 0 = .ok (.iload_n 0, 1) := by decide +kernel
theorem dX3_isStream_1 : decode cX3_isStream 1 = .ok (.invokestatic 80, 3) := by decide +kernel
theorem dX3_isStream_4 : decode cX3_isStream 4 = .ok (.ifCond .eq 17, 3) := by decide +kernel
theorem dX3_isStream_7 : decode cX3_isStream 7 = .ok (.iload_n 1, 1) := by decide +kernel
theorem dX3_isStream_8 : decode cX3_isStream 8 = .ok (.iconst 0, 1) := by decide +kernel
theorem dX3_isStream_9 : decode cX3_isStream 9 = .ok (.bipush 15, 2) := by decide +kernel
theorem dX3_isStream_11 : decode cX3_isStream 11 = .ok (.invokestatic 33, 3) := by decide +kernel
theorem dX3_isStream_14 : decode cX3_isStream 14 = .ok (.ifCond .eq 7, 3) := by decide +kernel
theorem dX3_isStream_17 : decode cX3_isStream 17 = .ok (.iconst 1, 1) := by decide +kernel
theorem dX3_isStream_18 : decode cX3_isStream 18 = .ok (.goto 4, 3) := by decide +kernel
theorem dX3_isStream_21 : decode cX3_isStream 21 = .ok (.iconst 0, 1) := by decide +kernel
theorem dX3_isStream_22 : decode cX3_isStream 22 = .ok (.ireturn, 1) := by decide +kernel
theorem dX3_currentLink_0 : decode cX3_currentLink 0 = .ok (.iload_n 1, 1) := by decide +kernel
theorem dX3_currentLink_1 : decode cX3_currentLink 1 = .ok (.iload_n 2, 1) := by decide +kernel
theorem dX3_currentLink_2 : decode cX3_currentLink 2 = .ok (.invokestatic 83, 3) := by decide +kernel
theorem dX3_currentLink_5 : decode cX3_currentLink 5 = .ok (.ifCond .eq 16, 3) := by decide +kernel
theorem dX3_currentLink_8 : decode cX3_currentLink 8 = .ok (.aload_n 0, 1) := by decide +kernel
theorem dX3_currentLink_9 : decode cX3_currentLink 9 = .ok (.bipush 16, 2) := by decide +kernel
theorem dX3_currentLink_11 : decode cX3_currentLink 11 = .ok (.iload_n 1, 1) := by decide +kernel
theorem dX3_currentLink_12 : decode cX3_currentLink 12 = .ok (.imul, 1) := by decide +kernel
theorem dX3_currentLink_13 : decode cX3_currentLink 13 = .ok (.iload_n 2, 1) := by decide +kernel
theorem dX3_currentLink_14 : decode cX3_currentLink 14 = .ok (.iadd, 1) := by decide +kernel
theorem dX3_currentLink_15 : decode cX3_currentLink 15 = .ok (.invokevirtual 54, 3) := by decide +kernel
theorem dX3_currentLink_18 : decode cX3_currentLink 18 = .ok (.goto 9, 3) := by decide +kernel
theorem dX3_currentLink_21 : decode cX3_currentLink 21 = .ok (.aload_n 0, 1) := by decide +kernel
theorem dX3_currentLink_22 : decode cX3_currentLink 22 = .ok (.bipush (-2), 2) := by decide +kernel
theorem dX3_currentLink_24 : decode cX3_currentLink 24 = .ok (.invokevirtual 29, 3) := by decide +kernel
theorem dX3_currentLink_27 : decode cX3_currentLink 27 = .ok (.ireturn, 1) := by decide +kernel
theorem dX3_isCongested_0 : decode cX3_isCongested 0 = .ok (.aload_n 0, 1) := by decide +kernel
theorem dX3_isCongested_1 : decode cX3_isCongested 1 = .ok (.iload_n 1, 1) := by decide +kernel
theorem dX3_isCongested_2 : decode cX3_isCongested 2 = .ok (.invokevirtual 54, 3) := by decide +kernel
theorem dX3_isCongested_5 : decode cX3_isCongested 5 = .ok (.istore_n 3, 1) := by decide +kernel
theorem dX3_isCongested_6 : decode cX3_isCongested 6 = .ok (.iload_n 3, 1) := by decide +kernel
theorem dX3_isCongested_7 : decode cX3_isCongested 7 = .ok (.iconst (-1), 1) := by decide +kernel
theorem dX3_isCongested_8 : decode cX3_isCongested 8 = .ok (.if_icmp .eq 16, 3) := by decide +kernel
theorem dX3_isCongested_11 : decode cX3_isCongested 11 = .ok (.aload_n 0, 1) := by decide +kernel
theorem dX3_isCongested_12 : decode cX3_isCongested 12 = .ok (.iload_n 3, 1) := by decide +kernel
theorem dX3_isCongested_13 : decode cX3_isCongested 13 = .ok (.invokevirtual 77, 3) := by decide +kernel
theorem dX3_isCongested_16 : decode cX3_isCongested 16 = .ok (.iload_n 2, 1) := by decide +kernel
theorem dX3_isCongested_17 : decode cX3_isCongested 17 = .ok (.if_icmp .le 7, 3) := by decide +kernel
theorem dX3_isCongested_20 : decode cX3_isCongested 20 = .ok (.iconst 1, 1) := by decide +kernel
theorem dX3_isCongested_21 : decode cX3_isCongested 21 = .ok (.goto 4, 3) := by decide +kernel
theorem dX3_isCongested_24 : decode cX3_isCongested 24 = .ok (.iconst 0, 1) := by decide +kernel
theorem dX3_isCongested_25 : decode cX3_isCongested 25 = .ok (.ireturn, 1) := by decide +kernel
theorem dX3_send_0 : decode cX3_send 0 = .ok (.iload_n 1, 1) := by decide +kernel
theorem dX3_send_1 : decode cX3_send 1 = .ok (.iload_n 2, 1) := by decide +kernel
theorem dX3_send_2 : decode cX3_send 2 = .ok (.invokestatic 83, 3) := by decide +kernel
theorem dX3_send_5 : decode cX3_send 5 = .ok (.ifCond .eq 12, 3) := by decide +kernel
theorem dX3_send_8 : decode cX3_send 8 = .ok (.iload_n 3, 1) := by decide +kernel
theorem dX3_send_9 : decode cX3_send 9 = .ok (.iconst 0, 1) := by decide +kernel
theorem dX3_send_10 : decode cX3_send 10 = .ok (.iconst 3, 1) := by decide +kernel
theorem dX3_send_11 : decode cX3_send 11 = .ok (.invokestatic 33, 3) := by decide +kernel
theorem dX3_send_14 : decode cX3_send 14 = .ok (.ifCond .ne 10, 3) := by decide +kernel
theorem dX3_send_17 : decode cX3_send 17 = .ok (.aload_n 0, 1) := by decide +kernel
theorem dX3_send_18 : decode cX3_send 18 = .ok (.bipush (-2), 2) := by decide +kernel
theorem dX3_send_20 : decode cX3_send 20 = .ok (.invokevirtual 29, 3) := by decide +kernel
theorem dX3_send_23 : decode cX3_send 23 = .ok (.ireturn, 1) := by decide +kernel
theorem dX3_send_24 : decode cX3_send 24 = .ok (.aload_n 0, 1) := by decide +kernel
theorem dX3_send_25 : decode cX3_send 25 = .ok (.invokevirtual 57, 3) := by decide +kernel
theorem dX3_send_28 : decode cX3_send 28 = .ok (.bipush 16, 2) := by decide +kernel
theorem dX3_send_30 : decode cX3_send 30 = .ok (.iload_n 1, 1) := by decide +kernel
theorem dX3_send_31 : decode cX3_send 31 = .ok (.imul, 1) := by decide +kernel
theorem dX3_send_32 : decode cX3_send 32 = .ok (.iload_n 2, 1) := by decide +kernel
theorem dX3_send_33 : decode cX3_send 33 = .ok (.iadd, 1) := by decide +kernel
theorem dX3_send_34 : decode cX3_send 34 = .ok (.istore 4, 2) := by decide +kernel
theorem dX3_send_36 : decode cX3_send 36 = .ok (.sipush 128, 3) := by decide +kernel
theorem dX3_send_39 : decode cX3_send 39 = .ok (.aload_n 0, 1) := by decide +kernel
theorem dX3_send_40 : decode cX3_send 40 = .ok (.getfield 7, 3) := by decide +kernel
theorem dX3_send_43 : decode cX3_send 43 = .ok (.sipush 464, 3) := by decide +kernel
theorem dX3_send_46 : decode cX3_send 46 = .ok (.iaload, 1) := by decide +kernel
theorem dX3_send_47 : decode cX3_send 47 = .ok (.imul, 1) := by decide +kernel
theorem dX3_send_48 : decode cX3_send 48 = .ok (.iload 4, 2) := by decide +kernel
theorem dX3_send_50 : decode cX3_send 50 = .ok (.iadd, 1) := by decide +kernel
theorem dX3_send_51 : decode cX3_send 51 = .ok (.istore 5, 2) := by decide +kernel
theorem dX3_send_53 : decode cX3_send 53 = .ok (.aload_n 0, 1) := by decide +kernel
theorem dX3_send_54 : decode cX3_send 54 = .ok (.getfield 7, 3) := by decide +kernel
theorem dX3_send_57 : decode cX3_send 57 = .ok (.sipush 245, 3) := by decide +kernel
theorem dX3_send_60 : decode cX3_send 60 = .ok (.iload 4, 2) := by decide +kernel
theorem dX3_send_62 : decode cX3_send 62 = .ok (.iadd, 1) := by decide +kernel
theorem dX3_send_63 : decode cX3_send 63 = .ok (.iaload, 1) := by decide +kernel
theorem dX3_send_64 : decode cX3_send 64 = .ok (.ifCond .le 65, 3) := by decide +kernel
theorem dX3_send_67 : decode cX3_send 67 = .ok (.aload_n 0, 1) := by decide +kernel
theorem dX3_send_68 : decode cX3_send 68 = .ok (.getfield 7, 3) := by decide +kernel
theorem dX3_send_71 : decode cX3_send 71 = .ok (.sipush 341, 3) := by decide +kernel
theorem dX3_send_74 : decode cX3_send 74 = .ok (.iaload, 1) := by decide +kernel
theorem dX3_send_75 : decode cX3_send 75 = .ok (.bipush 24, 2) := by decide +kernel
theorem dX3_send_77 : decode cX3_send 77 = .ok (.if_icmp .ne 18, 3) := by decide +kernel
theorem dX3_send_80 : decode cX3_send 80 = .ok (.aload_n 0, 1) := by decide +kernel
theorem dX3_send_81 : decode cX3_send 81 = .ok (.getfield 7, 3) := by decide +kernel
theorem dX3_send_84 : decode cX3_send 84 = .ok (.sipush 469, 3) := by decide +kernel
theorem dX3_send_87 : decode cX3_send 87 = .ok (.dup2, 1) := by decide +kernel
theorem dX3_send_88 : decode cX3_send 88 = .ok (.iaload, 1) := by decide +kernel
theorem dX3_send_89 : decode cX3_send 89 = .ok (.iconst 1, 1) := by decide +kernel
theorem dX3_send_90 : decode cX3_send 90 = .ok (.iadd, 1) := by decide +kernel
theorem dX3_send_91 : decode cX3_send 91 = .ok (.iastore, 1) := by decide +kernel
theorem dX3_send_92 : decode cX3_send 92 = .ok (.goto 68, 3) := by decide +kernel
theorem dX3_send_95 : decode cX3_send 95 = .ok (.aload_n 0, 1) := by decide +kernel
theorem dX3_send_96 : decode cX3_send 96 = .ok (.getfield 7, 3) := by decide +kernel
theorem dX3_send_99 : decode cX3_send 99 = .ok (.sipush 342, 3) := by decide +kernel
theorem dX3_send_102 : decode cX3_send 102 = .ok (.aload_n 0, 1) := by decide +kernel
theorem dX3_send_103 : decode cX3_send 103 = .ok (.getfield 7, 3) := by decide +kernel
theorem dX3_send_106 : decode cX3_send 106 = .ok (.sipush 341, 3) := by decide +kernel
theorem dX3_send_109 : decode cX3_send 109 = .ok (.iaload, 1) := by decide +kernel
theorem dX3_send_110 : decode cX3_send 110 = .ok (.iadd, 1) := by decide +kernel
theorem dX3_send_111 : decode cX3_send 111 = .ok (.iload 5, 2) := by decide +kernel
theorem dX3_send_113 : decode cX3_send 113 = .ok (.iastore, 1) := by decide +kernel
theorem dX3_send_114 : decode cX3_send 114 = .ok (.aload_n 0, 1) := by decide +kernel
theorem dX3_send_115 : decode cX3_send 115 = .ok (.getfield 7, 3) := by decide +kernel
theorem dX3_send_118 : decode cX3_send 118 = .ok (.sipush 341, 3) := by decide +kernel
theorem dX3_send_121 : decode cX3_send 121 = .ok (.dup2, 1) := by decide +kernel
theorem dX3_send_122 : decode cX3_send 122 = .ok (.iaload, 1) := by decide +kernel
theorem dX3_send_123 : decode cX3_send 123 = .ok (.iconst 1, 1) := by decide +kernel
theorem dX3_send_124 : decode cX3_send 124 = .ok (.iadd, 1) := by decide +kernel
theorem dX3_send_125 : decode cX3_send 125 = .ok (.iastore, 1) := by decide +kernel
theorem dX3_send_126 : decode cX3_send 126 = .ok (.goto 34, 3) := by decide +kernel
theorem dX3_send_129 : decode cX3_send 129 = .ok (.aload_n 0, 1) := by decide +kernel
theorem dX3_send_130 : decode cX3_send 130 = .ok (.iload 4, 2) := by decide +kernel
theorem dX3_send_132 : decode cX3_send 132 = .ok (.iload_n 3, 1) := by decide +kernel
theorem dX3_send_133 : decode cX3_send 133 = .ok (.invokevirtual 86, 3) := by decide +kernel
theorem dX3_send_136 : decode cX3_send 136 = .ok (.ifCond .eq 18, 3) := by decide +kernel
theorem dX3_send_139 : decode cX3_send 139 = .ok (.aload_n 0, 1) := by decide +kernel
theorem dX3_send_140 : decode cX3_send 140 = .ok (.getfield 7, 3) := by decide +kernel
theorem dX3_send_143 : decode cX3_send 143 = .ok (.sipush 468, 3) := by decide +kernel
theorem dX3_send_146 : decode cX3_send 146 = .ok (.dup2, 1) := by decide +kernel
theorem dX3_send_147 : decode cX3_send 147 = .ok (.iaload, 1) := by decide +kernel
theorem dX3_send_148 : decode cX3_send 148 = .ok (.iconst 1, 1) := by decide +kernel
theorem dX3_send_149 : decode cX3_send 149 = .ok (.iadd, 1) := by decide +kernel
theorem dX3_send_150 : decode cX3_send 150 = .ok (.iastore, 1) := by decide +kernel
theorem dX3_send_151 : decode cX3_send 151 = .ok (.goto 9, 3) := by decide +kernel
theorem dX3_send_154 : decode cX3_send 154 = .ok (.aload_n 0, 1) := by decide +kernel
theorem dX3_send_155 : decode cX3_send 155 = .ok (.iload 5, 2) := by decide +kernel
theorem dX3_send_157 : decode cX3_send 157 = .ok (.invokevirtual 63, 3) := by decide +kernel
theorem dX3_send_160 : decode cX3_send 160 = .ok (.aload_n 0, 1) := by decide +kernel
theorem dX3_send_161 : decode cX3_send 161 = .ok (.getfield 7, 3) := by decide +kernel
theorem dX3_send_164 : decode cX3_send 164 = .ok (.sipush 464, 3) := by decide +kernel
theorem dX3_send_167 : decode cX3_send 167 = .ok (.dup2, 1) := by decide +kernel
theorem dX3_send_168 : decode cX3_send 168 = .ok (.iaload, 1) := by decide +kernel
theorem dX3_send_169 : decode cX3_send 169 = .ok (.iconst 1, 1) := by decide +kernel
theorem dX3_send_170 : decode cX3_send 170 = .ok (.iadd, 1) := by decide +kernel
theorem dX3_send_171 : decode cX3_send 171 = .ok (.iastore, 1) := by decide +kernel
theorem dX3_send_172 : decode cX3_send 172 = .ok (.aload_n 0, 1) := by decide +kernel
theorem dX3_send_173 : decode cX3_send 173 = .ok (.getfield 7, 3) := by decide +kernel
theorem dX3_send_176 : decode cX3_send 176 = .ok (.sipush 464, 3) := by decide +kernel
theorem dX3_send_179 : decode cX3_send 179 = .ok (.iaload, 1) := by decide +kernel
theorem dX3_send_180 : decode cX3_send 180 = .ok (.iconst 1, 1) := by decide +kernel
theorem dX3_send_181 : decode cX3_send 181 = .ok (.isub, 1) := by decide +kernel
theorem dX3_send_182 : decode cX3_send 182 = .ok (.ireturn, 1) := by decide +kernel
theorem dX3_setHoldTime_0 : decode cX3_setHoldTime 0 = .ok (.iload_n 1, 1) := by decide +kernel
theorem dX3_setHoldTime_1 : decode cX3_setHoldTime 1 = .ok (.iconst 0, 1) := by decide +kernel
theorem dX3_setHoldTime_2 : decode cX3_setHoldTime 2 = .ok (.bipush 9, 2) := by decide +kernel
theorem dX3_setHoldTime_4 : decode cX3_setHoldTime 4 = .ok (.invokestatic 33, 3) := by decide +kernel
theorem dX3_setHoldTime_7 : decode cX3_setHoldTime 7 = .ok (.ifCond .ne 10, 3) := by decide +kernel
theorem dX3_setHoldTime_10 : decode cX3_setHoldTime 10 = .ok (.aload_n 0, 1) := by decide +kernel
theorem dX3_setHoldTime_11 : decode cX3_setHoldTime 11 = .ok (.bipush (-2), 2) := by decide +kernel
theorem dX3_setHoldTime_13 : decode cX3_setHoldTime 13 = .ok (.invokevirtual 29, 3) := by decide +kernel
theorem dX3_setHoldTime_16 : decode cX3_setHoldTime 16 = .ok (.ireturn, 1) := by decide +kernel
theorem dX3_setHoldTime_17 : decode cX3_setHoldTime 17 = .ok (.aload_n 0, 1) := by decide +kernel
theorem dX3_setHoldTime_18 : decode cX3_setHoldTime 18 = .ok (.invokevirtual 57, 3) := by decide +kernel
theorem dX3_setHoldTime_21 : decode cX3_setHoldTime 21 = .ok (.aload_n 0, 1) := by decide +kernel
theorem dX3_setHoldTime_22 : decode cX3_setHoldTime 22 = .ok (.getfield 7, 3) := by decide +kernel
theorem dX3_setHoldTime_25 : decode cX3_setHoldTime 25 = .ok (.sipush 463, 3) := by decide +kernel
theorem dX3_setHoldTime_28 : decode cX3_setHoldTime 28 = .ok (.iaload, 1) := by decide +kernel
theorem dX3_setHoldTime_29 : decode cX3_setHoldTime 29 = .ok (.istore_n 2, 1) := by decide +kernel
theorem dX3_setHoldTime_30 : decode cX3_setHoldTime 30 = .ok (.aload_n 0, 1) := by decide +kernel
theorem dX3_setHoldTime_31 : decode cX3_setHoldTime 31 = .ok (.getfield 7, 3) := by decide +kernel
theorem dX3_setHoldTime_34 : decode cX3_setHoldTime 34 = .ok (.sipush 463, 3) := by decide +kernel
theorem dX3_setHoldTime_37 : decode cX3_setHoldTime 37 = .ok (.iload_n 1, 1) := by decide +kernel
theorem dX3_setHoldTime_38 : decode cX3_setHoldTime 38 = .ok (.iastore, 1) := by decide +kernel
theorem dX3_setHoldTime_39 : decode cX3_setHoldTime 39 = .ok (.iload_n 2, 1) := by decide +kernel
theorem dX3_setHoldTime_40 : decode cX3_setHoldTime 40 = .ok (.ireturn, 1) := by decide +kernel
theorem dX3_tick_0 : decode cX3_tick 0 = .ok (.aload_n 0, 1) := by decide +kernel
theorem dX3_tick_1 : decode cX3_tick 1 = .ok (.invokevirtual 57, 3) := by decide +kernel
theorem dX3_tick_4 : decode cX3_tick 4 = .ok (.aload_n 0, 1) := by decide +kernel
theorem dX3_tick_5 : decode cX3_tick 5 = .ok (.getfield 7, 3) := by decide +kernel
theorem dX3_tick_8 : decode cX3_tick 8 = .ok (.sipush 462, 3) := by decide +kernel
theorem dX3_tick_11 : decode cX3_tick 11 = .ok (.dup2, 1) := by decide +kernel
theorem dX3_tick_12 : decode cX3_tick 12 = .ok (.iaload, 1) := by decide +kernel
theorem dX3_tick_13 : decode cX3_tick 13 = .ok (.iconst 1, 1) := by decide +kernel
theorem dX3_tick_14 : decode cX3_tick 14 = .ok (.iadd, 1) := by decide +kernel
theorem dX3_tick_15 : decode cX3_tick 15 = .ok (.iastore, 1) := by decide +kernel
theorem dX3_tick_16 : decode cX3_tick 16 = .ok (.iconst 0, 1) := by decide +kernel
theorem dX3_tick_17 : decode cX3_tick 17 = .ok (.istore_n 1, 1) := by decide +kernel
theorem dX3_tick_18 : decode cX3_tick 18 = .ok (.iload_n 1, 1) := by decide +kernel
theorem dX3_tick_19 : decode cX3_tick 19 = .ok (.bipush 96, 2) := by decide +kernel
theorem dX3_tick_21 : decode cX3_tick 21 = .ok (.if_icmp .ge 54, 3) := by decide +kernel
theorem dX3_tick_24 : decode cX3_tick 24 = .ok (.aload_n 0, 1) := by decide +kernel
theorem dX3_tick_25 : decode cX3_tick 25 = .ok (.getfield 7, 3) := by decide +kernel
theorem dX3_tick_28 : decode cX3_tick 28 = .ok (.sipush 245, 3) := by decide +kernel
theorem dX3_tick_31 : decode cX3_tick 31 = .ok (.iload_n 1, 1) := by decide +kernel
theorem dX3_tick_32 : decode cX3_tick 32 = .ok (.iadd, 1) := by decide +kernel
theorem dX3_tick_33 : decode cX3_tick 33 = .ok (.aload_n 0, 1) := by decide +kernel
theorem dX3_tick_34 : decode cX3_tick 34 = .ok (.getfield 7, 3) := by decide +kernel
theorem dX3_tick_37 : decode cX3_tick 37 = .ok (.sipush 245, 3) := by decide +kernel
theorem dX3_tick_40 : decode cX3_tick 40 = .ok (.iload_n 1, 1) := by decide +kernel
theorem dX3_tick_41 : decode cX3_tick 41 = .ok (.iadd, 1) := by decide +kernel
theorem dX3_tick_42 : decode cX3_tick 42 = .ok (.iaload, 1) := by decide +kernel
theorem dX3_tick_43 : decode cX3_tick 43 = .ok (.aload_n 0, 1) := by decide +kernel
theorem dX3_tick_44 : decode cX3_tick 44 = .ok (.getfield 7, 3) := by decide +kernel
theorem dX3_tick_47 : decode cX3_tick 47 = .ok (.sipush 462, 3) := by decide +kernel
theorem dX3_tick_50 : decode cX3_tick 50 = .ok (.iaload, 1) := by decide +kernel
theorem dX3_tick_51 : decode cX3_tick 51 = .ok (.if_icmp .le 16, 3) := by decide +kernel
theorem dX3_tick_54 : decode cX3_tick 54 = .ok (.aload_n 0, 1) := by decide +kernel
theorem dX3_tick_55 : decode cX3_tick 55 = .ok (.getfield 7, 3) := by decide +kernel
theorem dX3_tick_58 : decode cX3_tick 58 = .ok (.sipush 245, 3) := by decide +kernel
theorem dX3_tick_61 : decode cX3_tick 61 = .ok (.iload_n 1, 1) := by decide +kernel
theorem dX3_tick_62 : decode cX3_tick 62 = .ok (.iadd, 1) := by decide +kernel
theorem dX3_tick_63 : decode cX3_tick 63 = .ok (.iaload, 1) := by decide +kernel
theorem dX3_tick_64 : decode cX3_tick 64 = .ok (.goto 4, 3) := by decide +kernel
theorem dX3_tick_67 : decode cX3_tick 67 = .ok (.iconst 0, 1) := by decide +kernel
theorem dX3_tick_68 : decode cX3_tick 68 = .ok (.iastore, 1) := by decide +kernel
theorem dX3_tick_69 : decode cX3_tick 69 = .ok (.iinc 1 1, 3) := by decide +kernel
theorem dX3_tick_72 : decode cX3_tick 72 = .ok (.goto (-54), 3) := by decide +kernel
theorem dX3_tick_75 : decode cX3_tick 75 = .ok (.iconst 0, 1) := by decide +kernel
theorem dX3_tick_76 : decode cX3_tick 76 = .ok (.istore_n 1, 1) := by decide +kernel
theorem dX3_tick_77 : decode cX3_tick 77 = .ok (.iconst 0, 1) := by decide +kernel
theorem dX3_tick_78 : decode cX3_tick 78 = .ok (.istore_n 2, 1) := by decide +kernel
theorem dX3_tick_79 : decode cX3_tick 79 = .ok (.iconst 0, 1) := by decide +kernel
theorem dX3_tick_80 : decode cX3_tick 80 = .ok (.istore_n 3, 1) := by decide +kernel
theorem dX3_tick_81 : decode cX3_tick 81 = .ok (.iload_n 3, 1) := by decide +kernel
theorem dX3_tick_82 : decode cX3_tick 82 = .ok (.aload_n 0, 1) := by decide +kernel
theorem dX3_tick_83 : decode cX3_tick 83 = .ok (.getfield 7, 3) := by decide +kernel
theorem dX3_tick_86 : decode cX3_tick 86 = .ok (.sipush 341, 3) := by decide +kernel
theorem dX3_tick_89 : decode cX3_tick 89 = .ok (.iaload, 1) := by decide +kernel
theorem dX3_tick_90 : decode cX3_tick 90 = .ok (.if_icmp .ge 68, 3) := by decide +kernel
theorem dX3_tick_93 : decode cX3_tick 93 = .ok (.aload_n 0, 1) := by decide +kernel
theorem dX3_tick_94 : decode cX3_tick 94 = .ok (.getfield 7, 3) := by decide +kernel
theorem dX3_tick_97 : decode cX3_tick 97 = .ok (.sipush 342, 3) := by decide +kernel
theorem dX3_tick_100 : decode cX3_tick 100 = .ok (.iload_n 3, 1) := by decide +kernel
theorem dX3_tick_101 : decode cX3_tick 101 = .ok (.iadd, 1) := by decide +kernel
theorem dX3_tick_102 : decode cX3_tick 102 = .ok (.iaload, 1) := by decide +kernel
theorem dX3_tick_103 : decode cX3_tick 103 = .ok (.istore 4, 2) := by decide +kernel
theorem dX3_tick_105 : decode cX3_tick 105 = .ok (.aload_n 0, 1) := by decide +kernel
theorem dX3_tick_106 : decode cX3_tick 106 = .ok (.getfield 7, 3) := by decide +kernel
theorem dX3_tick_109 : decode cX3_tick 109 = .ok (.sipush 245, 3) := by decide +kernel
theorem dX3_tick_112 : decode cX3_tick 112 = .ok (.iload 4, 2) := by decide +kernel
theorem dX3_tick_114 : decode cX3_tick 114 = .ok (.sipush 128, 3) := by decide +kernel
theorem dX3_tick_117 : decode cX3_tick 117 = .ok (.irem, 1) := by decide +kernel
theorem dX3_tick_118 : decode cX3_tick 118 = .ok (.iadd, 1) := by decide +kernel
theorem dX3_tick_119 : decode cX3_tick 119 = .ok (.iaload, 1) := by decide +kernel
theorem dX3_tick_120 : decode cX3_tick 120 = .ok (.ifCond .ne 17, 3) := by decide +kernel
theorem dX3_tick_123 : decode cX3_tick 123 = .ok (.aload_n 0, 1) := by decide +kernel
theorem dX3_tick_124 : decode cX3_tick 124 = .ok (.getfield 22, 3) := by decide +kernel
theorem dX3_tick_127 : decode cX3_tick 127 = .ok (.iload_n 1, 1) := by decide +kernel
theorem dX3_tick_128 : decode cX3_tick 128 = .ok (.iload 4, 2) := by decide +kernel
theorem dX3_tick_130 : decode cX3_tick 130 = .ok (.iastore, 1) := by decide +kernel
theorem dX3_tick_131 : decode cX3_tick 131 = .ok (.iinc 1 1, 3) := by decide +kernel
theorem dX3_tick_134 : decode cX3_tick 134 = .ok (.goto 18, 3) := by decide +kernel
theorem dX3_tick_137 : decode cX3_tick 137 = .ok (.aload_n 0, 1) := by decide +kernel
theorem dX3_tick_138 : decode cX3_tick 138 = .ok (.getfield 7, 3) := by decide +kernel
theorem dX3_tick_141 : decode cX3_tick 141 = .ok (.sipush 342, 3) := by decide +kernel
theorem dX3_tick_144 : decode cX3_tick 144 = .ok (.iload_n 2, 1) := by decide +kernel
theorem dX3_tick_145 : decode cX3_tick 145 = .ok (.iadd, 1) := by decide +kernel
theorem dX3_tick_146 : decode cX3_tick 146 = .ok (.iload 4, 2) := by decide +kernel
theorem dX3_tick_148 : decode cX3_tick 148 = .ok (.iastore, 1) := by decide +kernel
theorem dX3_tick_149 : decode cX3_tick 149 = .ok (.iinc 2 1, 3) := by decide +kernel
theorem dX3_tick_152 : decode cX3_tick 152 = .ok (.iinc 3 1, 3) := by decide +kernel
theorem dX3_tick_155 : decode cX3_tick 155 = .ok (.goto (-74), 3) := by decide +kernel
theorem dX3_tick_158 : decode cX3_tick 158 = .ok (.aload_n 0, 1) := by decide +kernel
theorem dX3_tick_159 : decode cX3_tick 159 = .ok (.getfield 7, 3) := by decide +kernel
theorem dX3_tick_162 : decode cX3_tick 162 = .ok (.sipush 341, 3) := by decide +kernel
theorem dX3_tick_165 : decode cX3_tick 165 = .ok (.iload_n 2, 1) := by decide +kernel
theorem dX3_tick_166 : decode cX3_tick 166 = .ok (.iastore, 1) := by decide +kernel
theorem dX3_tick_167 : decode cX3_tick 167 = .ok (.iconst 0, 1) := by decide +kernel
theorem dX3_tick_168 : decode cX3_tick 168 = .ok (.istore_n 3, 1) := by decide +kernel
theorem dX3_tick_169 : decode cX3_tick 169 = .ok (.iload_n 3, 1) := by decide +kernel
theorem dX3_tick_170 : decode cX3_tick 170 = .ok (.iload_n 1, 1) := by decide +kernel
theorem dX3_tick_171 : decode cX3_tick 171 = .ok (.if_icmp .ge 19, 3) := by decide +kernel
theorem dX3_tick_174 : decode cX3_tick 174 = .ok (.aload_n 0, 1) := by decide +kernel
theorem dX3_tick_175 : decode cX3_tick 175 = .ok (.aload_n 0, 1) := by decide +kernel
theorem dX3_tick_176 : decode cX3_tick 176 = .ok (.getfield 22, 3) := by decide +kernel
theorem dX3_tick_179 : decode cX3_tick 179 = .ok (.iload_n 3, 1) := by decide +kernel
theorem dX3_tick_180 : decode cX3_tick 180 = .ok (.iaload, 1) := by decide +kernel
theorem dX3_tick_181 : decode cX3_tick 181 = .ok (.invokevirtual 63, 3) := by decide +kernel
theorem dX3_tick_184 : decode cX3_tick 184 = .ok (.iinc 3 1, 3) := by decide +kernel
theorem dX3_tick_187 : decode cX3_tick 187 = .ok (.goto (-18), 3) := by decide +kernel
theorem dX3_tick_190 : decode cX3_tick 190 = .ok (.iload_n 1, 1) := by decide +kernel
theorem dX3_tick_191 : decode cX3_tick 191 = .ok (.ireturn, 1) := by decide +kernel
theorem dX3_time_0 : decode cX3_time 0 = .ok (.aload_n 0, 1) := by decide +kernel
theorem dX3_time_1 : decode cX3_time 1 = .ok (.getfield 7, 3) := by decide +kernel
theorem dX3_time_4 : decode cX3_time 4 = .ok (.sipush 462, 3) := by decide +kernel
theorem dX3_time_7 : decode cX3_time 7 = .ok (.iaload, 1) := by decide +kernel
theorem dX3_time_8 : decode cX3_time 8 = .ok (.ireturn, 1) := by decide +kernel
theorem dX3_isHeld_0 : decode cX3_isHeld 0 = .ok (.iload_n 1, 1) := by decide +kernel
theorem dX3_isHeld_1 : decode cX3_isHeld 1 = .ok (.iload_n 2, 1) := by decide +kernel
theorem dX3_isHeld_2 : decode cX3_isHeld 2 = .ok (.invokestatic 83, 3) := by decide +kernel
theorem dX3_isHeld_5 : decode cX3_isHeld 5 = .ok (.ifCond .eq 29, 3) := by decide +kernel
theorem dX3_isHeld_8 : decode cX3_isHeld 8 = .ok (.aload_n 0, 1) := by decide +kernel
theorem dX3_isHeld_9 : decode cX3_isHeld 9 = .ok (.getfield 7, 3) := by decide +kernel
theorem dX3_isHeld_12 : decode cX3_isHeld 12 = .ok (.sipush 245, 3) := by decide +kernel
theorem dX3_isHeld_15 : decode cX3_isHeld 15 = .ok (.bipush 16, 2) := by decide +kernel
theorem dX3_isHeld_17 : decode cX3_isHeld 17 = .ok (.iload_n 1, 1) := by decide +kernel
theorem dX3_isHeld_18 : decode cX3_isHeld 18 = .ok (.imul, 1) := by decide +kernel
theorem dX3_isHeld_19 : decode cX3_isHeld 19 = .ok (.iadd, 1) := by decide +kernel
theorem dX3_isHeld_20 : decode cX3_isHeld 20 = .ok (.iload_n 2, 1) := by decide +kernel
theorem dX3_isHeld_21 : decode cX3_isHeld 21 = .ok (.iadd, 1) := by decide +kernel
theorem dX3_isHeld_22 : decode cX3_isHeld 22 = .ok (.iaload, 1) := by decide +kernel
theorem dX3_isHeld_23 : decode cX3_isHeld 23 = .ok (.ifCond .le 7, 3) := by decide +kernel
theorem dX3_isHeld_26 : decode cX3_isHeld 26 = .ok (.iconst 1, 1) := by decide +kernel
theorem dX3_isHeld_27 : decode cX3_isHeld 27 = .ok (.goto 13, 3) := by decide +kernel
theorem dX3_isHeld_30 : decode cX3_isHeld 30 = .ok (.iconst 0, 1) := by decide +kernel
theorem dX3_isHeld_31 : decode cX3_isHeld 31 = .ok (.goto 9, 3) := by decide +kernel
theorem dX3_isHeld_34 : decode cX3_isHeld 34 = .ok (.aload_n 0, 1) := by decide +kernel
theorem dX3_isHeld_35 : decode cX3_isHeld 35 = .ok (.bipush (-2), 2) := by decide +kernel
theorem dX3_isHeld_37 : decode cX3_isHeld 37 = .ok (.invokevirtual 29, 3) := by decide +kernel
theorem dX3_isHeld_40 : decode cX3_isHeld 40 = .ok (.ireturn, 1) := by decide +kernel
theorem dX3_heldMessages_0 : decode cX3_heldMessages 0 = .ok (.aload_n 0, 1) := by decide +kernel
end
section
theorem dX3_heldMessages_1 : decode cX3_heldMessages 1 = .ok (.getfield 7, 3) := by decide +kernel
theorem dX3_heldMessages_4 : decode cX3_heldMessages 4 = .ok (.sipush 341, 3) := by decide +kernel
theorem dX3_heldMessages_7 : decode cX3_heldMessages 7 = .ok (.iaload, 1) := by decide +kernel
theorem dX3_heldMessages_8 : decode cX3_heldMessages 8 = .ok (.ireturn, 1) := by decide +kernel
theorem dX3_delivered_0 : decode cX3_delivered 0 = .ok (.aload_n 0, 1) := by decide +kernel
theorem dX3_delivered_1 : decode cX3_delivered 1 = .ok (.getfield 7, 3) := by decide +kernel
theorem dX3_delivered_4 : decode cX3_delivered 4 = .ok (.sipush 465, 3) := by decide +kernel
theorem dX3_delivered_7 : decode cX3_delivered 7 = .ok (.iaload, 1) := by decide +kernel
theorem dX3_delivered_8 : decode cX3_delivered 8 = .ok (.ireturn, 1) := by decide +kernel
theorem dX3_overtaken_0 : decode cX3_overtaken 0 = .ok (.aload_n 0, 1) := by decide +kernel
theorem dX3_overtaken_1 : decode cX3_overtaken 1 = .ok (.getfield 7, 3) := by decide +kernel
theorem dX3_overtaken_4 : decode cX3_overtaken 4 = .ok (.sipush 466, 3) := by decide +kernel
theorem dX3_overtaken_7 : decode cX3_overtaken 7 = .ok (.iaload, 1) := by decide +kernel
theorem dX3_overtaken_8 : decode cX3_overtaken 8 = .ok (.ireturn, 1) := by decide +kernel
theorem dX3_unreachable_0 : decode cX3_unreachable 0 = .ok (.aload_n 0, 1) := by decide +kernel
theorem dX3_unreachable_1 : decode cX3_unreachable 1 = .ok (.getfield 7, 3) := by decide +kernel
theorem dX3_unreachable_4 : decode cX3_unreachable 4 = .ok (.sipush 467, 3) := by decide +kernel
theorem dX3_unreachable_7 : decode cX3_unreachable 7 = .ok (.iaload, 1) := by decide +kernel
theorem dX3_unreachable_8 : decode cX3_unreachable 8 = .ok (.ireturn, 1) := by decide +kernel
theorem dX3_congested_0 : decode cX3_congested 0 = .ok (.aload_n 0, 1) := by decide +kernel
theorem dX3_congested_1 : decode cX3_congested 1 = .ok (.getfield 7, 3) := by decide +kernel
theorem dX3_congested_4 : decode cX3_congested 4 = .ok (.sipush 468, 3) := by decide +kernel
theorem dX3_congested_7 : decode cX3_congested 7 = .ok (.iaload, 1) := by decide +kernel
theorem dX3_congested_8 : decode cX3_congested 8 = .ok (.ireturn, 1) := by decide +kernel
theorem dX3_lost_0 : decode cX3_lost 0 = .ok (.aload_n 0, 1) := by decide +kernel
theorem dX3_lost_1 : decode cX3_lost 1 = .ok (.getfield 7, 3) := by decide +kernel
theorem dX3_lost_4 : decode cX3_lost 4 = .ok (.sipush 469, 3) := by decide +kernel
theorem dX3_lost_7 : decode cX3_lost 7 = .ok (.iaload, 1) := by decide +kernel
theorem dX3_lost_8 : decode cX3_lost 8 = .ok (.ireturn, 1) := by decide +kernel
theorem dX3_spread_0 : decode cX3_spread 0 = .ok (.iload_n 1, 1) := by decide +kernel
theorem dX3_spread_1 : decode cX3_spread 1 = .ok (.invokestatic 80, 3) := by decide +kernel
theorem dX3_spread_4 : decode cX3_spread 4 = .ok (.ifCond .ne 10, 3) := by decide +kernel
theorem dX3_spread_7 : decode cX3_spread 7 = .ok (.aload_n 0, 1) := by decide +kernel
theorem dX3_spread_8 : decode cX3_spread 8 = .ok (.bipush (-2), 2) := by decide +kernel
theorem dX3_spread_10 : decode cX3_spread 10 = .ok (.invokevirtual 29, 3) := by decide +kernel
theorem dX3_spread_13 : decode cX3_spread 13 = .ok (.ireturn, 1) := by decide +kernel
theorem dX3_spread_14 : decode cX3_spread 14 = .ok (.iconst 0, 1) := by decide +kernel
theorem dX3_spread_15 : decode cX3_spread 15 = .ok (.istore_n 2, 1) := by decide +kernel
theorem dX3_spread_16 : decode cX3_spread 16 = .ok (.iconst 0, 1) := by decide +kernel
theorem dX3_spread_17 : decode cX3_spread 17 = .ok (.istore_n 3, 1) := by decide +kernel
theorem dX3_spread_18 : decode cX3_spread 18 = .ok (.iload_n 3, 1) := by decide +kernel
theorem dX3_spread_19 : decode cX3_spread 19 = .ok (.bipush 16, 2) := by decide +kernel
theorem dX3_spread_21 : decode cX3_spread 21 = .ok (.if_icmp .ge 68, 3) := by decide +kernel
theorem dX3_spread_24 : decode cX3_spread 24 = .ok (.iconst 0, 1) := by decide +kernel
theorem dX3_spread_25 : decode cX3_spread 25 = .ok (.istore 4, 2) := by decide +kernel
theorem dX3_spread_27 : decode cX3_spread 27 = .ok (.iconst 0, 1) := by decide +kernel
theorem dX3_spread_28 : decode cX3_spread 28 = .ok (.istore 5, 2) := by decide +kernel
theorem dX3_spread_30 : decode cX3_spread 30 = .ok (.iload 5, 2) := by decide +kernel
theorem dX3_spread_32 : decode cX3_spread 32 = .ok (.bipush 16, 2) := by decide +kernel
theorem dX3_spread_34 : decode cX3_spread 34 = .ok (.if_icmp .ge 36, 3) := by decide +kernel
theorem dX3_spread_37 : decode cX3_spread 37 = .ok (.iload 4, 2) := by decide +kernel
theorem dX3_spread_39 : decode cX3_spread 39 = .ok (.ifCond .ne 18, 3) := by decide +kernel
theorem dX3_spread_42 : decode cX3_spread 42 = .ok (.aload_n 0, 1) := by decide +kernel
theorem dX3_spread_43 : decode cX3_spread 43 = .ok (.bipush 16, 2) := by decide +kernel
theorem dX3_spread_45 : decode cX3_spread 45 = .ok (.iload_n 1, 1) := by decide +kernel
theorem dX3_spread_46 : decode cX3_spread 46 = .ok (.imul, 1) := by decide +kernel
theorem dX3_spread_47 : decode cX3_spread 47 = .ok (.iload 5, 2) := by decide +kernel
theorem dX3_spread_49 : decode cX3_spread 49 = .ok (.iadd, 1) := by decide +kernel
theorem dX3_spread_50 : decode cX3_spread 50 = .ok (.invokevirtual 54, 3) := by decide +kernel
theorem dX3_spread_53 : decode cX3_spread 53 = .ok (.iload_n 3, 1) := by decide +kernel
theorem dX3_spread_54 : decode cX3_spread 54 = .ok (.if_icmp .ne 7, 3) := by decide +kernel
theorem dX3_spread_57 : decode cX3_spread 57 = .ok (.iconst 1, 1) := by decide +kernel
theorem dX3_spread_58 : decode cX3_spread 58 = .ok (.goto 4, 3) := by decide +kernel
theorem dX3_spread_61 : decode cX3_spread 61 = .ok (.iconst 0, 1) := by decide +kernel
theorem dX3_spread_62 : decode cX3_spread 62 = .ok (.istore 4, 2) := by decide +kernel
theorem dX3_spread_64 : decode cX3_spread 64 = .ok (.iinc 5 1, 3) := by decide +kernel
theorem dX3_spread_67 : decode cX3_spread 67 = .ok (.goto (-37), 3) := by decide +kernel
theorem dX3_spread_70 : decode cX3_spread 70 = .ok (.iload_n 2, 1) := by decide +kernel
theorem dX3_spread_71 : decode cX3_spread 71 = .ok (.iload 4, 2) := by decide +kernel
theorem dX3_spread_73 : decode cX3_spread 73 = .ok (.ifCond .eq 7, 3) := by decide +kernel
theorem dX3_spread_76 : decode cX3_spread 76 = .ok (.iconst 1, 1) := by decide +kernel
theorem dX3_spread_77 : decode cX3_spread 77 = .ok (.goto 4, 3) := by decide +kernel
theorem dX3_spread_80 : decode cX3_spread 80 = .ok (.iconst 0, 1) := by decide +kernel
theorem dX3_spread_81 : decode cX3_spread 81 = .ok (.iadd, 1) := by decide +kernel
theorem dX3_spread_82 : decode cX3_spread 82 = .ok (.istore_n 2, 1) := by decide +kernel
theorem dX3_spread_83 : decode cX3_spread 83 = .ok (.iinc 3 1, 3) := by decide +kernel
theorem dX3_spread_86 : decode cX3_spread 86 = .ok (.goto (-68), 3) := by decide +kernel
theorem dX3_spread_89 : decode cX3_spread 89 = .ok (.iload_n 2, 1) := by decide +kernel
theorem dX3_spread_90 : decode cX3_spread 90 = .ok (.ireturn, 1) := by decide +kernel
theorem dX3_errorCount_0 : decode cX3_errorCount 0 = .ok (.iload_n 1, 1) := by decide +kernel
theorem dX3_errorCount_1 : decode cX3_errorCount 1 = .ok (.iconst 0, 1) := by decide +kernel
theorem dX3_errorCount_2 : decode cX3_errorCount 2 = .ok (.iconst 2, 1) := by decide +kernel
theorem dX3_errorCount_3 : decode cX3_errorCount 3 = .ok (.invokestatic 33, 3) := by decide +kernel
theorem dX3_errorCount_6 : decode cX3_errorCount 6 = .ok (.ifCond .eq 12, 3) := by decide +kernel
theorem dX3_errorCount_9 : decode cX3_errorCount 9 = .ok (.aload_n 0, 1) := by decide +kernel
theorem dX3_errorCount_10 : decode cX3_errorCount 10 = .ok (.getfield 16, 3) := by decide +kernel
theorem dX3_errorCount_13 : decode cX3_errorCount 13 = .ok (.iload_n 1, 1) := by decide +kernel
theorem dX3_errorCount_14 : decode cX3_errorCount 14 = .ok (.iaload, 1) := by decide +kernel
theorem dX3_errorCount_15 : decode cX3_errorCount 15 = .ok (.goto 9, 3) := by decide +kernel
theorem dX3_errorCount_18 : decode cX3_errorCount 18 = .ok (.aload_n 0, 1) := by decide +kernel
theorem dX3_errorCount_19 : decode cX3_errorCount 19 = .ok (.bipush (-2), 2) := by decide +kernel
theorem dX3_errorCount_21 : decode cX3_errorCount 21 = .ok (.invokevirtual 29, 3) := by decide +kernel
theorem dX3_errorCount_24 : decode cX3_errorCount 24 = .ok (.ireturn, 1) := by decide +kernel
theorem dX3_mix_0 : decode cX3_mix 0 = .ok (.aload_n 0, 1) := by decide +kernel
theorem dX3_mix_1 : decode cX3_mix 1 = .ok (.ldc2_w 89, 3) := by decide +kernel
theorem dX3_mix_4 : decode cX3_mix 4 = .ok (.aload_n 0, 1) := by decide +kernel
theorem dX3_mix_5 : decode cX3_mix 5 = .ok (.getfield 91, 3) := by decide +kernel
theorem dX3_mix_8 : decode cX3_mix 8 = .ok (.lmul, 1) := by decide +kernel
theorem dX3_mix_9 : decode cX3_mix 9 = .ok (.iload_n 1, 1) := by decide +kernel
theorem dX3_mix_10 : decode cX3_mix 10 = .ok (.i2l, 1) := by decide +kernel
theorem dX3_mix_11 : decode cX3_mix 11 = .ok (.ladd, 1) := by decide +kernel
theorem dX3_mix_12 : decode cX3_mix 12 = .ok (.putfield 91, 3) := by decide +kernel
theorem dX3_mix_15 : decode cX3_mix 15 = .ok (.return_, 1) := by decide +kernel
theorem dX3_mixLink_0 : decode cX3_mixLink 0 = .ok (.aload_n 0, 1) := by decide +kernel
theorem dX3_mixLink_1 : decode cX3_mixLink 1 = .ok (.aload_n 0, 1) := by decide +kernel
theorem dX3_mixLink_2 : decode cX3_mixLink 2 = .ok (.getfield 7, 3) := by decide +kernel
theorem dX3_mixLink_5 : decode cX3_mixLink 5 = .ok (.iconst 5, 1) := by decide +kernel
theorem dX3_mixLink_6 : decode cX3_mixLink 6 = .ok (.iload_n 1, 1) := by decide +kernel
theorem dX3_mixLink_7 : decode cX3_mixLink 7 = .ok (.iadd, 1) := by decide +kernel
theorem dX3_mixLink_8 : decode cX3_mixLink 8 = .ok (.iaload, 1) := by decide +kernel
theorem dX3_mixLink_9 : decode cX3_mixLink 9 = .ok (.invokevirtual 95, 3) := by decide +kernel
theorem dX3_mixLink_12 : decode cX3_mixLink 12 = .ok (.aload_n 0, 1) := by decide +kernel
theorem dX3_mixLink_13 : decode cX3_mixLink 13 = .ok (.aload_n 0, 1) := by decide +kernel
theorem dX3_mixLink_14 : decode cX3_mixLink 14 = .ok (.getfield 7, 3) := by decide +kernel
theorem dX3_mixLink_17 : decode cX3_mixLink 17 = .ok (.bipush 21, 2) := by decide +kernel
theorem dX3_mixLink_19 : decode cX3_mixLink 19 = .ok (.iload_n 1, 1) := by decide +kernel
theorem dX3_mixLink_20 : decode cX3_mixLink 20 = .ok (.iadd, 1) := by decide +kernel
theorem dX3_mixLink_21 : decode cX3_mixLink 21 = .ok (.iaload, 1) := by decide +kernel
theorem dX3_mixLink_22 : decode cX3_mixLink 22 = .ok (.invokevirtual 95, 3) := by decide +kernel
theorem dX3_mixLink_25 : decode cX3_mixLink 25 = .ok (.iconst 0, 1) := by decide +kernel
theorem dX3_mixLink_26 : decode cX3_mixLink 26 = .ok (.istore_n 2, 1) := by decide +kernel
theorem dX3_mixLink_27 : decode cX3_mixLink 27 = .ok (.iload_n 2, 1) := by decide +kernel
theorem dX3_mixLink_28 : decode cX3_mixLink 28 = .ok (.aload_n 0, 1) := by decide +kernel
theorem dX3_mixLink_29 : decode cX3_mixLink 29 = .ok (.getfield 7, 3) := by decide +kernel
theorem dX3_mixLink_32 : decode cX3_mixLink 32 = .ok (.bipush 21, 2) := by decide +kernel
theorem dX3_mixLink_34 : decode cX3_mixLink 34 = .ok (.iload_n 1, 1) := by decide +kernel
theorem dX3_mixLink_35 : decode cX3_mixLink 35 = .ok (.iadd, 1) := by decide +kernel
theorem dX3_mixLink_36 : decode cX3_mixLink 36 = .ok (.iaload, 1) := by decide +kernel
theorem dX3_mixLink_37 : decode cX3_mixLink 37 = .ok (.if_icmp .ge 31, 3) := by decide +kernel
theorem dX3_mixLink_40 : decode cX3_mixLink 40 = .ok (.aload_n 0, 1) := by decide +kernel
theorem dX3_mixLink_41 : decode cX3_mixLink 41 = .ok (.aload_n 0, 1) := by decide +kernel
theorem dX3_mixLink_42 : decode cX3_mixLink 42 = .ok (.getfield 7, 3) := by decide +kernel
theorem dX3_mixLink_45 : decode cX3_mixLink 45 = .ok (.bipush 37, 2) := by decide +kernel
theorem dX3_mixLink_47 : decode cX3_mixLink 47 = .ok (.bipush 10, 2) := by decide +kernel
theorem dX3_mixLink_49 : decode cX3_mixLink 49 = .ok (.iload_n 1, 1) := by decide +kernel
theorem dX3_mixLink_50 : decode cX3_mixLink 50 = .ok (.imul, 1) := by decide +kernel
theorem dX3_mixLink_51 : decode cX3_mixLink 51 = .ok (.iadd, 1) := by decide +kernel
theorem dX3_mixLink_52 : decode cX3_mixLink 52 = .ok (.iload_n 2, 1) := by decide +kernel
theorem dX3_mixLink_53 : decode cX3_mixLink 53 = .ok (.iadd, 1) := by decide +kernel
theorem dX3_mixLink_54 : decode cX3_mixLink 54 = .ok (.iaload, 1) := by decide +kernel
theorem dX3_mixLink_55 : decode cX3_mixLink 55 = .ok (.sipush 128, 3) := by decide +kernel
theorem dX3_mixLink_58 : decode cX3_mixLink 58 = .ok (.idiv, 1) := by decide +kernel
theorem dX3_mixLink_59 : decode cX3_mixLink 59 = .ok (.invokevirtual 95, 3) := by decide +kernel
theorem dX3_mixLink_62 : decode cX3_mixLink 62 = .ok (.iinc 2 1, 3) := by decide +kernel
theorem dX3_mixLink_65 : decode cX3_mixLink 65 = .ok (.goto (-38), 3) := by decide +kernel
theorem dX3_mixLink_68 : decode cX3_mixLink 68 = .ok (.return_, 1) := by decide +kernel
theorem dX3_mixDestination_0 : decode cX3_mixDestination 0 = .ok (.iconst 0, 1) := by decide +kernel
theorem dX3_mixDestination_1 : decode cX3_mixDestination 1 = .ok (.istore_n 2, 1) := by decide +kernel
theorem dX3_mixDestination_2 : decode cX3_mixDestination 2 = .ok (.iload_n 2, 1) := by decide +kernel
theorem dX3_mixDestination_3 : decode cX3_mixDestination 3 = .ok (.aload_n 0, 1) := by decide +kernel
theorem dX3_mixDestination_4 : decode cX3_mixDestination 4 = .ok (.getfield 7, 3) := by decide +kernel
theorem dX3_mixDestination_7 : decode cX3_mixDestination 7 = .ok (.iconst 0, 1) := by decide +kernel
theorem dX3_mixDestination_8 : decode cX3_mixDestination 8 = .ok (.iaload, 1) := by decide +kernel
theorem dX3_mixDestination_9 : decode cX3_mixDestination 9 = .ok (.if_icmp .ge 45, 3) := by decide +kernel
theorem dX3_mixDestination_12 : decode cX3_mixDestination 12 = .ok (.aload_n 0, 1) := by decide +kernel
theorem dX3_mixDestination_13 : decode cX3_mixDestination 13 = .ok (.aload_n 0, 1) := by decide +kernel
theorem dX3_mixDestination_14 : decode cX3_mixDestination 14 = .ok (.getfield 7, 3) := by decide +kernel
theorem dX3_mixDestination_17 : decode cX3_mixDestination 17 = .ok (.sipush 197, 3) := by decide +kernel
theorem dX3_mixDestination_20 : decode cX3_mixDestination 20 = .ok (.iconst 4, 1) := by decide +kernel
theorem dX3_mixDestination_21 : decode cX3_mixDestination 21 = .ok (.iload_n 1, 1) := by decide +kernel
theorem dX3_mixDestination_22 : decode cX3_mixDestination 22 = .ok (.imul, 1) := by decide +kernel
theorem dX3_mixDestination_23 : decode cX3_mixDestination 23 = .ok (.iadd, 1) := by decide +kernel
theorem dX3_mixDestination_24 : decode cX3_mixDestination 24 = .ok (.iload_n 2, 1) := by decide +kernel
theorem dX3_mixDestination_25 : decode cX3_mixDestination 25 = .ok (.iadd, 1) := by decide +kernel
theorem dX3_mixDestination_26 : decode cX3_mixDestination 26 = .ok (.iaload, 1) := by decide +kernel
theorem dX3_mixDestination_27 : decode cX3_mixDestination 27 = .ok (.invokevirtual 95, 3) := by decide +kernel
theorem dX3_mixDestination_30 : decode cX3_mixDestination 30 = .ok (.aload_n 0, 1) := by decide +kernel
theorem dX3_mixDestination_31 : decode cX3_mixDestination 31 = .ok (.aload_n 0, 1) := by decide +kernel
theorem dX3_mixDestination_32 : decode cX3_mixDestination 32 = .ok (.getfield 7, 3) := by decide +kernel
theorem dX3_mixDestination_35 : decode cX3_mixDestination 35 = .ok (.sipush 221, 3) := by decide +kernel
theorem dX3_mixDestination_38 : decode cX3_mixDestination 38 = .ok (.iconst 4, 1) := by decide +kernel
theorem dX3_mixDestination_39 : decode cX3_mixDestination 39 = .ok (.iload_n 1, 1) := by decide +kernel
theorem dX3_mixDestination_40 : decode cX3_mixDestination 40 = .ok (.imul, 1) := by decide +kernel
theorem dX3_mixDestination_41 : decode cX3_mixDestination 41 = .ok (.iadd, 1) := by decide +kernel
theorem dX3_mixDestination_42 : decode cX3_mixDestination 42 = .ok (.iload_n 2, 1) := by decide +kernel
theorem dX3_mixDestination_43 : decode cX3_mixDestination 43 = .ok (.iadd, 1) := by decide +kernel
theorem dX3_mixDestination_44 : decode cX3_mixDestination 44 = .ok (.iaload, 1) := by decide +kernel
theorem dX3_mixDestination_45 : decode cX3_mixDestination 45 = .ok (.invokevirtual 95, 3) := by decide +kernel
theorem dX3_mixDestination_48 : decode cX3_mixDestination 48 = .ok (.iinc 2 1, 3) := by decide +kernel
theorem dX3_mixDestination_51 : decode cX3_mixDestination 51 = .ok (.goto (-49), 3) := by decide +kernel
theorem dX3_mixDestination_54 : decode cX3_mixDestination 54 = .ok (.bipush 16, 2) := by decide +kernel
theorem dX3_mixDestination_56 : decode cX3_mixDestination 56 = .ok (.iload_n 1, 1) := by decide +kernel
theorem dX3_mixDestination_57 : decode cX3_mixDestination 57 = .ok (.imul, 1) := by decide +kernel
theorem dX3_mixDestination_58 : decode cX3_mixDestination 58 = .ok (.istore_n 2, 1) := by decide +kernel
theorem dX3_mixDestination_59 : decode cX3_mixDestination 59 = .ok (.iload_n 2, 1) := by decide +kernel
theorem dX3_mixDestination_60 : decode cX3_mixDestination 60 = .ok (.bipush 16, 2) := by decide +kernel
theorem dX3_mixDestination_62 : decode cX3_mixDestination 62 = .ok (.iload_n 1, 1) := by decide +kernel
theorem dX3_mixDestination_63 : decode cX3_mixDestination 63 = .ok (.imul, 1) := by decide +kernel
theorem dX3_mixDestination_64 : decode cX3_mixDestination 64 = .ok (.bipush 16, 2) := by decide +kernel
theorem dX3_mixDestination_66 : decode cX3_mixDestination 66 = .ok (.iadd, 1) := by decide +kernel
theorem dX3_mixDestination_67 : decode cX3_mixDestination 67 = .ok (.if_icmp .ge 40, 3) := by decide +kernel
theorem dX3_mixDestination_70 : decode cX3_mixDestination 70 = .ok (.aload_n 0, 1) := by decide +kernel
theorem dX3_mixDestination_71 : decode cX3_mixDestination 71 = .ok (.aload_n 0, 1) := by decide +kernel
theorem dX3_mixDestination_72 : decode cX3_mixDestination 72 = .ok (.iload_n 2, 1) := by decide +kernel
theorem dX3_mixDestination_73 : decode cX3_mixDestination 73 = .ok (.invokevirtual 54, 3) := by decide +kernel
theorem dX3_mixDestination_76 : decode cX3_mixDestination 76 = .ok (.invokevirtual 95, 3) := by decide +kernel
theorem dX3_mixDestination_79 : decode cX3_mixDestination 79 = .ok (.aload_n 0, 1) := by decide +kernel
theorem dX3_mixDestination_80 : decode cX3_mixDestination 80 = .ok (.aload_n 0, 1) := by decide +kernel
theorem dX3_mixDestination_81 : decode cX3_mixDestination 81 = .ok (.getfield 7, 3) := by decide +kernel
theorem dX3_mixDestination_84 : decode cX3_mixDestination 84 = .ok (.sipush 245, 3) := by decide +kernel
theorem dX3_mixDestination_87 : decode cX3_mixDestination 87 = .ok (.iload_n 2, 1) := by decide +kernel
theorem dX3_mixDestination_88 : decode cX3_mixDestination 88 = .ok (.iadd, 1) := by decide +kernel
theorem dX3_mixDestination_89 : decode cX3_mixDestination 89 = .ok (.iaload, 1) := by decide +kernel
theorem dX3_mixDestination_90 : decode cX3_mixDestination 90 = .ok (.ifCond .le 7, 3) := by decide +kernel
theorem dX3_mixDestination_93 : decode cX3_mixDestination 93 = .ok (.iconst 1, 1) := by decide +kernel
theorem dX3_mixDestination_94 : decode cX3_mixDestination 94 = .ok (.goto 4, 3) := by decide +kernel
theorem dX3_mixDestination_97 : decode cX3_mixDestination 97 = .ok (.iconst 0, 1) := by decide +kernel
theorem dX3_mixDestination_98 : decode cX3_mixDestination 98 = .ok (.invokevirtual 95, 3) := by decide +kernel
theorem dX3_mixDestination_101 : decode cX3_mixDestination 101 = .ok (.iinc 2 1, 3) := by decide +kernel
theorem dX3_mixDestination_104 : decode cX3_mixDestination 104 = .ok (.goto (-45), 3) := by decide +kernel
theorem dX3_mixDestination_107 : decode cX3_mixDestination 107 = .ok (.return_, 1) := by decide +kernel
theorem dX3_digest_0 : decode cX3_digest 0 = .ok (.aload_n 0, 1) := by decide +kernel
theorem dX3_digest_1 : decode cX3_digest 1 = .ok (.ldc2_w 98, 3) := by decide +kernel
theorem dX3_digest_4 : decode cX3_digest 4 = .ok (.putfield 91, 3) := by decide +kernel
theorem dX3_digest_7 : decode cX3_digest 7 = .ok (.iconst 0, 1) := by decide +kernel
theorem dX3_digest_8 : decode cX3_digest 8 = .ok (.istore_n 1, 1) := by decide +kernel
theorem dX3_digest_9 : decode cX3_digest 9 = .ok (.iload_n 1, 1) := by decide +kernel
theorem dX3_digest_10 : decode cX3_digest 10 = .ok (.iconst 3, 1) := by decide +kernel
theorem dX3_digest_11 : decode cX3_digest 11 = .ok (.if_icmp .ge 19, 3) := by decide +kernel
theorem dX3_digest_14 : decode cX3_digest 14 = .ok (.aload_n 0, 1) := by decide +kernel
theorem dX3_digest_15 : decode cX3_digest 15 = .ok (.aload_n 0, 1) := by decide +kernel
theorem dX3_digest_16 : decode cX3_digest 16 = .ok (.getfield 16, 3) := by decide +kernel
theorem dX3_digest_19 : decode cX3_digest 19 = .ok (.iload_n 1, 1) := by decide +kernel
theorem dX3_digest_20 : decode cX3_digest 20 = .ok (.iaload, 1) := by decide +kernel
theorem dX3_digest_21 : decode cX3_digest 21 = .ok (.invokevirtual 95, 3) := by decide +kernel
theorem dX3_digest_24 : decode cX3_digest 24 = .ok (.iinc 1 1, 3) := by decide +kernel
theorem dX3_digest_27 : decode cX3_digest 27 = .ok (.goto (-18), 3) := by decide +kernel
theorem dX3_digest_30 : decode cX3_digest 30 = .ok (.aload_n 0, 1) := by decide +kernel
theorem dX3_digest_31 : decode cX3_digest 31 = .ok (.aload_n 0, 1) := by decide +kernel
theorem dX3_digest_32 : decode cX3_digest 32 = .ok (.getfield 25, 3) := by decide +kernel
theorem dX3_digest_35 : decode cX3_digest 35 = .ok (.invokevirtual 95, 3) := by decide +kernel
theorem dX3_digest_38 : decode cX3_digest 38 = .ok (.sipush 462, 3) := by decide +kernel
theorem dX3_digest_41 : decode cX3_digest 41 = .ok (.istore_n 1, 1) := by decide +kernel
theorem dX3_digest_42 : decode cX3_digest 42 = .ok (.iload_n 1, 1) := by decide +kernel
theorem dX3_digest_43 : decode cX3_digest 43 = .ok (.sipush 469, 3) := by decide +kernel
theorem dX3_digest_46 : decode cX3_digest 46 = .ok (.if_icmp .gt 19, 3) := by decide +kernel
theorem dX3_digest_49 : decode cX3_digest 49 = .ok (.aload_n 0, 1) := by decide +kernel
theorem dX3_digest_50 : decode cX3_digest 50 = .ok (.aload_n 0, 1) := by decide +kernel
theorem dX3_digest_51 : decode cX3_digest 51 = .ok (.getfield 7, 3) := by decide +kernel
theorem dX3_digest_54 : decode cX3_digest 54 = .ok (.iload_n 1, 1) := by decide +kernel
theorem dX3_digest_55 : decode cX3_digest 55 = .ok (.iaload, 1) := by decide +kernel
theorem dX3_digest_56 : decode cX3_digest 56 = .ok (.invokevirtual 95, 3) := by decide +kernel
theorem dX3_digest_59 : decode cX3_digest 59 = .ok (.iinc 1 1, 3) := by decide +kernel
theorem dX3_digest_62 : decode cX3_digest 62 = .ok (.goto (-20), 3) := by decide +kernel
theorem dX3_digest_65 : decode cX3_digest 65 = .ok (.aload_n 0, 1) := by decide +kernel
theorem dX3_digest_66 : decode cX3_digest 66 = .ok (.aload_n 0, 1) := by decide +kernel
theorem dX3_digest_67 : decode cX3_digest 67 = .ok (.getfield 7, 3) := by decide +kernel
theorem dX3_digest_70 : decode cX3_digest 70 = .ok (.iconst 0, 1) := by decide +kernel
theorem dX3_digest_71 : decode cX3_digest 71 = .ok (.iaload, 1) := by decide +kernel
theorem dX3_digest_72 : decode cX3_digest 72 = .ok (.invokevirtual 95, 3) := by decide +kernel
theorem dX3_digest_75 : decode cX3_digest 75 = .ok (.iconst 0, 1) := by decide +kernel
theorem dX3_digest_76 : decode cX3_digest 76 = .ok (.istore_n 1, 1) := by decide +kernel
theorem dX3_digest_77 : decode cX3_digest 77 = .ok (.iload_n 1, 1) := by decide +kernel
theorem dX3_digest_78 : decode cX3_digest 78 = .ok (.aload_n 0, 1) := by decide +kernel
theorem dX3_digest_79 : decode cX3_digest 79 = .ok (.getfield 7, 3) := by decide +kernel
theorem dX3_digest_82 : decode cX3_digest 82 = .ok (.iconst 0, 1) := by decide +kernel
theorem dX3_digest_83 : decode cX3_digest 83 = .ok (.iaload, 1) := by decide +kernel
theorem dX3_digest_84 : decode cX3_digest 84 = .ok (.if_icmp .ge 50, 3) := by decide +kernel
theorem dX3_digest_87 : decode cX3_digest 87 = .ok (.aload_n 0, 1) := by decide +kernel
theorem dX3_digest_88 : decode cX3_digest 88 = .ok (.aload_n 0, 1) := by decide +kernel
theorem dX3_digest_89 : decode cX3_digest 89 = .ok (.getfield 7, 3) := by decide +kernel
theorem dX3_digest_92 : decode cX3_digest 92 = .ok (.iconst 1, 1) := by decide +kernel
theorem dX3_digest_93 : decode cX3_digest 93 = .ok (.iload_n 1, 1) := by decide +kernel
theorem dX3_digest_94 : decode cX3_digest 94 = .ok (.iadd, 1) := by decide +kernel
theorem dX3_digest_95 : decode cX3_digest 95 = .ok (.iaload, 1) := by decide +kernel
theorem dX3_digest_96 : decode cX3_digest 96 = .ok (.invokevirtual 95, 3) := by decide +kernel
theorem dX3_digest_99 : decode cX3_digest 99 = .ok (.iconst 0, 1) := by decide +kernel
theorem dX3_digest_100 : decode cX3_digest 100 = .ok (.istore_n 2, 1) := by decide +kernel
theorem dX3_digest_101 : decode cX3_digest 101 = .ok (.iload_n 2, 1) := by decide +kernel
theorem dX3_digest_102 : decode cX3_digest 102 = .ok (.aload_n 0, 1) := by decide +kernel
theorem dX3_digest_103 : decode cX3_digest 103 = .ok (.getfield 7, 3) := by decide +kernel
theorem dX3_digest_106 : decode cX3_digest 106 = .ok (.iconst 1, 1) := by decide +kernel
theorem dX3_digest_107 : decode cX3_digest 107 = .ok (.iload_n 1, 1) := by decide +kernel
theorem dX3_digest_108 : decode cX3_digest 108 = .ok (.iadd, 1) := by decide +kernel
theorem dX3_digest_109 : decode cX3_digest 109 = .ok (.iaload, 1) := by decide +kernel
theorem dX3_digest_110 : decode cX3_digest 110 = .ok (.if_icmp .ge 18, 3) := by decide +kernel
theorem dX3_digest_113 : decode cX3_digest 113 = .ok (.aload_n 0, 1) := by decide +kernel
theorem dX3_digest_114 : decode cX3_digest 114 = .ok (.iconst 4, 1) := by decide +kernel
theorem dX3_digest_115 : decode cX3_digest 115 = .ok (.iload_n 1, 1) := by decide +kernel
theorem dX3_digest_116 : decode cX3_digest 116 = .ok (.imul, 1) := by decide +kernel
theorem dX3_digest_117 : decode cX3_digest 117 = .ok (.iload_n 2, 1) := by decide +kernel
theorem dX3_digest_118 : decode cX3_digest 118 = .ok (.iadd, 1) := by decide +kernel
theorem dX3_digest_119 : decode cX3_digest 119 = .ok (.invokevirtual 100, 3) := by decide +kernel
theorem dX3_digest_122 : decode cX3_digest 122 = .ok (.iinc 2 1, 3) := by decide +kernel
theorem dX3_digest_125 : decode cX3_digest 125 = .ok (.goto (-24), 3) := by decide +kernel
theorem dX3_digest_128 : decode cX3_digest 128 = .ok (.iinc 1 1, 3) := by decide +kernel
theorem dX3_digest_131 : decode cX3_digest 131 = .ok (.goto (-54), 3) := by decide +kernel
theorem dX3_digest_134 : decode cX3_digest 134 = .ok (.iconst 0, 1) := by decide +kernel
theorem dX3_digest_135 : decode cX3_digest 135 = .ok (.istore_n 1, 1) := by decide +kernel
theorem dX3_digest_136 : decode cX3_digest 136 = .ok (.iload_n 1, 1) := by decide +kernel
theorem dX3_digest_137 : decode cX3_digest 137 = .ok (.bipush 6, 2) := by decide +kernel
theorem dX3_digest_139 : decode cX3_digest 139 = .ok (.if_icmp .ge 14, 3) := by decide +kernel
theorem dX3_digest_142 : decode cX3_digest 142 = .ok (.aload_n 0, 1) := by decide +kernel
theorem dX3_digest_143 : decode cX3_digest 143 = .ok (.iload_n 1, 1) := by decide +kernel
theorem dX3_digest_144 : decode cX3_digest 144 = .ok (.invokevirtual 103, 3) := by decide +kernel
theorem dX3_digest_147 : decode cX3_digest 147 = .ok (.iinc 1 1, 3) := by decide +kernel
theorem dX3_digest_150 : decode cX3_digest 150 = .ok (.goto (-14), 3) := by decide +kernel
theorem dX3_digest_153 : decode cX3_digest 153 = .ok (.aload_n 0, 1) := by decide +kernel
theorem dX3_digest_154 : decode cX3_digest 154 = .ok (.aload_n 0, 1) := by decide +kernel
theorem dX3_digest_155 : decode cX3_digest 155 = .ok (.getfield 7, 3) := by decide +kernel
theorem dX3_digest_158 : decode cX3_digest 158 = .ok (.sipush 341, 3) := by decide +kernel
theorem dX3_digest_161 : decode cX3_digest 161 = .ok (.iaload, 1) := by decide +kernel
theorem dX3_digest_162 : decode cX3_digest 162 = .ok (.invokevirtual 95, 3) := by decide +kernel
theorem dX3_digest_165 : decode cX3_digest 165 = .ok (.iconst 0, 1) := by decide +kernel
theorem dX3_digest_166 : decode cX3_digest 166 = .ok (.istore_n 1, 1) := by decide +kernel
theorem dX3_digest_167 : decode cX3_digest 167 = .ok (.iload_n 1, 1) := by decide +kernel
theorem dX3_digest_168 : decode cX3_digest 168 = .ok (.aload_n 0, 1) := by decide +kernel
theorem dX3_digest_169 : decode cX3_digest 169 = .ok (.getfield 7, 3) := by decide +kernel
theorem dX3_digest_172 : decode cX3_digest 172 = .ok (.sipush 341, 3) := by decide +kernel
theorem dX3_digest_175 : decode cX3_digest 175 = .ok (.iaload, 1) := by decide +kernel
theorem dX3_digest_176 : decode cX3_digest 176 = .ok (.if_icmp .ge 27, 3) := by decide +kernel
theorem dX3_digest_179 : decode cX3_digest 179 = .ok (.aload_n 0, 1) := by decide +kernel
theorem dX3_digest_180 : decode cX3_digest 180 = .ok (.aload_n 0, 1) := by decide +kernel
theorem dX3_digest_181 : decode cX3_digest 181 = .ok (.getfield 7, 3) := by decide +kernel
theorem dX3_digest_184 : decode cX3_digest 184 = .ok (.sipush 342, 3) := by decide +kernel
theorem dX3_digest_187 : decode cX3_digest 187 = .ok (.iload_n 1, 1) := by decide +kernel
theorem dX3_digest_188 : decode cX3_digest 188 = .ok (.iadd, 1) := by decide +kernel
theorem dX3_digest_189 : decode cX3_digest 189 = .ok (.iaload, 1) := by decide +kernel
theorem dX3_digest_190 : decode cX3_digest 190 = .ok (.sipush 128, 3) := by decide +kernel
theorem dX3_digest_193 : decode cX3_digest 193 = .ok (.idiv, 1) := by decide +kernel
theorem dX3_digest_194 : decode cX3_digest 194 = .ok (.invokevirtual 95, 3) := by decide +kernel
theorem dX3_digest_197 : decode cX3_digest 197 = .ok (.iinc 1 1, 3) := by decide +kernel
theorem dX3_digest_200 : decode cX3_digest 200 = .ok (.goto (-33), 3) := by decide +kernel
theorem dX3_digest_203 : decode cX3_digest 203 = .ok (.aload_n 0, 1) := by decide +kernel
theorem dX3_digest_204 : decode cX3_digest 204 = .ok (.getfield 91, 3) := by decide +kernel
theorem dX3_digest_207 : decode cX3_digest 207 = .ok (.lreturn, 1) := by decide +kernel
theorem dJ6_bitCount_0f7a4_0 : decode cJ6_bitCount_0f7a4 0 = .ok (.iload_n 0, 1) := by decide +kernel
theorem dJ6_bitCount_0f7a4_1 : decode cJ6_bitCount_0f7a4 1 = .ok (.iload_n 0, 1) := by decide +kernel
theorem dJ6_bitCount_0f7a4_2 : decode cJ6_bitCount_0f7a4 2 = .ok (.iconst 1, 1) := by decide +kernel
theorem dJ6_bitCount_0f7a4_3 : decode cJ6_bitCount_0f7a4 3 = .ok (.iushr, 1) := by decide +kernel
theorem dJ6_bitCount_0f7a4_4 : decode cJ6_bitCount_0f7a4 4 = .ok (.ldc_w 265, 3) := by decide +kernel
theorem dJ6_bitCount_0f7a4_7 : decode cJ6_bitCount_0f7a4 7 = .ok (.iand, 1) := by decide +kernel
theorem dJ6_bitCount_0f7a4_8 : decode cJ6_bitCount_0f7a4 8 = .ok (.isub, 1) := by decide +kernel
theorem dJ6_bitCount_0f7a4_9 : decode cJ6_bitCount_0f7a4 9 = .ok (.istore_n 0, 1) := by decide +kernel
theorem dJ6_bitCount_0f7a4_10 : decode cJ6_bitCount_0f7a4 10 = .ok (.iload_n 0, 1) := by decide +kernel
theorem dJ6_bitCount_0f7a4_11 : decode cJ6_bitCount_0f7a4 11 = .ok (.ldc_w 266, 3) := by decide +kernel
theorem dJ6_bitCount_0f7a4_14 : decode cJ6_bitCount_0f7a4 14 = .ok (.iand, 1) := by decide +kernel
theorem dJ6_bitCount_0f7a4_15 : decode cJ6_bitCount_0f7a4 15 = .ok (.iload_n 0, 1) := by decide +kernel
theorem dJ6_bitCount_0f7a4_16 : decode cJ6_bitCount_0f7a4 16 = .ok (.iconst 2, 1) := by decide +kernel
theorem dJ6_bitCount_0f7a4_17 : decode cJ6_bitCount_0f7a4 17 = .ok (.iushr, 1) := by decide +kernel
theorem dJ6_bitCount_0f7a4_18 : decode cJ6_bitCount_0f7a4 18 = .ok (.ldc_w 266, 3) := by decide +kernel
theorem dJ6_bitCount_0f7a4_21 : decode cJ6_bitCount_0f7a4 21 = .ok (.iand, 1) := by decide +kernel
theorem dJ6_bitCount_0f7a4_22 : decode cJ6_bitCount_0f7a4 22 = .ok (.iadd, 1) := by decide +kernel
theorem dJ6_bitCount_0f7a4_23 : decode cJ6_bitCount_0f7a4 23 = .ok (.istore_n 0, 1) := by decide +kernel
theorem dJ6_bitCount_0f7a4_24 : decode cJ6_bitCount_0f7a4 24 = .ok (.iload_n 0, 1) := by decide +kernel
theorem dJ6_bitCount_0f7a4_25 : decode cJ6_bitCount_0f7a4 25 = .ok (.iload_n 0, 1) := by decide +kernel
theorem dJ6_bitCount_0f7a4_26 : decode cJ6_bitCount_0f7a4 26 = .ok (.iconst 4, 1) := by decide +kernel
theorem dJ6_bitCount_0f7a4_27 : decode cJ6_bitCount_0f7a4 27 = .ok (.iushr, 1) := by decide +kernel
theorem dJ6_bitCount_0f7a4_28 : decode cJ6_bitCount_0f7a4 28 = .ok (.iadd, 1) := by decide +kernel
theorem dJ6_bitCount_0f7a4_29 : decode cJ6_bitCount_0f7a4 29 = .ok (.ldc_w 267, 3) := by decide +kernel
theorem dJ6_bitCount_0f7a4_32 : decode cJ6_bitCount_0f7a4 32 = .ok (.iand, 1) := by decide +kernel
theorem dJ6_bitCount_0f7a4_33 : decode cJ6_bitCount_0f7a4 33 = .ok (.istore_n 0, 1) := by decide +kernel
theorem dJ6_bitCount_0f7a4_34 : decode cJ6_bitCount_0f7a4 34 = .ok (.iload_n 0, 1) := by decide +kernel
theorem dJ6_bitCount_0f7a4_35 : decode cJ6_bitCount_0f7a4 35 = .ok (.iload_n 0, 1) := by decide +kernel
theorem dJ6_bitCount_0f7a4_36 : decode cJ6_bitCount_0f7a4 36 = .ok (.bipush 8, 2) := by decide +kernel
theorem dJ6_bitCount_0f7a4_38 : decode cJ6_bitCount_0f7a4 38 = .ok (.iushr, 1) := by decide +kernel
theorem dJ6_bitCount_0f7a4_39 : decode cJ6_bitCount_0f7a4 39 = .ok (.iadd, 1) := by decide +kernel
theorem dJ6_bitCount_0f7a4_40 : decode cJ6_bitCount_0f7a4 40 = .ok (.istore_n 0, 1) := by decide +kernel
theorem dJ6_bitCount_0f7a4_41 : decode cJ6_bitCount_0f7a4 41 = .ok (.iload_n 0, 1) := by decide +kernel
theorem dJ6_bitCount_0f7a4_42 : decode cJ6_bitCount_0f7a4 42 = .ok (.iload_n 0, 1) := by decide +kernel
theorem dJ6_bitCount_0f7a4_43 : decode cJ6_bitCount_0f7a4 43 = .ok (.bipush 16, 2) := by decide +kernel
theorem dJ6_bitCount_0f7a4_45 : decode cJ6_bitCount_0f7a4 45 = .ok (.iushr, 1) := by decide +kernel
theorem dJ6_bitCount_0f7a4_46 : decode cJ6_bitCount_0f7a4 46 = .ok (.iadd, 1) := by decide +kernel
theorem dJ6_bitCount_0f7a4_47 : decode cJ6_bitCount_0f7a4 47 = .ok (.istore_n 0, 1) := by decide +kernel
theorem dJ6_bitCount_0f7a4_48 : decode cJ6_bitCount_0f7a4 48 = .ok (.iload_n 0, 1) := by decide +kernel
theorem dJ6_bitCount_0f7a4_49 : decode cJ6_bitCount_0f7a4 49 = .ok (.bipush 63, 2) := by decide +kernel
theorem dJ6_bitCount_0f7a4_51 : decode cJ6_bitCount_0f7a4 51 = .ok (.iand, 1) := by decide +kernel
theorem dJ6_bitCount_0f7a4_52 : decode cJ6_bitCount_0f7a4 52 = .ok (.ireturn, 1) := by decide +kernel
theorem dJ9_floorDiv_7cf53_0 : decode cJ9_floorDiv_7cf53 0 = .ok (.iload_n 0, 1) := by decide +kernel
theorem dJ9_floorDiv_7cf53_1 : decode cJ9_floorDiv_7cf53 1 = .ok (.iload_n 1, 1) := by decide +kernel
theorem dJ9_floorDiv_7cf53_2 : decode cJ9_floorDiv_7cf53 2 = .ok (.idiv, 1) := by decide +kernel
theorem dJ9_floorDiv_7cf53_3 : decode cJ9_floorDiv_7cf53 3 = .ok (.istore_n 2, 1) := by decide +kernel
theorem dJ9_floorDiv_7cf53_4 : decode cJ9_floorDiv_7cf53 4 = .ok (.iload_n 0, 1) := by decide +kernel
theorem dJ9_floorDiv_7cf53_5 : decode cJ9_floorDiv_7cf53 5 = .ok (.iload_n 1, 1) := by decide +kernel
theorem dJ9_floorDiv_7cf53_6 : decode cJ9_floorDiv_7cf53 6 = .ok (.ixor, 1) := by decide +kernel
theorem dJ9_floorDiv_7cf53_7 : decode cJ9_floorDiv_7cf53 7 = .ok (.ifCond .ge 14, 3) := by decide +kernel
theorem dJ9_floorDiv_7cf53_10 : decode cJ9_floorDiv_7cf53 10 = .ok (.iload_n 2, 1) := by decide +kernel
theorem dJ9_floorDiv_7cf53_11 : decode cJ9_floorDiv_7cf53 11 = .ok (.iload_n 1, 1) := by decide +kernel
theorem dJ9_floorDiv_7cf53_12 : decode cJ9_floorDiv_7cf53 12 = .ok (.imul, 1) := by decide +kernel
theorem dJ9_floorDiv_7cf53_13 : decode cJ9_floorDiv_7cf53 13 = .ok (.iload_n 0, 1) := by decide +kernel
theorem dJ9_floorDiv_7cf53_14 : decode cJ9_floorDiv_7cf53 14 = .ok (.if_icmp .eq 7, 3) := by decide +kernel
theorem dJ9_floorDiv_7cf53_17 : decode cJ9_floorDiv_7cf53 17 = .ok (.iload_n 2, 1) := by decide +kernel
theorem dJ9_floorDiv_7cf53_18 : decode cJ9_floorDiv_7cf53 18 = .ok (.iconst 1, 1) := by decide +kernel
theorem dJ9_floorDiv_7cf53_19 : decode cJ9_floorDiv_7cf53 19 = .ok (.isub, 1) := by decide +kernel
theorem dJ9_floorDiv_7cf53_20 : decode cJ9_floorDiv_7cf53 20 = .ok (.ireturn, 1) := by decide +kernel
theorem dJ9_floorDiv_7cf53_21 : decode cJ9_floorDiv_7cf53 21 = .ok (.iload_n 2, 1) := by decide +kernel
theorem dJ9_floorDiv_7cf53_22 : decode cJ9_floorDiv_7cf53 22 = .ok (.ireturn, 1) := by decide +kernel
theorem dJ9_floorMod_7cf53_0 : decode cJ9_floorMod_7cf53 0 = .ok (.iload_n 0, 1) := by decide +kernel
theorem dJ9_floorMod_7cf53_1 : decode cJ9_floorMod_7cf53 1 = .ok (.iload_n 1, 1) := by decide +kernel
theorem dJ9_floorMod_7cf53_2 : decode cJ9_floorMod_7cf53 2 = .ok (.irem, 1) := by decide +kernel
theorem dJ9_floorMod_7cf53_3 : decode cJ9_floorMod_7cf53 3 = .ok (.istore_n 2, 1) := by decide +kernel
theorem dJ9_floorMod_7cf53_4 : decode cJ9_floorMod_7cf53 4 = .ok (.iload_n 0, 1) := by decide +kernel
theorem dJ9_floorMod_7cf53_5 : decode cJ9_floorMod_7cf53 5 = .ok (.iload_n 1, 1) := by decide +kernel
theorem dJ9_floorMod_7cf53_6 : decode cJ9_floorMod_7cf53 6 = .ok (.ixor, 1) := by decide +kernel
theorem dJ9_floorMod_7cf53_7 : decode cJ9_floorMod_7cf53 7 = .ok (.ifCond .ge 11, 3) := by decide +kernel
theorem dJ9_floorMod_7cf53_10 : decode cJ9_floorMod_7cf53 10 = .ok (.iload_n 2, 1) := by decide +kernel
theorem dJ9_floorMod_7cf53_11 : decode cJ9_floorMod_7cf53 11 = .ok (.ifCond .eq 7, 3) := by decide +kernel
theorem dJ9_floorMod_7cf53_14 : decode cJ9_floorMod_7cf53 14 = .ok (.iload_n 2, 1) := by decide +kernel
theorem dJ9_floorMod_7cf53_15 : decode cJ9_floorMod_7cf53 15 = .ok (.iload_n 1, 1) := by decide +kernel
theorem dJ9_floorMod_7cf53_16 : decode cJ9_floorMod_7cf53 16 = .ok (.iadd, 1) := by decide +kernel
theorem dJ9_floorMod_7cf53_17 : decode cJ9_floorMod_7cf53 17 = .ok (.ireturn, 1) := by decide +kernel
theorem dJ9_floorMod_7cf53_18 : decode cJ9_floorMod_7cf53 18 = .ok (.iload_n 2, 1) := by decide +kernel
theorem dJ9_floorMod_7cf53_19 : decode cJ9_floorMod_7cf53 19 = .ok (.ireturn, 1) := by decide +kernel
theorem dJ9_min_7cf53_0 : decode cJ9_min_7cf53 0 = .ok (.iload_n 0, 1) := by decide +kernel
theorem dJ9_min_7cf53_1 : decode cJ9_min_7cf53 1 = .ok (.iload_n 1, 1) := by decide +kernel
theorem dJ9_min_7cf53_2 : decode cJ9_min_7cf53 2 = .ok (.if_icmp .gt 7, 3) := by decide +kernel
theorem dJ9_min_7cf53_5 : decode cJ9_min_7cf53 5 = .ok (.iload_n 0, 1) := by decide +kernel
theorem dJ9_min_7cf53_6 : decode cJ9_min_7cf53 6 = .ok (.goto 4, 3) := by decide +kernel
theorem dJ9_min_7cf53_9 : decode cJ9_min_7cf53 9 = .ok (.iload_n 1, 1) := by decide +kernel
theorem dJ9_min_7cf53_10 : decode cJ9_min_7cf53 10 = .ok (.ireturn, 1) := by decide +kernel
theorem dJ7_fill_53178_0 : decode cJ7_fill_53178 0 = .ok (.iconst 0, 1) := by decide +kernel
theorem dJ7_fill_53178_1 : decode cJ7_fill_53178 1 = .ok (.istore_n 2, 1) := by decide +kernel
theorem dJ7_fill_53178_2 : decode cJ7_fill_53178 2 = .ok (.aload_n 0, 1) := by decide +kernel
theorem dJ7_fill_53178_3 : decode cJ7_fill_53178 3 = .ok (.arraylength, 1) := by decide +kernel
theorem dJ7_fill_53178_4 : decode cJ7_fill_53178 4 = .ok (.istore_n 3, 1) := by decide +kernel
theorem dJ7_fill_53178_5 : decode cJ7_fill_53178 5 = .ok (.iload_n 2, 1) := by decide +kernel
theorem dJ7_fill_53178_6 : decode cJ7_fill_53178 6 = .ok (.iload_n 3, 1) := by decide +kernel
theorem dJ7_fill_53178_7 : decode cJ7_fill_53178 7 = .ok (.if_icmp .ge 13, 3) := by decide +kernel
theorem dJ7_fill_53178_10 : decode cJ7_fill_53178 10 = .ok (.aload_n 0, 1) := by decide +kernel
theorem dJ7_fill_53178_11 : decode cJ7_fill_53178 11 = .ok (.iload_n 2, 1) := by decide +kernel
theorem dJ7_fill_53178_12 : decode cJ7_fill_53178 12 = .ok (.iload_n 1, 1) := by decide +kernel
theorem dJ7_fill_53178_13 : decode cJ7_fill_53178 13 = .ok (.iastore, 1) := by decide +kernel
theorem dJ7_fill_53178_14 : decode cJ7_fill_53178 14 = .ok (.iinc 2 1, 3) := by decide +kernel
theorem dJ7_fill_53178_17 : decode cJ7_fill_53178 17 = .ok (.goto (-12), 3) := by decide +kernel
theorem dJ7_fill_53178_20 : decode cJ7_fill_53178 20 = .ok (.return_, 1) := by decide +kernel
theorem dL_law_0 : decode cL_law 0 = .ok (.new 7, 3) := by decide +kernel
theorem dL_law_3 : decode cL_law 3 = .ok (.dup, 1) := by decide +kernel
theorem dL_law_4 : decode cL_law 4 = .ok (.invokespecial 9, 3) := by decide +kernel
theorem dL_law_7 : decode cL_law 7 = .ok (.astore_n 1, 1) := by decide +kernel
theorem dL_law_8 : decode cL_law 8 = .ok (.new 10, 3) := by decide +kernel
theorem dL_law_11 : decode cL_law 11 = .ok (.dup, 1) := by decide +kernel
theorem dL_law_12 : decode cL_law 12 = .ok (.invokespecial 12, 3) := by decide +kernel
theorem dL_law_15 : decode cL_law 15 = .ok (.astore_n 2, 1) := by decide +kernel
theorem dL_law_16 : decode cL_law 16 = .ok (.iconst 0, 1) := by decide +kernel
theorem dL_law_17 : decode cL_law 17 = .ok (.istore_n 3, 1) := by decide +kernel
theorem dL_law_18 : decode cL_law 18 = .ok (.iload_n 3, 1) := by decide +kernel
theorem dL_law_19 : decode cL_law 19 = .ok (.aload_n 0, 1) := by decide +kernel
theorem dL_law_20 : decode cL_law 20 = .ok (.arraylength, 1) := by decide +kernel
theorem dL_law_21 : decode cL_law 21 = .ok (.iconst 4, 1) := by decide +kernel
theorem dL_law_22 : decode cL_law 22 = .ok (.isub, 1) := by decide +kernel
theorem dL_law_23 : decode cL_law 23 = .ok (.if_icmp .gt 905, 3) := by decide +kernel
theorem dL_law_26 : decode cL_law 26 = .ok (.aload_n 0, 1) := by decide +kernel
theorem dL_law_27 : decode cL_law 27 = .ok (.iload_n 3, 1) := by decide +kernel
theorem dL_law_28 : decode cL_law 28 = .ok (.iaload, 1) := by decide +kernel
theorem dL_law_29 : decode cL_law 29 = .ok (.bipush 31, 2) := by decide +kernel
theorem dL_law_31 : decode cL_law 31 = .ok (.iand, 1) := by decide +kernel
theorem dL_law_32 : decode cL_law 32 = .ok (.tableswitch 890 0 28 #[132, 155, 188, 221, 264, 297, 340, 373, 406, 449, 482, 525, 558, 581, 614, 657, 680, 693, 706, 739, 752, 765, 778, 791, 804, 817, 840, 853, 876], 132) := by decide +kernel
theorem dL_law_164 : decode cL_law 164 = .ok (.aload_n 1, 1) := by decide +kernel
theorem dL_law_165 : decode cL_law 165 = .ok (.aload_n 0, 1) := by decide +kernel
theorem dL_law_166 : decode cL_law 166 = .ok (.iload_n 3, 1) := by decide +kernel
theorem dL_law_167 : decode cL_law 167 = .ok (.iconst 1, 1) := by decide +kernel
theorem dL_law_168 : decode cL_law 168 = .ok (.iadd, 1) := by decide +kernel
theorem dL_law_169 : decode cL_law 169 = .ok (.iaload, 1) := by decide +kernel
theorem dL_law_170 : decode cL_law 170 = .ok (.invokevirtual 13, 3) := by decide +kernel
theorem dL_law_173 : decode cL_law 173 = .ok (.aload_n 2, 1) := by decide +kernel
theorem dL_law_174 : decode cL_law 174 = .ok (.aload_n 0, 1) := by decide +kernel
theorem dL_law_175 : decode cL_law 175 = .ok (.iload_n 3, 1) := by decide +kernel
theorem dL_law_176 : decode cL_law 176 = .ok (.iconst 1, 1) := by decide +kernel
theorem dL_law_177 : decode cL_law 177 = .ok (.iadd, 1) := by decide +kernel
theorem dL_law_178 : decode cL_law 178 = .ok (.iaload, 1) := by decide +kernel
theorem dL_law_179 : decode cL_law 179 = .ok (.invokevirtual 17, 3) := by decide +kernel
theorem dL_law_182 : decode cL_law 182 = .ok (.if_icmp .eq 740, 3) := by decide +kernel
theorem dL_law_185 : decode cL_law 185 = .ok (.iconst 0, 1) := by decide +kernel
theorem dL_law_186 : decode cL_law 186 = .ok (.ireturn, 1) := by decide +kernel
theorem dL_law_187 : decode cL_law 187 = .ok (.aload_n 1, 1) := by decide +kernel
theorem dL_law_188 : decode cL_law 188 = .ok (.aload_n 0, 1) := by decide +kernel
theorem dL_law_189 : decode cL_law 189 = .ok (.iload_n 3, 1) := by decide +kernel
theorem dL_law_190 : decode cL_law 190 = .ok (.iconst 1, 1) := by decide +kernel
theorem dL_law_191 : decode cL_law 191 = .ok (.iadd, 1) := by decide +kernel
theorem dL_law_192 : decode cL_law 192 = .ok (.iaload, 1) := by decide +kernel
theorem dL_law_193 : decode cL_law 193 = .ok (.aload_n 0, 1) := by decide +kernel
theorem dL_law_194 : decode cL_law 194 = .ok (.iload_n 3, 1) := by decide +kernel
theorem dL_law_195 : decode cL_law 195 = .ok (.iconst 2, 1) := by decide +kernel
theorem dL_law_196 : decode cL_law 196 = .ok (.iadd, 1) := by decide +kernel
theorem dL_law_197 : decode cL_law 197 = .ok (.iaload, 1) := by decide +kernel
theorem dL_law_198 : decode cL_law 198 = .ok (.invokevirtual 18, 3) := by decide +kernel
theorem dL_law_201 : decode cL_law 201 = .ok (.aload_n 2, 1) := by decide +kernel
theorem dL_law_202 : decode cL_law 202 = .ok (.aload_n 0, 1) := by decide +kernel
theorem dL_law_203 : decode cL_law 203 = .ok (.iload_n 3, 1) := by decide +kernel
theorem dL_law_204 : decode cL_law 204 = .ok (.iconst 1, 1) := by decide +kernel
theorem dL_law_205 : decode cL_law 205 = .ok (.iadd, 1) := by decide +kernel
theorem dL_law_206 : decode cL_law 206 = .ok (.iaload, 1) := by decide +kernel
theorem dL_law_207 : decode cL_law 207 = .ok (.aload_n 0, 1) := by decide +kernel
theorem dL_law_208 : decode cL_law 208 = .ok (.iload_n 3, 1) := by decide +kernel
theorem dL_law_209 : decode cL_law 209 = .ok (.iconst 2, 1) := by decide +kernel
theorem dL_law_210 : decode cL_law 210 = .ok (.iadd, 1) := by decide +kernel
theorem dL_law_211 : decode cL_law 211 = .ok (.iaload, 1) := by decide +kernel
theorem dL_law_212 : decode cL_law 212 = .ok (.invokevirtual 22, 3) := by decide +kernel
theorem dL_law_215 : decode cL_law 215 = .ok (.if_icmp .eq 707, 3) := by decide +kernel
theorem dL_law_218 : decode cL_law 218 = .ok (.iconst 0, 1) := by decide +kernel
theorem dL_law_219 : decode cL_law 219 = .ok (.ireturn, 1) := by decide +kernel
theorem dL_law_220 : decode cL_law 220 = .ok (.aload_n 1, 1) := by decide +kernel
theorem dL_law_221 : decode cL_law 221 = .ok (.aload_n 0, 1) := by decide +kernel
theorem dL_law_222 : decode cL_law 222 = .ok (.iload_n 3, 1) := by decide +kernel
theorem dL_law_223 : decode cL_law 223 = .ok (.iconst 1, 1) := by decide +kernel
theorem dL_law_224 : decode cL_law 224 = .ok (.iadd, 1) := by decide +kernel
theorem dL_law_225 : decode cL_law 225 = .ok (.iaload, 1) := by decide +kernel
theorem dL_law_226 : decode cL_law 226 = .ok (.aload_n 0, 1) := by decide +kernel
theorem dL_law_227 : decode cL_law 227 = .ok (.iload_n 3, 1) := by decide +kernel
theorem dL_law_228 : decode cL_law 228 = .ok (.iconst 2, 1) := by decide +kernel
theorem dL_law_229 : decode cL_law 229 = .ok (.iadd, 1) := by decide +kernel
theorem dL_law_230 : decode cL_law 230 = .ok (.iaload, 1) := by decide +kernel
theorem dL_law_231 : decode cL_law 231 = .ok (.invokevirtual 23, 3) := by decide +kernel
theorem dL_law_234 : decode cL_law 234 = .ok (.aload_n 2, 1) := by decide +kernel
theorem dL_law_235 : decode cL_law 235 = .ok (.aload_n 0, 1) := by decide +kernel
theorem dL_law_236 : decode cL_law 236 = .ok (.iload_n 3, 1) := by decide +kernel
theorem dL_law_237 : decode cL_law 237 = .ok (.iconst 1, 1) := by decide +kernel
theorem dL_law_238 : decode cL_law 238 = .ok (.iadd, 1) := by decide +kernel
theorem dL_law_239 : decode cL_law 239 = .ok (.iaload, 1) := by decide +kernel
theorem dL_law_240 : decode cL_law 240 = .ok (.aload_n 0, 1) := by decide +kernel
theorem dL_law_241 : decode cL_law 241 = .ok (.iload_n 3, 1) := by decide +kernel
theorem dL_law_242 : decode cL_law 242 = .ok (.iconst 2, 1) := by decide +kernel
theorem dL_law_243 : decode cL_law 243 = .ok (.iadd, 1) := by decide +kernel
theorem dL_law_244 : decode cL_law 244 = .ok (.iaload, 1) := by decide +kernel
theorem dL_law_245 : decode cL_law 245 = .ok (.invokevirtual 26, 3) := by decide +kernel
theorem dL_law_248 : decode cL_law 248 = .ok (.if_icmp .eq 674, 3) := by decide +kernel
theorem dL_law_251 : decode cL_law 251 = .ok (.iconst 0, 1) := by decide +kernel
theorem dL_law_252 : decode cL_law 252 = .ok (.ireturn, 1) := by decide +kernel
theorem dL_law_253 : decode cL_law 253 = .ok (.aload_n 1, 1) := by decide +kernel
theorem dL_law_254 : decode cL_law 254 = .ok (.aload_n 0, 1) := by decide +kernel
theorem dL_law_255 : decode cL_law 255 = .ok (.iload_n 3, 1) := by decide +kernel
theorem dL_law_256 : decode cL_law 256 = .ok (.iconst 1, 1) := by decide +kernel
theorem dL_law_257 : decode cL_law 257 = .ok (.iadd, 1) := by decide +kernel
theorem dL_law_258 : decode cL_law 258 = .ok (.iaload, 1) := by decide +kernel
theorem dL_law_259 : decode cL_law 259 = .ok (.aload_n 0, 1) := by decide +kernel
theorem dL_law_260 : decode cL_law 260 = .ok (.iload_n 3, 1) := by decide +kernel
theorem dL_law_261 : decode cL_law 261 = .ok (.iconst 2, 1) := by decide +kernel
theorem dL_law_262 : decode cL_law 262 = .ok (.iadd, 1) := by decide +kernel
theorem dL_law_263 : decode cL_law 263 = .ok (.iaload, 1) := by decide +kernel
theorem dL_law_264 : decode cL_law 264 = .ok (.aload_n 0, 1) := by decide +kernel
theorem dL_law_265 : decode cL_law 265 = .ok (.iload_n 3, 1) := by decide +kernel
theorem dL_law_266 : decode cL_law 266 = .ok (.iconst 3, 1) := by decide +kernel
theorem dL_law_267 : decode cL_law 267 = .ok (.iadd, 1) := by decide +kernel
theorem dL_law_268 : decode cL_law 268 = .ok (.iaload, 1) := by decide +kernel
theorem dL_law_269 : decode cL_law 269 = .ok (.invokevirtual 27, 3) := by decide +kernel
theorem dL_law_272 : decode cL_law 272 = .ok (.aload_n 2, 1) := by decide +kernel
theorem dL_law_273 : decode cL_law 273 = .ok (.aload_n 0, 1) := by decide +kernel
theorem dL_law_274 : decode cL_law 274 = .ok (.iload_n 3, 1) := by decide +kernel
theorem dL_law_275 : decode cL_law 275 = .ok (.iconst 1, 1) := by decide +kernel
theorem dL_law_276 : decode cL_law 276 = .ok (.iadd, 1) := by decide +kernel
theorem dL_law_277 : decode cL_law 277 = .ok (.iaload, 1) := by decide +kernel
theorem dL_law_278 : decode cL_law 278 = .ok (.aload_n 0, 1) := by decide +kernel
theorem dL_law_279 : decode cL_law 279 = .ok (.iload_n 3, 1) := by decide +kernel
theorem dL_law_280 : decode cL_law 280 = .ok (.iconst 2, 1) := by decide +kernel
theorem dL_law_281 : decode cL_law 281 = .ok (.iadd, 1) := by decide +kernel
theorem dL_law_282 : decode cL_law 282 = .ok (.iaload, 1) := by decide +kernel
theorem dL_law_283 : decode cL_law 283 = .ok (.aload_n 0, 1) := by decide +kernel
theorem dL_law_284 : decode cL_law 284 = .ok (.iload_n 3, 1) := by decide +kernel
theorem dL_law_285 : decode cL_law 285 = .ok (.iconst 3, 1) := by decide +kernel
theorem dL_law_286 : decode cL_law 286 = .ok (.iadd, 1) := by decide +kernel
theorem dL_law_287 : decode cL_law 287 = .ok (.iaload, 1) := by decide +kernel
theorem dL_law_288 : decode cL_law 288 = .ok (.invokevirtual 31, 3) := by decide +kernel
theorem dL_law_291 : decode cL_law 291 = .ok (.if_icmp .eq 631, 3) := by decide +kernel
theorem dL_law_294 : decode cL_law 294 = .ok (.iconst 0, 1) := by decide +kernel
theorem dL_law_295 : decode cL_law 295 = .ok (.ireturn, 1) := by decide +kernel
theorem dL_law_296 : decode cL_law 296 = .ok (.aload_n 1, 1) := by decide +kernel
theorem dL_law_297 : decode cL_law 297 = .ok (.aload_n 0, 1) := by decide +kernel
theorem dL_law_298 : decode cL_law 298 = .ok (.iload_n 3, 1) := by decide +kernel
theorem dL_law_299 : decode cL_law 299 = .ok (.iconst 1, 1) := by decide +kernel
theorem dL_law_300 : decode cL_law 300 = .ok (.iadd, 1) := by decide +kernel
theorem dL_law_301 : decode cL_law 301 = .ok (.iaload, 1) := by decide +kernel
theorem dL_law_302 : decode cL_law 302 = .ok (.aload_n 0, 1) := by decide +kernel
theorem dL_law_303 : decode cL_law 303 = .ok (.iload_n 3, 1) := by decide +kernel
theorem dL_law_304 : decode cL_law 304 = .ok (.iconst 2, 1) := by decide +kernel
theorem dL_law_305 : decode cL_law 305 = .ok (.iadd, 1) := by decide +kernel
theorem dL_law_306 : decode cL_law 306 = .ok (.iaload, 1) := by decide +kernel
theorem dL_law_307 : decode cL_law 307 = .ok (.invokevirtual 32, 3) := by decide +kernel
theorem dL_law_310 : decode cL_law 310 = .ok (.aload_n 2, 1) := by decide +kernel
theorem dL_law_311 : decode cL_law 311 = .ok (.aload_n 0, 1) := by decide +kernel
theorem dL_law_312 : decode cL_law 312 = .ok (.iload_n 3, 1) := by decide +kernel
theorem dL_law_313 : decode cL_law 313 = .ok (.iconst 1, 1) := by decide +kernel
theorem dL_law_314 : decode cL_law 314 = .ok (.iadd, 1) := by decide +kernel
theorem dL_law_315 : decode cL_law 315 = .ok (.iaload, 1) := by decide +kernel
theorem dL_law_316 : decode cL_law 316 = .ok (.aload_n 0, 1) := by decide +kernel
theorem dL_law_317 : decode cL_law 317 = .ok (.iload_n 3, 1) := by decide +kernel
theorem dL_law_318 : decode cL_law 318 = .ok (.iconst 2, 1) := by decide +kernel
theorem dL_law_319 : decode cL_law 319 = .ok (.iadd, 1) := by decide +kernel
theorem dL_law_320 : decode cL_law 320 = .ok (.iaload, 1) := by decide +kernel
theorem dL_law_321 : decode cL_law 321 = .ok (.invokevirtual 35, 3) := by decide +kernel
theorem dL_law_324 : decode cL_law 324 = .ok (.if_icmp .eq 598, 3) := by decide +kernel
theorem dL_law_327 : decode cL_law 327 = .ok (.iconst 0, 1) := by decide +kernel
theorem dL_law_328 : decode cL_law 328 = .ok (.ireturn, 1) := by decide +kernel
theorem dL_law_329 : decode cL_law 329 = .ok (.aload_n 1, 1) := by decide +kernel
theorem dL_law_330 : decode cL_law 330 = .ok (.aload_n 0, 1) := by decide +kernel
theorem dL_law_331 : decode cL_law 331 = .ok (.iload_n 3, 1) := by decide +kernel
theorem dL_law_332 : decode cL_law 332 = .ok (.iconst 1, 1) := by decide +kernel
theorem dL_law_333 : decode cL_law 333 = .ok (.iadd, 1) := by decide +kernel
theorem dL_law_334 : decode cL_law 334 = .ok (.iaload, 1) := by decide +kernel
theorem dL_law_335 : decode cL_law 335 = .ok (.aload_n 0, 1) := by decide +kernel
theorem dL_law_336 : decode cL_law 336 = .ok (.iload_n 3, 1) := by decide +kernel
theorem dL_law_337 : decode cL_law 337 = .ok (.iconst 2, 1) := by decide +kernel
theorem dL_law_338 : decode cL_law 338 = .ok (.iadd, 1) := by decide +kernel
theorem dL_law_339 : decode cL_law 339 = .ok (.iaload, 1) := by decide +kernel
theorem dL_law_340 : decode cL_law 340 = .ok (.aload_n 0, 1) := by decide +kernel
theorem dL_law_341 : decode cL_law 341 = .ok (.iload_n 3, 1) := by decide +kernel
theorem dL_law_342 : decode cL_law 342 = .ok (.iconst 3, 1) := by decide +kernel
theorem dL_law_343 : decode cL_law 343 = .ok (.iadd, 1) := by decide +kernel
theorem dL_law_344 : decode cL_law 344 = .ok (.iaload, 1) := by decide +kernel
theorem dL_law_345 : decode cL_law 345 = .ok (.invokevirtual 36, 3) := by decide +kernel
theorem dL_law_348 : decode cL_law 348 = .ok (.aload_n 2, 1) := by decide +kernel
theorem dL_law_349 : decode cL_law 349 = .ok (.aload_n 0, 1) := by decide +kernel
theorem dL_law_350 : decode cL_law 350 = .ok (.iload_n 3, 1) := by decide +kernel
theorem dL_law_351 : decode cL_law 351 = .ok (.iconst 1, 1) := by decide +kernel
theorem dL_law_352 : decode cL_law 352 = .ok (.iadd, 1) := by decide +kernel
theorem dL_law_353 : decode cL_law 353 = .ok (.iaload, 1) := by decide +kernel
theorem dL_law_354 : decode cL_law 354 = .ok (.aload_n 0, 1) := by decide +kernel
theorem dL_law_355 : decode cL_law 355 = .ok (.iload_n 3, 1) := by decide +kernel
theorem dL_law_356 : decode cL_law 356 = .ok (.iconst 2, 1) := by decide +kernel
theorem dL_law_357 : decode cL_law 357 = .ok (.iadd, 1) := by decide +kernel
theorem dL_law_358 : decode cL_law 358 = .ok (.iaload, 1) := by decide +kernel
theorem dL_law_359 : decode cL_law 359 = .ok (.aload_n 0, 1) := by decide +kernel
theorem dL_law_360 : decode cL_law 360 = .ok (.iload_n 3, 1) := by decide +kernel
theorem dL_law_361 : decode cL_law 361 = .ok (.iconst 3, 1) := by decide +kernel
theorem dL_law_362 : decode cL_law 362 = .ok (.iadd, 1) := by decide +kernel
theorem dL_law_363 : decode cL_law 363 = .ok (.iaload, 1) := by decide +kernel
theorem dL_law_364 : decode cL_law 364 = .ok (.invokevirtual 39, 3) := by decide +kernel
theorem dL_law_367 : decode cL_law 367 = .ok (.if_icmp .eq 555, 3) := by decide +kernel
theorem dL_law_370 : decode cL_law 370 = .ok (.iconst 0, 1) := by decide +kernel
theorem dL_law_371 : decode cL_law 371 = .ok (.ireturn, 1) := by decide +kernel
theorem dL_law_372 : decode cL_law 372 = .ok (.aload_n 1, 1) := by decide +kernel
theorem dL_law_373 : decode cL_law 373 = .ok (.aload_n 0, 1) := by decide +kernel
theorem dL_law_374 : decode cL_law 374 = .ok (.iload_n 3, 1) := by decide +kernel
theorem dL_law_375 : decode cL_law 375 = .ok (.iconst 1, 1) := by decide +kernel
theorem dL_law_376 : decode cL_law 376 = .ok (.iadd, 1) := by decide +kernel
theorem dL_law_377 : decode cL_law 377 = .ok (.iaload, 1) := by decide +kernel
theorem dL_law_378 : decode cL_law 378 = .ok (.aload_n 0, 1) := by decide +kernel
theorem dL_law_379 : decode cL_law 379 = .ok (.iload_n 3, 1) := by decide +kernel
theorem dL_law_380 : decode cL_law 380 = .ok (.iconst 2, 1) := by decide +kernel
theorem dL_law_381 : decode cL_law 381 = .ok (.iadd, 1) := by decide +kernel
theorem dL_law_382 : decode cL_law 382 = .ok (.iaload, 1) := by decide +kernel
theorem dL_law_383 : decode cL_law 383 = .ok (.invokevirtual 40, 3) := by decide +kernel
theorem dL_law_386 : decode cL_law 386 = .ok (.aload_n 2, 1) := by decide +kernel
theorem dL_law_387 : decode cL_law 387 = .ok (.aload_n 0, 1) := by decide +kernel
theorem dL_law_388 : decode cL_law 388 = .ok (.iload_n 3, 1) := by decide +kernel
theorem dL_law_389 : decode cL_law 389 = .ok (.iconst 1, 1) := by decide +kernel
theorem dL_law_390 : decode cL_law 390 = .ok (.iadd, 1) := by decide +kernel
theorem dL_law_391 : decode cL_law 391 = .ok (.iaload, 1) := by decide +kernel
theorem dL_law_392 : decode cL_law 392 = .ok (.aload_n 0, 1) := by decide +kernel
theorem dL_law_393 : decode cL_law 393 = .ok (.iload_n 3, 1) := by decide +kernel
theorem dL_law_394 : decode cL_law 394 = .ok (.iconst 2, 1) := by decide +kernel
theorem dL_law_395 : decode cL_law 395 = .ok (.iadd, 1) := by decide +kernel
theorem dL_law_396 : decode cL_law 396 = .ok (.iaload, 1) := by decide +kernel
theorem dL_law_397 : decode cL_law 397 = .ok (.invokevirtual 43, 3) := by decide +kernel
theorem dL_law_400 : decode cL_law 400 = .ok (.if_icmp .eq 522, 3) := by decide +kernel
theorem dL_law_403 : decode cL_law 403 = .ok (.iconst 0, 1) := by decide +kernel
theorem dL_law_404 : decode cL_law 404 = .ok (.ireturn, 1) := by decide +kernel
theorem dL_law_405 : decode cL_law 405 = .ok (.aload_n 1, 1) := by decide +kernel
theorem dL_law_406 : decode cL_law 406 = .ok (.aload_n 0, 1) := by decide +kernel
theorem dL_law_407 : decode cL_law 407 = .ok (.iload_n 3, 1) := by decide +kernel
theorem dL_law_408 : decode cL_law 408 = .ok (.iconst 1, 1) := by decide +kernel
theorem dL_law_409 : decode cL_law 409 = .ok (.iadd, 1) := by decide +kernel
theorem dL_law_410 : decode cL_law 410 = .ok (.iaload, 1) := by decide +kernel
theorem dL_law_411 : decode cL_law 411 = .ok (.aload_n 0, 1) := by decide +kernel
theorem dL_law_412 : decode cL_law 412 = .ok (.iload_n 3, 1) := by decide +kernel
theorem dL_law_413 : decode cL_law 413 = .ok (.iconst 2, 1) := by decide +kernel
theorem dL_law_414 : decode cL_law 414 = .ok (.iadd, 1) := by decide +kernel
theorem dL_law_415 : decode cL_law 415 = .ok (.iaload, 1) := by decide +kernel
theorem dL_law_416 : decode cL_law 416 = .ok (.invokevirtual 44, 3) := by decide +kernel
theorem dL_law_419 : decode cL_law 419 = .ok (.aload_n 2, 1) := by decide +kernel
theorem dL_law_420 : decode cL_law 420 = .ok (.aload_n 0, 1) := by decide +kernel
theorem dL_law_421 : decode cL_law 421 = .ok (.iload_n 3, 1) := by decide +kernel
theorem dL_law_422 : decode cL_law 422 = .ok (.iconst 1, 1) := by decide +kernel
theorem dL_law_423 : decode cL_law 423 = .ok (.iadd, 1) := by decide +kernel
theorem dL_law_424 : decode cL_law 424 = .ok (.iaload, 1) := by decide +kernel
theorem dL_law_425 : decode cL_law 425 = .ok (.aload_n 0, 1) := by decide +kernel
theorem dL_law_426 : decode cL_law 426 = .ok (.iload_n 3, 1) := by decide +kernel
theorem dL_law_427 : decode cL_law 427 = .ok (.iconst 2, 1) := by decide +kernel
theorem dL_law_428 : decode cL_law 428 = .ok (.iadd, 1) := by decide +kernel
theorem dL_law_429 : decode cL_law 429 = .ok (.iaload, 1) := by decide +kernel
theorem dL_law_430 : decode cL_law 430 = .ok (.invokevirtual 47, 3) := by decide +kernel
theorem dL_law_433 : decode cL_law 433 = .ok (.if_icmp .eq 489, 3) := by decide +kernel
theorem dL_law_436 : decode cL_law 436 = .ok (.iconst 0, 1) := by decide +kernel
theorem dL_law_437 : decode cL_law 437 = .ok (.ireturn, 1) := by decide +kernel
theorem dL_law_438 : decode cL_law 438 = .ok (.aload_n 1, 1) := by decide +kernel
theorem dL_law_439 : decode cL_law 439 = .ok (.aload_n 0, 1) := by decide +kernel
theorem dL_law_440 : decode cL_law 440 = .ok (.iload_n 3, 1) := by decide +kernel
theorem dL_law_441 : decode cL_law 441 = .ok (.iconst 1, 1) := by decide +kernel
theorem dL_law_442 : decode cL_law 442 = .ok (.iadd, 1) := by decide +kernel
theorem dL_law_443 : decode cL_law 443 = .ok (.iaload, 1) := by decide +kernel
theorem dL_law_444 : decode cL_law 444 = .ok (.aload_n 0, 1) := by decide +kernel
theorem dL_law_445 : decode cL_law 445 = .ok (.iload_n 3, 1) := by decide +kernel
theorem dL_law_446 : decode cL_law 446 = .ok (.iconst 2, 1) := by decide +kernel
theorem dL_law_447 : decode cL_law 447 = .ok (.iadd, 1) := by decide +kernel
theorem dL_law_448 : decode cL_law 448 = .ok (.iaload, 1) := by decide +kernel
theorem dL_law_449 : decode cL_law 449 = .ok (.aload_n 0, 1) := by decide +kernel
theorem dL_law_450 : decode cL_law 450 = .ok (.iload_n 3, 1) := by decide +kernel
theorem dL_law_451 : decode cL_law 451 = .ok (.iconst 3, 1) := by decide +kernel
theorem dL_law_452 : decode cL_law 452 = .ok (.iadd, 1) := by decide +kernel
theorem dL_law_453 : decode cL_law 453 = .ok (.iaload, 1) := by decide +kernel
theorem dL_law_454 : decode cL_law 454 = .ok (.invokevirtual 48, 3) := by decide +kernel
theorem dL_law_457 : decode cL_law 457 = .ok (.aload_n 2, 1) := by decide +kernel
theorem dL_law_458 : decode cL_law 458 = .ok (.aload_n 0, 1) := by decide +kernel
theorem dL_law_459 : decode cL_law 459 = .ok (.iload_n 3, 1) := by decide +kernel
theorem dL_law_460 : decode cL_law 460 = .ok (.iconst 1, 1) := by decide +kernel
theorem dL_law_461 : decode cL_law 461 = .ok (.iadd, 1) := by decide +kernel
theorem dL_law_462 : decode cL_law 462 = .ok (.iaload, 1) := by decide +kernel
theorem dL_law_463 : decode cL_law 463 = .ok (.aload_n 0, 1) := by decide +kernel
theorem dL_law_464 : decode cL_law 464 = .ok (.iload_n 3, 1) := by decide +kernel
theorem dL_law_465 : decode cL_law 465 = .ok (.iconst 2, 1) := by decide +kernel
theorem dL_law_466 : decode cL_law 466 = .ok (.iadd, 1) := by decide +kernel
theorem dL_law_467 : decode cL_law 467 = .ok (.iaload, 1) := by decide +kernel
theorem dL_law_468 : decode cL_law 468 = .ok (.aload_n 0, 1) := by decide +kernel
theorem dL_law_469 : decode cL_law 469 = .ok (.iload_n 3, 1) := by decide +kernel
theorem dL_law_470 : decode cL_law 470 = .ok (.iconst 3, 1) := by decide +kernel
theorem dL_law_471 : decode cL_law 471 = .ok (.iadd, 1) := by decide +kernel
theorem dL_law_472 : decode cL_law 472 = .ok (.iaload, 1) := by decide +kernel
theorem dL_law_473 : decode cL_law 473 = .ok (.invokevirtual 51, 3) := by decide +kernel
theorem dL_law_476 : decode cL_law 476 = .ok (.if_icmp .eq 446, 3) := by decide +kernel
theorem dL_law_479 : decode cL_law 479 = .ok (.iconst 0, 1) := by decide +kernel
theorem dL_law_480 : decode cL_law 480 = .ok (.ireturn, 1) := by decide +kernel
theorem dL_law_481 : decode cL_law 481 = .ok (.aload_n 1, 1) := by decide +kernel
theorem dL_law_482 : decode cL_law 482 = .ok (.aload_n 0, 1) := by decide +kernel
theorem dL_law_483 : decode cL_law 483 = .ok (.iload_n 3, 1) := by decide +kernel
theorem dL_law_484 : decode cL_law 484 = .ok (.iconst 1, 1) := by decide +kernel
theorem dL_law_485 : decode cL_law 485 = .ok (.iadd, 1) := by decide +kernel
theorem dL_law_486 : decode cL_law 486 = .ok (.iaload, 1) := by decide +kernel
theorem dL_law_487 : decode cL_law 487 = .ok (.aload_n 0, 1) := by decide +kernel
theorem dL_law_488 : decode cL_law 488 = .ok (.iload_n 3, 1) := by decide +kernel
theorem dL_law_489 : decode cL_law 489 = .ok (.iconst 2, 1) := by decide +kernel
theorem dL_law_490 : decode cL_law 490 = .ok (.iadd, 1) := by decide +kernel
theorem dL_law_491 : decode cL_law 491 = .ok (.iaload, 1) := by decide +kernel
theorem dL_law_492 : decode cL_law 492 = .ok (.invokevirtual 52, 3) := by decide +kernel
theorem dL_law_495 : decode cL_law 495 = .ok (.aload_n 2, 1) := by decide +kernel
theorem dL_law_496 : decode cL_law 496 = .ok (.aload_n 0, 1) := by decide +kernel
theorem dL_law_497 : decode cL_law 497 = .ok (.iload_n 3, 1) := by decide +kernel
theorem dL_law_498 : decode cL_law 498 = .ok (.iconst 1, 1) := by decide +kernel
theorem dL_law_499 : decode cL_law 499 = .ok (.iadd, 1) := by decide +kernel
theorem dL_law_500 : decode cL_law 500 = .ok (.iaload, 1) := by decide +kernel
theorem dL_law_501 : decode cL_law 501 = .ok (.aload_n 0, 1) := by decide +kernel
theorem dL_law_502 : decode cL_law 502 = .ok (.iload_n 3, 1) := by decide +kernel
theorem dL_law_503 : decode cL_law 503 = .ok (.iconst 2, 1) := by decide +kernel
theorem dL_law_504 : decode cL_law 504 = .ok (.iadd, 1) := by decide +kernel
theorem dL_law_505 : decode cL_law 505 = .ok (.iaload, 1) := by decide +kernel
theorem dL_law_506 : decode cL_law 506 = .ok (.invokevirtual 55, 3) := by decide +kernel
theorem dL_law_509 : decode cL_law 509 = .ok (.if_icmp .eq 413, 3) := by decide +kernel
theorem dL_law_512 : decode cL_law 512 = .ok (.iconst 0, 1) := by decide +kernel
theorem dL_law_513 : decode cL_law 513 = .ok (.ireturn, 1) := by decide +kernel
theorem dL_law_514 : decode cL_law 514 = .ok (.aload_n 1, 1) := by decide +kernel
theorem dL_law_515 : decode cL_law 515 = .ok (.aload_n 0, 1) := by decide +kernel
theorem dL_law_516 : decode cL_law 516 = .ok (.iload_n 3, 1) := by decide +kernel
theorem dL_law_517 : decode cL_law 517 = .ok (.iconst 1, 1) := by decide +kernel
theorem dL_law_518 : decode cL_law 518 = .ok (.iadd, 1) := by decide +kernel
theorem dL_law_519 : decode cL_law 519 = .ok (.iaload, 1) := by decide +kernel
theorem dL_law_520 : decode cL_law 520 = .ok (.aload_n 0, 1) := by decide +kernel
theorem dL_law_521 : decode cL_law 521 = .ok (.iload_n 3, 1) := by decide +kernel
theorem dL_law_522 : decode cL_law 522 = .ok (.iconst 2, 1) := by decide +kernel
theorem dL_law_523 : decode cL_law 523 = .ok (.iadd, 1) := by decide +kernel
theorem dL_law_524 : decode cL_law 524 = .ok (.iaload, 1) := by decide +kernel
theorem dL_law_525 : decode cL_law 525 = .ok (.aload_n 0, 1) := by decide +kernel
theorem dL_law_526 : decode cL_law 526 = .ok (.iload_n 3, 1) := by decide +kernel
theorem dL_law_527 : decode cL_law 527 = .ok (.iconst 3, 1) := by decide +kernel
theorem dL_law_528 : decode cL_law 528 = .ok (.iadd, 1) := by decide +kernel
theorem dL_law_529 : decode cL_law 529 = .ok (.iaload, 1) := by decide +kernel
theorem dL_law_530 : decode cL_law 530 = .ok (.invokevirtual 56, 3) := by decide +kernel
theorem dL_law_533 : decode cL_law 533 = .ok (.aload_n 2, 1) := by decide +kernel
theorem dL_law_534 : decode cL_law 534 = .ok (.aload_n 0, 1) := by decide +kernel
theorem dL_law_535 : decode cL_law 535 = .ok (.iload_n 3, 1) := by decide +kernel
theorem dL_law_536 : decode cL_law 536 = .ok (.iconst 1, 1) := by decide +kernel
theorem dL_law_537 : decode cL_law 537 = .ok (.iadd, 1) := by decide +kernel
theorem dL_law_538 : decode cL_law 538 = .ok (.iaload, 1) := by decide +kernel
theorem dL_law_539 : decode cL_law 539 = .ok (.aload_n 0, 1) := by decide +kernel
theorem dL_law_540 : decode cL_law 540 = .ok (.iload_n 3, 1) := by decide +kernel
theorem dL_law_541 : decode cL_law 541 = .ok (.iconst 2, 1) := by decide +kernel
theorem dL_law_542 : decode cL_law 542 = .ok (.iadd, 1) := by decide +kernel
theorem dL_law_543 : decode cL_law 543 = .ok (.iaload, 1) := by decide +kernel
theorem dL_law_544 : decode cL_law 544 = .ok (.aload_n 0, 1) := by decide +kernel
theorem dL_law_545 : decode cL_law 545 = .ok (.iload_n 3, 1) := by decide +kernel
theorem dL_law_546 : decode cL_law 546 = .ok (.iconst 3, 1) := by decide +kernel
theorem dL_law_547 : decode cL_law 547 = .ok (.iadd, 1) := by decide +kernel
theorem dL_law_548 : decode cL_law 548 = .ok (.iaload, 1) := by decide +kernel
theorem dL_law_549 : decode cL_law 549 = .ok (.invokevirtual 59, 3) := by decide +kernel
theorem dL_law_552 : decode cL_law 552 = .ok (.if_icmp .eq 370, 3) := by decide +kernel
theorem dL_law_555 : decode cL_law 555 = .ok (.iconst 0, 1) := by decide +kernel
theorem dL_law_556 : decode cL_law 556 = .ok (.ireturn, 1) := by decide +kernel
theorem dL_law_557 : decode cL_law 557 = .ok (.aload_n 1, 1) := by decide +kernel
theorem dL_law_558 : decode cL_law 558 = .ok (.aload_n 0, 1) := by decide +kernel
theorem dL_law_559 : decode cL_law 559 = .ok (.iload_n 3, 1) := by decide +kernel
theorem dL_law_560 : decode cL_law 560 = .ok (.iconst 1, 1) := by decide +kernel
theorem dL_law_561 : decode cL_law 561 = .ok (.iadd, 1) := by decide +kernel
theorem dL_law_562 : decode cL_law 562 = .ok (.iaload, 1) := by decide +kernel
theorem dL_law_563 : decode cL_law 563 = .ok (.aload_n 0, 1) := by decide +kernel
theorem dL_law_564 : decode cL_law 564 = .ok (.iload_n 3, 1) := by decide +kernel
theorem dL_law_565 : decode cL_law 565 = .ok (.iconst 2, 1) := by decide +kernel
theorem dL_law_566 : decode cL_law 566 = .ok (.iadd, 1) := by decide +kernel
theorem dL_law_567 : decode cL_law 567 = .ok (.iaload, 1) := by decide +kernel
theorem dL_law_568 : decode cL_law 568 = .ok (.invokevirtual 60, 3) := by decide +kernel
theorem dL_law_571 : decode cL_law 571 = .ok (.aload_n 2, 1) := by decide +kernel
theorem dL_law_572 : decode cL_law 572 = .ok (.aload_n 0, 1) := by decide +kernel
theorem dL_law_573 : decode cL_law 573 = .ok (.iload_n 3, 1) := by decide +kernel
theorem dL_law_574 : decode cL_law 574 = .ok (.iconst 1, 1) := by decide +kernel
theorem dL_law_575 : decode cL_law 575 = .ok (.iadd, 1) := by decide +kernel
theorem dL_law_576 : decode cL_law 576 = .ok (.iaload, 1) := by decide +kernel
theorem dL_law_577 : decode cL_law 577 = .ok (.aload_n 0, 1) := by decide +kernel
theorem dL_law_578 : decode cL_law 578 = .ok (.iload_n 3, 1) := by decide +kernel
theorem dL_law_579 : decode cL_law 579 = .ok (.iconst 2, 1) := by decide +kernel
theorem dL_law_580 : decode cL_law 580 = .ok (.iadd, 1) := by decide +kernel
theorem dL_law_581 : decode cL_law 581 = .ok (.iaload, 1) := by decide +kernel
theorem dL_law_582 : decode cL_law 582 = .ok (.invokevirtual 63, 3) := by decide +kernel
theorem dL_law_585 : decode cL_law 585 = .ok (.if_icmp .eq 337, 3) := by decide +kernel
theorem dL_law_588 : decode cL_law 588 = .ok (.iconst 0, 1) := by decide +kernel
theorem dL_law_589 : decode cL_law 589 = .ok (.ireturn, 1) := by decide +kernel
theorem dL_law_590 : decode cL_law 590 = .ok (.aload_n 1, 1) := by decide +kernel
theorem dL_law_591 : decode cL_law 591 = .ok (.aload_n 0, 1) := by decide +kernel
theorem dL_law_592 : decode cL_law 592 = .ok (.iload_n 3, 1) := by decide +kernel
theorem dL_law_593 : decode cL_law 593 = .ok (.iconst 1, 1) := by decide +kernel
theorem dL_law_594 : decode cL_law 594 = .ok (.iadd, 1) := by decide +kernel
theorem dL_law_595 : decode cL_law 595 = .ok (.iaload, 1) := by decide +kernel
theorem dL_law_596 : decode cL_law 596 = .ok (.invokevirtual 64, 3) := by decide +kernel
theorem dL_law_599 : decode cL_law 599 = .ok (.aload_n 2, 1) := by decide +kernel
theorem dL_law_600 : decode cL_law 600 = .ok (.aload_n 0, 1) := by decide +kernel
theorem dL_law_601 : decode cL_law 601 = .ok (.iload_n 3, 1) := by decide +kernel
theorem dL_law_602 : decode cL_law 602 = .ok (.iconst 1, 1) := by decide +kernel
theorem dL_law_603 : decode cL_law 603 = .ok (.iadd, 1) := by decide +kernel
theorem dL_law_604 : decode cL_law 604 = .ok (.iaload, 1) := by decide +kernel
theorem dL_law_605 : decode cL_law 605 = .ok (.invokevirtual 67, 3) := by decide +kernel
theorem dL_law_608 : decode cL_law 608 = .ok (.if_icmp .eq 314, 3) := by decide +kernel
theorem dL_law_611 : decode cL_law 611 = .ok (.iconst 0, 1) := by decide +kernel
theorem dL_law_612 : decode cL_law 612 = .ok (.ireturn, 1) := by decide +kernel
theorem dL_law_613 : decode cL_law 613 = .ok (.aload_n 1, 1) := by decide +kernel
theorem dL_law_614 : decode cL_law 614 = .ok (.aload_n 0, 1) := by decide +kernel
theorem dL_law_615 : decode cL_law 615 = .ok (.iload_n 3, 1) := by decide +kernel
theorem dL_law_616 : decode cL_law 616 = .ok (.iconst 1, 1) := by decide +kernel
theorem dL_law_617 : decode cL_law 617 = .ok (.iadd, 1) := by decide +kernel
theorem dL_law_618 : decode cL_law 618 = .ok (.iaload, 1) := by decide +kernel
theorem dL_law_619 : decode cL_law 619 = .ok (.aload_n 0, 1) := by decide +kernel
theorem dL_law_620 : decode cL_law 620 = .ok (.iload_n 3, 1) := by decide +kernel
theorem dL_law_621 : decode cL_law 621 = .ok (.iconst 2, 1) := by decide +kernel
theorem dL_law_622 : decode cL_law 622 = .ok (.iadd, 1) := by decide +kernel
theorem dL_law_623 : decode cL_law 623 = .ok (.iaload, 1) := by decide +kernel
theorem dL_law_624 : decode cL_law 624 = .ok (.invokevirtual 68, 3) := by decide +kernel
theorem dL_law_627 : decode cL_law 627 = .ok (.aload_n 2, 1) := by decide +kernel
theorem dL_law_628 : decode cL_law 628 = .ok (.aload_n 0, 1) := by decide +kernel
theorem dL_law_629 : decode cL_law 629 = .ok (.iload_n 3, 1) := by decide +kernel
theorem dL_law_630 : decode cL_law 630 = .ok (.iconst 1, 1) := by decide +kernel
theorem dL_law_631 : decode cL_law 631 = .ok (.iadd, 1) := by decide +kernel
theorem dL_law_632 : decode cL_law 632 = .ok (.iaload, 1) := by decide +kernel
theorem dL_law_633 : decode cL_law 633 = .ok (.aload_n 0, 1) := by decide +kernel
theorem dL_law_634 : decode cL_law 634 = .ok (.iload_n 3, 1) := by decide +kernel
theorem dL_law_635 : decode cL_law 635 = .ok (.iconst 2, 1) := by decide +kernel
theorem dL_law_636 : decode cL_law 636 = .ok (.iadd, 1) := by decide +kernel
theorem dL_law_637 : decode cL_law 637 = .ok (.iaload, 1) := by decide +kernel
theorem dL_law_638 : decode cL_law 638 = .ok (.invokevirtual 71, 3) := by decide +kernel
theorem dL_law_641 : decode cL_law 641 = .ok (.if_icmp .eq 281, 3) := by decide +kernel
theorem dL_law_644 : decode cL_law 644 = .ok (.iconst 0, 1) := by decide +kernel
theorem dL_law_645 : decode cL_law 645 = .ok (.ireturn, 1) := by decide +kernel
theorem dL_law_646 : decode cL_law 646 = .ok (.aload_n 1, 1) := by decide +kernel
theorem dL_law_647 : decode cL_law 647 = .ok (.aload_n 0, 1) := by decide +kernel
theorem dL_law_648 : decode cL_law 648 = .ok (.iload_n 3, 1) := by decide +kernel
theorem dL_law_649 : decode cL_law 649 = .ok (.iconst 1, 1) := by decide +kernel
theorem dL_law_650 : decode cL_law 650 = .ok (.iadd, 1) := by decide +kernel
theorem dL_law_651 : decode cL_law 651 = .ok (.iaload, 1) := by decide +kernel
theorem dL_law_652 : decode cL_law 652 = .ok (.aload_n 0, 1) := by decide +kernel
theorem dL_law_653 : decode cL_law 653 = .ok (.iload_n 3, 1) := by decide +kernel
theorem dL_law_654 : decode cL_law 654 = .ok (.iconst 2, 1) := by decide +kernel
theorem dL_law_655 : decode cL_law 655 = .ok (.iadd, 1) := by decide +kernel
theorem dL_law_656 : decode cL_law 656 = .ok (.iaload, 1) := by decide +kernel
theorem dL_law_657 : decode cL_law 657 = .ok (.aload_n 0, 1) := by decide +kernel
theorem dL_law_658 : decode cL_law 658 = .ok (.iload_n 3, 1) := by decide +kernel
theorem dL_law_659 : decode cL_law 659 = .ok (.iconst 3, 1) := by decide +kernel
theorem dL_law_660 : decode cL_law 660 = .ok (.iadd, 1) := by decide +kernel
theorem dL_law_661 : decode cL_law 661 = .ok (.iaload, 1) := by decide +kernel
theorem dL_law_662 : decode cL_law 662 = .ok (.invokevirtual 72, 3) := by decide +kernel
theorem dL_law_665 : decode cL_law 665 = .ok (.aload_n 2, 1) := by decide +kernel
theorem dL_law_666 : decode cL_law 666 = .ok (.aload_n 0, 1) := by decide +kernel
theorem dL_law_667 : decode cL_law 667 = .ok (.iload_n 3, 1) := by decide +kernel
theorem dL_law_668 : decode cL_law 668 = .ok (.iconst 1, 1) := by decide +kernel
theorem dL_law_669 : decode cL_law 669 = .ok (.iadd, 1) := by decide +kernel
theorem dL_law_670 : decode cL_law 670 = .ok (.iaload, 1) := by decide +kernel
theorem dL_law_671 : decode cL_law 671 = .ok (.aload_n 0, 1) := by decide +kernel
theorem dL_law_672 : decode cL_law 672 = .ok (.iload_n 3, 1) := by decide +kernel
theorem dL_law_673 : decode cL_law 673 = .ok (.iconst 2, 1) := by decide +kernel
theorem dL_law_674 : decode cL_law 674 = .ok (.iadd, 1) := by decide +kernel
theorem dL_law_675 : decode cL_law 675 = .ok (.iaload, 1) := by decide +kernel
theorem dL_law_676 : decode cL_law 676 = .ok (.aload_n 0, 1) := by decide +kernel
theorem dL_law_677 : decode cL_law 677 = .ok (.iload_n 3, 1) := by decide +kernel
theorem dL_law_678 : decode cL_law 678 = .ok (.iconst 3, 1) := by decide +kernel
theorem dL_law_679 : decode cL_law 679 = .ok (.iadd, 1) := by decide +kernel
theorem dL_law_680 : decode cL_law 680 = .ok (.iaload, 1) := by decide +kernel
theorem dL_law_681 : decode cL_law 681 = .ok (.invokevirtual 75, 3) := by decide +kernel
theorem dL_law_684 : decode cL_law 684 = .ok (.if_icmp .eq 238, 3) := by decide +kernel
theorem dL_law_687 : decode cL_law 687 = .ok (.iconst 0, 1) := by decide +kernel
theorem dL_law_688 : decode cL_law 688 = .ok (.ireturn, 1) := by decide +kernel
theorem dL_law_689 : decode cL_law 689 = .ok (.aload_n 1, 1) := by decide +kernel
theorem dL_law_690 : decode cL_law 690 = .ok (.aload_n 0, 1) := by decide +kernel
theorem dL_law_691 : decode cL_law 691 = .ok (.iload_n 3, 1) := by decide +kernel
theorem dL_law_692 : decode cL_law 692 = .ok (.iconst 1, 1) := by decide +kernel
theorem dL_law_693 : decode cL_law 693 = .ok (.iadd, 1) := by decide +kernel
theorem dL_law_694 : decode cL_law 694 = .ok (.iaload, 1) := by decide +kernel
theorem dL_law_695 : decode cL_law 695 = .ok (.invokevirtual 76, 3) := by decide +kernel
theorem dL_law_698 : decode cL_law 698 = .ok (.aload_n 2, 1) := by decide +kernel
theorem dL_law_699 : decode cL_law 699 = .ok (.aload_n 0, 1) := by decide +kernel
theorem dL_law_700 : decode cL_law 700 = .ok (.iload_n 3, 1) := by decide +kernel
theorem dL_law_701 : decode cL_law 701 = .ok (.iconst 1, 1) := by decide +kernel
theorem dL_law_702 : decode cL_law 702 = .ok (.iadd, 1) := by decide +kernel
theorem dL_law_703 : decode cL_law 703 = .ok (.iaload, 1) := by decide +kernel
theorem dL_law_704 : decode cL_law 704 = .ok (.invokevirtual 79, 3) := by decide +kernel
theorem dL_law_707 : decode cL_law 707 = .ok (.if_icmp .eq 215, 3) := by decide +kernel
theorem dL_law_710 : decode cL_law 710 = .ok (.iconst 0, 1) := by decide +kernel
theorem dL_law_711 : decode cL_law 711 = .ok (.ireturn, 1) := by decide +kernel
theorem dL_law_712 : decode cL_law 712 = .ok (.aload_n 1, 1) := by decide +kernel
theorem dL_law_713 : decode cL_law 713 = .ok (.invokevirtual 80, 3) := by decide +kernel
theorem dL_law_716 : decode cL_law 716 = .ok (.aload_n 2, 1) := by decide +kernel
theorem dL_law_717 : decode cL_law 717 = .ok (.invokevirtual 84, 3) := by decide +kernel
theorem dL_law_720 : decode cL_law 720 = .ok (.if_icmp .eq 202, 3) := by decide +kernel
theorem dL_law_723 : decode cL_law 723 = .ok (.iconst 0, 1) := by decide +kernel
theorem dL_law_724 : decode cL_law 724 = .ok (.ireturn, 1) := by decide +kernel
theorem dL_law_725 : decode cL_law 725 = .ok (.aload_n 1, 1) := by decide +kernel
theorem dL_law_726 : decode cL_law 726 = .ok (.invokevirtual 85, 3) := by decide +kernel
theorem dL_law_729 : decode cL_law 729 = .ok (.aload_n 2, 1) := by decide +kernel
theorem dL_law_730 : decode cL_law 730 = .ok (.invokevirtual 88, 3) := by decide +kernel
theorem dL_law_733 : decode cL_law 733 = .ok (.if_icmp .eq 189, 3) := by decide +kernel
theorem dL_law_736 : decode cL_law 736 = .ok (.iconst 0, 1) := by decide +kernel
theorem dL_law_737 : decode cL_law 737 = .ok (.ireturn, 1) := by decide +kernel
theorem dL_law_738 : decode cL_law 738 = .ok (.aload_n 1, 1) := by decide +kernel
theorem dL_law_739 : decode cL_law 739 = .ok (.aload_n 0, 1) := by decide +kernel
theorem dL_law_740 : decode cL_law 740 = .ok (.iload_n 3, 1) := by decide +kernel
theorem dL_law_741 : decode cL_law 741 = .ok (.iconst 1, 1) := by decide +kernel
theorem dL_law_742 : decode cL_law 742 = .ok (.iadd, 1) := by decide +kernel
theorem dL_law_743 : decode cL_law 743 = .ok (.iaload, 1) := by decide +kernel
theorem dL_law_744 : decode cL_law 744 = .ok (.aload_n 0, 1) := by decide +kernel
theorem dL_law_745 : decode cL_law 745 = .ok (.iload_n 3, 1) := by decide +kernel
theorem dL_law_746 : decode cL_law 746 = .ok (.iconst 2, 1) := by decide +kernel
theorem dL_law_747 : decode cL_law 747 = .ok (.iadd, 1) := by decide +kernel
theorem dL_law_748 : decode cL_law 748 = .ok (.iaload, 1) := by decide +kernel
theorem dL_law_749 : decode cL_law 749 = .ok (.invokevirtual 89, 3) := by decide +kernel
theorem dL_law_752 : decode cL_law 752 = .ok (.aload_n 2, 1) := by decide +kernel
theorem dL_law_753 : decode cL_law 753 = .ok (.aload_n 0, 1) := by decide +kernel
theorem dL_law_754 : decode cL_law 754 = .ok (.iload_n 3, 1) := by decide +kernel
theorem dL_law_755 : decode cL_law 755 = .ok (.iconst 1, 1) := by decide +kernel
theorem dL_law_756 : decode cL_law 756 = .ok (.iadd, 1) := by decide +kernel
theorem dL_law_757 : decode cL_law 757 = .ok (.iaload, 1) := by decide +kernel
theorem dL_law_758 : decode cL_law 758 = .ok (.aload_n 0, 1) := by decide +kernel
theorem dL_law_759 : decode cL_law 759 = .ok (.iload_n 3, 1) := by decide +kernel
theorem dL_law_760 : decode cL_law 760 = .ok (.iconst 2, 1) := by decide +kernel
theorem dL_law_761 : decode cL_law 761 = .ok (.iadd, 1) := by decide +kernel
theorem dL_law_762 : decode cL_law 762 = .ok (.iaload, 1) := by decide +kernel
theorem dL_law_763 : decode cL_law 763 = .ok (.invokevirtual 92, 3) := by decide +kernel
theorem dL_law_766 : decode cL_law 766 = .ok (.if_icmp .eq 156, 3) := by decide +kernel
theorem dL_law_769 : decode cL_law 769 = .ok (.iconst 0, 1) := by decide +kernel
theorem dL_law_770 : decode cL_law 770 = .ok (.ireturn, 1) := by decide +kernel
theorem dL_law_771 : decode cL_law 771 = .ok (.aload_n 1, 1) := by decide +kernel
theorem dL_law_772 : decode cL_law 772 = .ok (.invokevirtual 93, 3) := by decide +kernel
theorem dL_law_775 : decode cL_law 775 = .ok (.aload_n 2, 1) := by decide +kernel
theorem dL_law_776 : decode cL_law 776 = .ok (.invokevirtual 96, 3) := by decide +kernel
theorem dL_law_779 : decode cL_law 779 = .ok (.if_icmp .eq 143, 3) := by decide +kernel
theorem dL_law_782 : decode cL_law 782 = .ok (.iconst 0, 1) := by decide +kernel
theorem dL_law_783 : decode cL_law 783 = .ok (.ireturn, 1) := by decide +kernel
theorem dL_law_784 : decode cL_law 784 = .ok (.aload_n 1, 1) := by decide +kernel
theorem dL_law_785 : decode cL_law 785 = .ok (.invokevirtual 97, 3) := by decide +kernel
theorem dL_law_788 : decode cL_law 788 = .ok (.aload_n 2, 1) := by decide +kernel
theorem dL_law_789 : decode cL_law 789 = .ok (.invokevirtual 100, 3) := by decide +kernel
theorem dL_law_792 : decode cL_law 792 = .ok (.if_icmp .eq 130, 3) := by decide +kernel
theorem dL_law_795 : decode cL_law 795 = .ok (.iconst 0, 1) := by decide +kernel
theorem dL_law_796 : decode cL_law 796 = .ok (.ireturn, 1) := by decide +kernel
theorem dL_law_797 : decode cL_law 797 = .ok (.aload_n 1, 1) := by decide +kernel
theorem dL_law_798 : decode cL_law 798 = .ok (.invokevirtual 101, 3) := by decide +kernel
theorem dL_law_801 : decode cL_law 801 = .ok (.aload_n 2, 1) := by decide +kernel
theorem dL_law_802 : decode cL_law 802 = .ok (.invokevirtual 104, 3) := by decide +kernel
theorem dL_law_805 : decode cL_law 805 = .ok (.if_icmp .eq 117, 3) := by decide +kernel
theorem dL_law_808 : decode cL_law 808 = .ok (.iconst 0, 1) := by decide +kernel
theorem dL_law_809 : decode cL_law 809 = .ok (.ireturn, 1) := by decide +kernel
theorem dL_law_810 : decode cL_law 810 = .ok (.aload_n 1, 1) := by decide +kernel
theorem dL_law_811 : decode cL_law 811 = .ok (.invokevirtual 105, 3) := by decide +kernel
theorem dL_law_814 : decode cL_law 814 = .ok (.aload_n 2, 1) := by decide +kernel
theorem dL_law_815 : decode cL_law 815 = .ok (.invokevirtual 108, 3) := by decide +kernel
theorem dL_law_818 : decode cL_law 818 = .ok (.if_icmp .eq 104, 3) := by decide +kernel
theorem dL_law_821 : decode cL_law 821 = .ok (.iconst 0, 1) := by decide +kernel
theorem dL_law_822 : decode cL_law 822 = .ok (.ireturn, 1) := by decide +kernel
theorem dL_law_823 : decode cL_law 823 = .ok (.aload_n 1, 1) := by decide +kernel
theorem dL_law_824 : decode cL_law 824 = .ok (.invokevirtual 109, 3) := by decide +kernel
theorem dL_law_827 : decode cL_law 827 = .ok (.aload_n 2, 1) := by decide +kernel
theorem dL_law_828 : decode cL_law 828 = .ok (.invokevirtual 112, 3) := by decide +kernel
theorem dL_law_831 : decode cL_law 831 = .ok (.if_icmp .eq 91, 3) := by decide +kernel
theorem dL_law_834 : decode cL_law 834 = .ok (.iconst 0, 1) := by decide +kernel
theorem dL_law_835 : decode cL_law 835 = .ok (.ireturn, 1) := by decide +kernel
theorem dL_law_836 : decode cL_law 836 = .ok (.aload_n 1, 1) := by decide +kernel
theorem dL_law_837 : decode cL_law 837 = .ok (.invokevirtual 113, 3) := by decide +kernel
theorem dL_law_840 : decode cL_law 840 = .ok (.aload_n 2, 1) := by decide +kernel
theorem dL_law_841 : decode cL_law 841 = .ok (.invokevirtual 116, 3) := by decide +kernel
theorem dL_law_844 : decode cL_law 844 = .ok (.if_icmp .eq 78, 3) := by decide +kernel
theorem dL_law_847 : decode cL_law 847 = .ok (.iconst 0, 1) := by decide +kernel
theorem dL_law_848 : decode cL_law 848 = .ok (.ireturn, 1) := by decide +kernel
theorem dL_law_849 : decode cL_law 849 = .ok (.aload_n 1, 1) := by decide +kernel
theorem dL_law_850 : decode cL_law 850 = .ok (.aload_n 0, 1) := by decide +kernel
theorem dL_law_851 : decode cL_law 851 = .ok (.iload_n 3, 1) := by decide +kernel
theorem dL_law_852 : decode cL_law 852 = .ok (.iconst 1, 1) := by decide +kernel
theorem dL_law_853 : decode cL_law 853 = .ok (.iadd, 1) := by decide +kernel
theorem dL_law_854 : decode cL_law 854 = .ok (.iaload, 1) := by decide +kernel
theorem dL_law_855 : decode cL_law 855 = .ok (.invokevirtual 117, 3) := by decide +kernel
theorem dL_law_858 : decode cL_law 858 = .ok (.aload_n 2, 1) := by decide +kernel
theorem dL_law_859 : decode cL_law 859 = .ok (.aload_n 0, 1) := by decide +kernel
theorem dL_law_860 : decode cL_law 860 = .ok (.iload_n 3, 1) := by decide +kernel
theorem dL_law_861 : decode cL_law 861 = .ok (.iconst 1, 1) := by decide +kernel
theorem dL_law_862 : decode cL_law 862 = .ok (.iadd, 1) := by decide +kernel
theorem dL_law_863 : decode cL_law 863 = .ok (.iaload, 1) := by decide +kernel
theorem dL_law_864 : decode cL_law 864 = .ok (.invokevirtual 120, 3) := by decide +kernel
theorem dL_law_867 : decode cL_law 867 = .ok (.if_icmp .eq 55, 3) := by decide +kernel
theorem dL_law_870 : decode cL_law 870 = .ok (.iconst 0, 1) := by decide +kernel
theorem dL_law_871 : decode cL_law 871 = .ok (.ireturn, 1) := by decide +kernel
theorem dL_law_872 : decode cL_law 872 = .ok (.aload_n 1, 1) := by decide +kernel
theorem dL_law_873 : decode cL_law 873 = .ok (.invokevirtual 121, 3) := by decide +kernel
theorem dL_law_876 : decode cL_law 876 = .ok (.aload_n 2, 1) := by decide +kernel
theorem dL_law_877 : decode cL_law 877 = .ok (.invokevirtual 124, 3) := by decide +kernel
theorem dL_law_880 : decode cL_law 880 = .ok (.if_icmp .eq 42, 3) := by decide +kernel
theorem dL_law_883 : decode cL_law 883 = .ok (.iconst 0, 1) := by decide +kernel
theorem dL_law_884 : decode cL_law 884 = .ok (.ireturn, 1) := by decide +kernel
theorem dL_law_885 : decode cL_law 885 = .ok (.aload_n 1, 1) := by decide +kernel
theorem dL_law_886 : decode cL_law 886 = .ok (.aload_n 0, 1) := by decide +kernel
theorem dL_law_887 : decode cL_law 887 = .ok (.iload_n 3, 1) := by decide +kernel
theorem dL_law_888 : decode cL_law 888 = .ok (.iconst 1, 1) := by decide +kernel
theorem dL_law_889 : decode cL_law 889 = .ok (.iadd, 1) := by decide +kernel
theorem dL_law_890 : decode cL_law 890 = .ok (.iaload, 1) := by decide +kernel
theorem dL_law_891 : decode cL_law 891 = .ok (.invokevirtual 125, 3) := by decide +kernel
theorem dL_law_894 : decode cL_law 894 = .ok (.aload_n 2, 1) := by decide +kernel
theorem dL_law_895 : decode cL_law 895 = .ok (.aload_n 0, 1) := by decide +kernel
theorem dL_law_896 : decode cL_law 896 = .ok (.iload_n 3, 1) := by decide +kernel
theorem dL_law_897 : decode cL_law 897 = .ok (.iconst 1, 1) := by decide +kernel
theorem dL_law_898 : decode cL_law 898 = .ok (.iadd, 1) := by decide +kernel
theorem dL_law_899 : decode cL_law 899 = .ok (.iaload, 1) := by decide +kernel
theorem dL_law_900 : decode cL_law 900 = .ok (.invokevirtual 128, 3) := by decide +kernel
theorem dL_law_903 : decode cL_law 903 = .ok (.if_icmp .eq 19, 3) := by decide +kernel
theorem dL_law_906 : decode cL_law 906 = .ok (.iconst 0, 1) := by decide +kernel
theorem dL_law_907 : decode cL_law 907 = .ok (.ireturn, 1) := by decide +kernel
theorem dL_law_908 : decode cL_law 908 = .ok (.aload_n 1, 1) := by decide +kernel
theorem dL_law_909 : decode cL_law 909 = .ok (.invokevirtual 129, 3) := by decide +kernel
theorem dL_law_912 : decode cL_law 912 = .ok (.aload_n 2, 1) := by decide +kernel
theorem dL_law_913 : decode cL_law 913 = .ok (.invokevirtual 133, 3) := by decide +kernel
theorem dL_law_916 : decode cL_law 916 = .ok (.lcmp, 1) := by decide +kernel
theorem dL_law_917 : decode cL_law 917 = .ok (.ifCond .eq 5, 3) := by decide +kernel
theorem dL_law_920 : decode cL_law 920 = .ok (.iconst 0, 1) := by decide +kernel
theorem dL_law_921 : decode cL_law 921 = .ok (.ireturn, 1) := by decide +kernel
theorem dL_law_922 : decode cL_law 922 = .ok (.iinc 3 4, 3) := by decide +kernel
theorem dL_law_925 : decode cL_law 925 = .ok (.goto (-907), 3) := by decide +kernel
theorem dL_law_928 : decode cL_law 928 = .ok (.iconst 1, 1) := by decide +kernel
theorem dL_law_929 : decode cL_law 929 = .ok (.ireturn, 1) := by decide +kernel
end
section
/-! rows of this claim's own: contracts of readers and writers, calls, numbers -/
def nwF : List (String × Nat × String × String × String × String) := [(RX2, 122, RX0, "time", "I", RX2), (RX2, 119, RX0, "holdTime", "I", RX2), (RX2, 137, RX0, "delivered", "I", RX2), (RX2, 140, RX0, "overtaken", "I", RX2), (RX2, 143, RX0, "unreachable", "I", RX2), (RX2, 146, RX0, "congested", "I", RX2), (RX2, 149, RX0, "lost", "I", RX2), (RX2, 31, RX0, "linksets", "I", RX2), (RX2, 134, RX0, "heldCount", "I", RX2), (RX2, 78, RX0, "queueLengths", "[I", RX2), (RX2, 81, RX0, "queues", "[I", RX2), (RX2, 96, RX0, "routeStates", "[I", RX2), (RX2, 99, RX0, "priorities", "[I", RX2), (RX2, 155, RX1, "size", "I", RX2)]
def nwM : List (String × Nat × MethodName × String) := [(RX2, 11, yX0_init, RX2), (RX2, 18, yX1_init, RX2), (RX1, 17, yX0_init, RX2), (RX2, 38, yX1_save, RX2), (RX1, 22, yX0_copyFrom, RX2), (RX2, 42, yX0_appendLinkset, RX2), (RX2, 46, yX0_hasLink, RX2), (RX2, 50, yX0_linkWorks, RX2), (RX2, 56, yX0_changeOver, RX2), (RX0, 99, yX2_linkPlace, RX2), (RX0, 145, yX2_streamOf, RX2), (RX0, 109, yX2_routePlace, RX2), (RX0, 118, yX2_setBit, RX2), (RX2, 60, yX0_listLinks, RX2), (RX2, 64, yX0_activate, RX2), (RX2, 68, yX0_divertMoved, RX2), (RX2, 75, yX0_deliverOldest, RX2), (RX0, 151, yX2_numberOf, RX2), (RX2, 87, yX0_congestionLevel, RX2), (RX2, 90, yX0_canHaveRoute, RX2), (RX0, 96, yX2_isDestination, RX2), (RX2, 106, yX0_routesTo, RX2), (RX2, 112, yX0_linkOver, RX2), (RX2, 115, yX0_accept, RX2), (RX0, 130, yX2_streamPlace, RX2), (RX0, 133, yX2_messageOf, RX2), (RX2, 125, yX0_releaseHeld, RX2), (RX2, 131, yX0_holds, RX2), (RX2, 152, yX0_countLinksTo, RX2), (RX2, 158, yX1_takeBackInto, RX2), (RX2, 176, yX0_mixCounters, RX2), (RX0, 154, yX2_mix, RX2), (RX2, 180, yX0_mixLinksets, RX2), (RX2, 183, yX0_mixDestination, RX2), (RX2, 186, yX0_mixHolding, RX2)]
/-- the tables' words that every contract of this claim wants of a state -/
def CT (D : va_G) (cI cO : ClassId) (U : State) : Prop := va_K D vwCl [(cI, .int), (cO, .object RX0)] U ∧ (∀ q ∈ nwF, va_Nw (.fieldLinkNest q.1 q.2.1 q.2.2.1 q.2.2.2.1 q.2.2.2.2.1 q.2.2.2.2.2) U) ∧ ∀ q ∈ nwM, va_Nw (.methodLinkNest q.1 q.2.1 q.2.2.1 q.2.2.2) U
theorem CT.warm {D : va_G} {cI cO : ClassId} {s U : State} (h : CT D cI cO s) (hW : s.WarmedH U.vm) : CT D cI cO U := ⟨h.1.moved hW.alike, fun q hq => (h.2.1 q hq).warmF hW, fun q hq => (h.2.2 q hq).warmM hW⟩
theorem CT.same {D : va_G} {cI cO : ClassId} {s U : State} (h : CT D cI cO s) (hv : s.vm = U.vm) : CT D cI cO U := ⟨h.1.moved (by rw [hv]; exact Vm.Alike.refl U.vm), fun q hq => (h.2.1 q hq).same rfl hv, fun q hq => (h.2.2 q hq).same rfl hv⟩
def PR (D : va_G) (cI cO : ClassId) (ws : va_W) (U : State) : Prop := va_P D vwCl ws U.heap ∧ CT D cI cO U
def PW (D : va_G) (cI cO : ClassId) (ws : va_W) (sz : Nat) (U : State) : Prop := U.heap.size = sz ∧ va_P D vwCl ws U.heap ∧ CT D cI cO U ∧ va_D (fun _ => True) ws
def QB {α : Type} (D : va_G) (ws : va_W) (sz : Nat) (wf : α → va_W) (u : α) (t : State) : Prop := va_P D vwCl (wf u) t.heap ∧ va_D (va_A ws sz) (wf u)
section KA
variable {l : Launch} {y : MethodName} {cc : ByteArray} {maxL : Nat} {rm : Room} {vs : List Value} {ws : va_W} {D : va_G} {cI cO : ClassId} {sz : Nat}
theorem rd_int {post : Int32 → Prop} (hy : plainName y.cls = true) (hlen : (lg_sl vs).length ≤ maxL)
    (body : ∀ (p : Program) (e : Env) (s : State) (m : MethodId) (args : Array Value) (below : List Frame) (meth : Method) (c : Code) (Q : State → Prop) (ls : Array Slot), CallFix p m c cc maxL s args WL y.cls → va_P D vwCl ws s.heap → CT D cI cO s →
      (∀ (r : Int32) (pc : Nat) (ls : Array Slot), post r → decode cc pc = .ok (.ireturn, 1) → W p l e rm s m args below meth c s.heap [] 0 0 Q (F0 m pc ls [.int r])) → lv_has ls maxL (lv_args 0 vs) → W p l e rm s m args below meth c s.heap [] 0 0 Q (F0 m 0 ls [])) :
    Met l y (Cond.code y cc maxL (some .int) :: WL) rm (va_Pc vs (PR D cI cO ws)) (vp_Si post) 0 0 (fun _ => False) := by
  refine Met.ofW (cc := cc) (maxL := maxL) (ret := some .int) hy rfl ?_
  intro p e s m args below meth c s₁ B hml hv
  obtain ⟨hargs, hP, hC⟩ := hv
  have hts := atoms_spec (ws := Cond.code y cc maxL (some .int) :: WL) B.pre
  have hl := lv_entry vs hlen
  have hlocks := B.notSynchronized
  rw [show entryFrame m args maxL = F0 m 0 ((lg_sl vs ++ List.replicate (maxL - (lg_sl vs).length) Slot.unset).toArray) [] from by rw [hargs]; exact lg_entry_eq m vs maxL]
  exact body p e s m args below meth c _ _ ⟨B.exec, B.bytes, hml, findClass_of_methodNamed B.named, fun w h => hts w (List.mem_cons_of_mem _ h)⟩ hP hC (fun r pc ls hr hd => W.iret (v := r) B.exec B.bytes B.returns (fun t ht _ => ⟨r, rfl, hr, ht⟩) (fun _ h => by cases h) hd) hl
theorem rd_bool {post : Int32 → Prop} (hy : plainName y.cls = true) (hlen : (lg_sl vs).length ≤ maxL)
    (body : ∀ (p : Program) (e : Env) (s : State) (m : MethodId) (args : Array Value) (below : List Frame) (meth : Method) (c : Code) (Q : State → Prop) (ls : Array Slot), CallFix p m c cc maxL s args WL y.cls → va_P D vwCl ws s.heap → CT D cI cO s →
      (∀ (r : Int32) (pc : Nat) (ls : Array Slot), post r → (r = 0 ∨ r = 1) → decode cc pc = .ok (.ireturn, 1) → W p l e rm s m args below meth c s.heap [] 0 0 Q (F0 m pc ls [.int r])) → lv_has ls maxL (lv_args 0 vs) → W p l e rm s m args below meth c s.heap [] 0 0 Q (F0 m 0 ls [])) :
    Met l y (Cond.code y cc maxL (some .boolean) :: WL) rm (va_Pc vs (PR D cI cO ws)) (vp_Si post) 0 0 (fun _ => False) := by
  refine Met.ofW (cc := cc) (maxL := maxL) (ret := some .boolean) hy rfl ?_
  intro p e s m args below meth c s₁ B hml hv
  obtain ⟨hargs, hP, hC⟩ := hv
  have hts := atoms_spec (ws := Cond.code y cc maxL (some .boolean) :: WL) B.pre
  have hl := lv_entry vs hlen
  have hlocks := B.notSynchronized
  rw [show entryFrame m args maxL = F0 m 0 ((lg_sl vs ++ List.replicate (maxL - (lg_sl vs).length) Slot.unset).toArray) [] from by rw [hargs]; exact lg_entry_eq m vs maxL]
  exact body p e s m args below meth c _ _ ⟨B.exec, B.bytes, hml, findClass_of_methodNamed B.named, fun w h => hts w (List.mem_cons_of_mem _ h)⟩ hP hC (fun r pc ls hr hz hd => W.zret (v := r) B.exec B.bytes B.returns (by rcases hz with rfl | rfl <;> decide) (fun t ht _ => ⟨r, rfl, hr, ht⟩) (fun _ h => by cases h) hd) hl
theorem rd_long {post : Int64 → Prop} (hy : plainName y.cls = true) (hlen : (lg_sl vs).length ≤ maxL)
    (body : ∀ (p : Program) (e : Env) (s : State) (m : MethodId) (args : Array Value) (below : List Frame) (meth : Method) (c : Code) (Q : State → Prop) (ls : Array Slot), CallFix p m c cc maxL s args WL y.cls → va_P D vwCl ws s.heap → CT D cI cO s →
      (∀ (r : Int64) (pc : Nat) (ls : Array Slot), post r → decode cc pc = .ok (.lreturn, 1) → W p l e rm s m args below meth c s.heap [] 0 0 Q (F0 m pc ls [.long r])) → lv_has ls maxL (lv_args 0 vs) → W p l e rm s m args below meth c s.heap [] 0 0 Q (F0 m 0 ls [])) :
    Met l y (Cond.code y cc maxL (some .long) :: WL) rm (va_Pc vs (PR D cI cO ws)) (vp_Sl post) 0 0 (fun _ => False) := by
  refine Met.ofW (cc := cc) (maxL := maxL) (ret := some .long) hy rfl ?_
  intro p e s m args below meth c s₁ B hml hv
  obtain ⟨hargs, hP, hC⟩ := hv
  have hts := atoms_spec (ws := Cond.code y cc maxL (some .long) :: WL) B.pre
  have hl := lv_entry vs hlen
  have hlocks := B.notSynchronized
  rw [show entryFrame m args maxL = F0 m 0 ((lg_sl vs ++ List.replicate (maxL - (lg_sl vs).length) Slot.unset).toArray) [] from by rw [hargs]; exact lg_entry_eq m vs maxL]
  exact body p e s m args below meth c _ _ ⟨B.exec, B.bytes, hml, findClass_of_methodNamed B.named, fun w h => hts w (List.mem_cons_of_mem _ h)⟩ hP hC (fun r pc ls hr hd => W.lret (v := r) B.exec B.bytes B.returns (fun t ht _ => ⟨r, rfl, hr, ht⟩) (fun _ h => by cases h) hd) hl
theorem wr_int {α : Type} {wf : α → va_W} {post : Int32 → α → Prop} (hy : plainName y.cls = true) (hlen : (lg_sl vs).length ≤ maxL)
    (body : ∀ (p : Program) (e : Env) (s : State) (m : MethodId) (args : Array Value) (below : List Frame) (meth : Method) (c : Code) (Q : State → Prop) (ls : Array Slot) (A : Nat → Prop), CallFix p m c cc maxL s args WL y.cls → va_P D vwCl ws s.heap → CT D cI cO s → va_D A ws → (∀ q : Nat, s.heap.size ≤ q → A q) →
      (∀ (r : Int32) (u : α) (pc : Nat) (ls : Array Slot) (H : Heap) (locs : List Loc), post r u → va_P D vwCl (wf u) H → va_D A (wf u) → va_S A s.heap H locs → decode cc pc = .ok (.ireturn, 1) → W p l e rm s m args below meth c H locs 0 0 Q (F0 m pc ls [.int r])) → lv_has ls maxL (lv_args 0 vs) → W p l e rm s m args below meth c s.heap [] 0 0 Q (F0 m 0 ls [])) :
    Met l y (Cond.code y cc maxL (some .int) :: WL) rm (va_Pc vs (PW D cI cO ws sz)) (va_Qi post (QB D ws sz wf) (va_A ws sz)) 0 0 (va_A ws sz) := by
  refine Met.ofW (cc := cc) (maxL := maxL) (ret := some .int) hy rfl ?_
  intro p e s m args below meth c s₁ B hml hv
  obtain ⟨hargs, hsz, hP, hC, hD0⟩ := hv
  subst hsz
  have hts := atoms_spec (ws := Cond.code y cc maxL (some .int) :: WL) B.pre
  have hl := lv_entry vs hlen
  have hlocks := B.notSynchronized
  have hD := hD0.self (sz := s.heap.size)
  rw [show entryFrame m args maxL = F0 m 0 ((lg_sl vs ++ List.replicate (maxL - (lg_sl vs).length) Slot.unset).toArray) [] from by rw [hargs]; exact lg_entry_eq m vs maxL]
  exact body p e s m args below meth c _ _ (va_A ws s.heap.size) ⟨B.exec, B.bytes, hml, findClass_of_methodNamed B.named, fun w h => hts w (List.mem_cons_of_mem _ h)⟩ hP hC hD (fun q h => Or.inr h) (fun r u pc ls H locs hr hP1 hD1 hS1 hd => W.iret (v := r) B.exec B.bytes B.returns (fun t ht _ => ⟨⟨r, u, rfl, hr, by rw [ht]; exact hP1, hD1⟩, hS1.F ht⟩) hS1.2.2 hd) hl
theorem wr_long {α : Type} {wf : α → va_W} {post : Int64 → α → Prop} (hy : plainName y.cls = true) (hlen : (lg_sl vs).length ≤ maxL)
    (body : ∀ (p : Program) (e : Env) (s : State) (m : MethodId) (args : Array Value) (below : List Frame) (meth : Method) (c : Code) (Q : State → Prop) (ls : Array Slot) (A : Nat → Prop), CallFix p m c cc maxL s args WL y.cls → va_P D vwCl ws s.heap → CT D cI cO s → va_D A ws → (∀ q : Nat, s.heap.size ≤ q → A q) →
      (∀ (r : Int64) (u : α) (pc : Nat) (ls : Array Slot) (H : Heap) (locs : List Loc), post r u → va_P D vwCl (wf u) H → va_D A (wf u) → va_S A s.heap H locs → decode cc pc = .ok (.lreturn, 1) → W p l e rm s m args below meth c H locs 0 0 Q (F0 m pc ls [.long r])) → lv_has ls maxL (lv_args 0 vs) → W p l e rm s m args below meth c s.heap [] 0 0 Q (F0 m 0 ls [])) :
    Met l y (Cond.code y cc maxL (some .long) :: WL) rm (va_Pc vs (PW D cI cO ws sz)) (va_Ql post (QB D ws sz wf) (va_A ws sz)) 0 0 (va_A ws sz) := by
  refine Met.ofW (cc := cc) (maxL := maxL) (ret := some .long) hy rfl ?_
  intro p e s m args below meth c s₁ B hml hv
  obtain ⟨hargs, hsz, hP, hC, hD0⟩ := hv
  subst hsz
  have hts := atoms_spec (ws := Cond.code y cc maxL (some .long) :: WL) B.pre
  have hl := lv_entry vs hlen
  have hlocks := B.notSynchronized
  have hD := hD0.self (sz := s.heap.size)
  rw [show entryFrame m args maxL = F0 m 0 ((lg_sl vs ++ List.replicate (maxL - (lg_sl vs).length) Slot.unset).toArray) [] from by rw [hargs]; exact lg_entry_eq m vs maxL]
  exact body p e s m args below meth c _ _ (va_A ws s.heap.size) ⟨B.exec, B.bytes, hml, findClass_of_methodNamed B.named, fun w h => hts w (List.mem_cons_of_mem _ h)⟩ hP hC hD (fun q h => Or.inr h) (fun r u pc ls H locs hr hP1 hD1 hS1 hd => W.lret (v := r) B.exec B.bytes B.returns (fun t ht _ => ⟨⟨r, u, rfl, hr, by rw [ht]; exact hP1, hD1⟩, hS1.F ht⟩) hS1.2.2 hd) hl
theorem wr_void {α : Type} {wf : α → va_W} {post : α → Prop} (hy : plainName y.cls = true) (hlen : (lg_sl vs).length ≤ maxL)
    (body : ∀ (p : Program) (e : Env) (s : State) (m : MethodId) (args : Array Value) (below : List Frame) (meth : Method) (c : Code) (Q : State → Prop) (ls : Array Slot) (A : Nat → Prop), CallFix p m c cc maxL s args WL y.cls → va_P D vwCl ws s.heap → CT D cI cO s → va_D A ws → (∀ q : Nat, s.heap.size ≤ q → A q) →
      (∀ (u : α) (pc : Nat) (ls : Array Slot) (H : Heap) (locs : List Loc), post u → va_P D vwCl (wf u) H → va_D A (wf u) → va_S A s.heap H locs → decode cc pc = .ok (.return_, 1) → W p l e rm s m args below meth c H locs 0 0 Q (F0 m pc ls [])) → lv_has ls maxL (lv_args 0 vs) → W p l e rm s m args below meth c s.heap [] 0 0 Q (F0 m 0 ls [])) :
    Met l y (Cond.code y cc maxL none :: WL) rm (va_Pc vs (PW D cI cO ws sz)) (va_Qv post (QB D ws sz wf) (va_A ws sz)) 0 0 (va_A ws sz) := by
  refine Met.ofW (cc := cc) (maxL := maxL) (ret := none) hy rfl ?_
  intro p e s m args below meth c s₁ B hml hv
  obtain ⟨hargs, hsz, hP, hC, hD0⟩ := hv
  subst hsz
  have hts := atoms_spec (ws := Cond.code y cc maxL none :: WL) B.pre
  have hl := lv_entry vs hlen
  have hlocks := B.notSynchronized
  have hD := hD0.self (sz := s.heap.size)
  rw [show entryFrame m args maxL = F0 m 0 ((lg_sl vs ++ List.replicate (maxL - (lg_sl vs).length) Slot.unset).toArray) [] from by rw [hargs]; exact lg_entry_eq m vs maxL]
  exact body p e s m args below meth c _ _ (va_A ws s.heap.size) ⟨B.exec, B.bytes, hml, findClass_of_methodNamed B.named, fun w h => hts w (List.mem_cons_of_mem _ h)⟩ hP hC hD (fun q h => Or.inr h) (fun u pc ls H locs hr hP1 hD1 hS1 hd => W.vret B.exec B.bytes B.returns (fun t ht _ => ⟨⟨u, rfl, hr, by rw [ht]; exact hP1, hD1⟩, hS1.F ht⟩) hS1.2.2 hd) hl
end KA
end
section
/-! worlds side by side; calls by contract; numbers -/
theorem va_dl {A : Nat → Prop} {x y : va_W} (h : va_D A (x ++ y)) : va_D A x := by
  have key : ∀ (i : Nat) (p : Nat × va_E), x[i]? = some p → (x ++ y)[i]? = some p := fun i p hp => by
    rw [List.getElem?_append_left (List.getElem?_eq_some_iff.mp hp).1]; exact hp
  exact ⟨fun i j p q hi hj hpq => h.1 i j p q (key i p hi) (key j q hj) hpq, fun k q hk => h.2 k q (key k q hk)⟩
theorem va_dr {A : Nat → Prop} {x y : va_W} (h : va_D A (x ++ y)) : va_D A y := by
  have key : ∀ (i : Nat) (p : Nat × va_E), y[i]? = some p → (x ++ y)[x.length + i]? = some p := fun i p hp => by
    rw [List.getElem?_append_right (Nat.le_add_right _ _), Nat.add_sub_cancel_left]; exact hp
  exact ⟨fun i j p q hi hj hpq => Nat.add_left_cancel (h.1 _ _ p q (key i p hi) (key j q hj) hpq), fun k q hk => h.2 _ q (key k q hk)⟩
theorem va_dx {A : Nat → Prop} {x y : va_W} (h : va_D A (x ++ y)) (i j : Nat) (p q : Nat × va_E) (hi : x[i]? = some p) (hj : y[j]? = some q) : p.1 ≠ q.1 := by
  intro e
  have h1 := (List.getElem?_eq_some_iff.mp hi).1
  have a1 : (x ++ y)[i]? = some p := by rw [List.getElem?_append_left h1]; exact hi
  have a2 : (x ++ y)[x.length + j]? = some q := by rw [List.getElem?_append_right (Nat.le_add_right _ _), Nat.add_sub_cancel_left]; exact hj
  have := h.1 _ _ p q a1 a2 e
  omega
theorem va_pl0 {D : va_G} {cl : List vw_C} {x y : va_W} {H : Heap} (h : va_P D cl (x ++ y) H) : va_P D cl x H := fun i p hp => h i p (by rw [List.getElem?_append_left (List.getElem?_eq_some_iff.mp hp).1]; exact hp)
theorem va_pr0 {D : va_G} {cl : List vw_C} {x y : va_W} {H : Heap} (h : va_P D cl (x ++ y) H) : va_P D cl y H := fun i p hp => h (x.length + i) p (by rw [List.getElem?_append_right (Nat.le_add_right _ _), Nat.add_sub_cancel_left]; exact hp)
/-- the callee's cells stand between the rest's: behind the call the rest is as it was -/
theorem jn {A0 : Nat → Prop} {D : va_G} {cl : List vw_C} {pre wc w1 suf : va_W} {H H1 : Heap} (hP : va_P D cl (pre ++ (wc ++ suf)) H) (hD : va_D A0 (pre ++ (wc ++ suf)))
    (hk : ∀ q : Nat, q < H.size → ¬ va_A wc H.size q → H1[q]? = H[q]?) (hF : ∀ q, va_A wc H.size q → A0 q) (hP1 : va_P D cl w1 H1) (hD1 : va_D (va_A wc H.size) w1) : va_P D cl (pre ++ (w1 ++ suf)) H1 ∧ va_D A0 (pre ++ (w1 ++ suf)) := by
  have ap : ∀ (k : Nat) (q : Nat × va_E), pre[k]? = some q → q.1 < H.size ∧ ¬ va_A wc H.size q.1 := fun k q hq => by
    have hl := (va_pl0 hP k q hq).lt
    refine ⟨hl, fun h => ?_⟩
    rcases h with ⟨k2, e, h⟩ | h
    · exact va_dx hD k k2 q (q.1, e) hq (by rw [List.getElem?_append_left (List.getElem?_eq_some_iff.mp h).1]; exact h) rfl
    · omega
  have as : ∀ (k : Nat) (q : Nat × va_E), suf[k]? = some q → q.1 < H.size ∧ ¬ va_A wc H.size q.1 := fun k q hq => by
    have hl := (va_pr0 (va_pr0 hP) k q hq).lt
    refine ⟨hl, fun h => ?_⟩
    rcases h with ⟨k2, e, h⟩ | h
    · exact va_dx (va_dr hD) k2 k (q.1, e) q h hq rfl
    · omega
  refine ⟨va_P.app (fun k q hq => (va_pl0 hP k q hq).kept (hk q.1 (ap k q hq).1 (ap k q hq).2)) (va_P.app hP1 (fun k q hq => (va_pr0 (va_pr0 hP) k q hq).kept (hk q.1 (as k q hq).1 (as k q hq).2))), ?_⟩
  refine va_D.app (va_dl hD) (va_D.app (hD1.weaken (fun k q _ h => hF q.1 h)) (va_dr (va_dr hD)) (fun i j x y hx hy hxy => (as j y hy).2 (by rw [← hxy]; exact hD1.2 i x hx))) (fun i j x y hx hy hxy => ?_)
  by_cases hj : j < w1.length
  · rw [List.getElem?_append_left hj] at hy
    exact (ap i x hx).2 (by rw [hxy]; exact hD1.2 j y hy)
  · rw [List.getElem?_append_right (Nat.le_of_not_lt hj)] at hy
    have hy2 : (wc ++ suf)[wc.length + (j - w1.length)]? = some y := by rw [List.getElem?_append_right (Nat.le_add_right _ _), Nat.add_sub_cancel_left]; exact hy
    exact va_dx hD i _ x y hx hy2 hxy
section KC
variable {p : Program} {l : Launch} {e : Env} {R : Room} {s : State} {m : MethodId} {args : Array Value} {below : List Frame} {meth : Method} {c : Code} {H : Heap} {locs : List Loc} {cells slots : Nat} {Q : State → Prop} {cc : ByteArray} {pc nL : Nat} {ls : Array Slot} {rest st0 : List Value} {own : String}
variable {y : MethodName} {bytes : ByteArray} {maxL index n : Nat} {ret : Option FieldType} {rm : Room} {Pc : Array Value → State → Prop} {Qc : Array Value → State → Outcome → State → Prop} {free : Addr → Prop} {b : Addr} {As : List Value} {C host : String} {D : va_G} {cI cO : ClassId} {wc : va_W}
/-- what a call wants of the callee's name -/
abbrev YW (y : MethodName) (bytes : ByteArray) (maxL : Nat) (ret : Option FieldType) (n : Nat) : Prop := Cond.code y bytes maxL ret ∈ WL ∧ Cond.initialized y.cls ∈ WL ∧ y.cls ≠ "java/lang/invoke/MethodHandle" ∧ y.cls ≠ "java/lang/invoke/VarHandle" ∧ (parseMethodDescriptor y.desc).map (fun d => d.parameters.length) = some n
theorem blindR {vs : List Value} {ws : va_W} : FrameBlind (va_Pc vs (PR D cI cO ws)) := fun a U g mk q => ⟨q.1, q.2.1, q.2.2.same rfl⟩
theorem blindW {vs : List Value} {ws : va_W} {sz : Nat} : FrameBlind (va_Pc vs (PW D cI cO ws sz)) := fun a U g mk q => ⟨q.1, q.2.1, q.2.2.1, q.2.2.2.1.same rfl, q.2.2.2.2⟩
theorem preR {ws : va_W} (hP : va_P D vwCl ws H) (hC : CT D cI cO s) : PreS s H (va_Pc As (PR D cI cO ws)) As := ⟨blindR, fun U hU hW => ⟨rfl, by rw [hU]; exact hP, hC.warm hW⟩⟩
theorem preW {ws : va_W} {A : Nat → Prop} (hP : va_P D vwCl ws H) (hC : CT D cI cO s) (hD : va_D A ws) : PreS s H (va_Pc As (PW D cI cO ws H.size)) As := ⟨blindW, fun U hU hW => ⟨rfl, by rw [hU], by rw [hU]; exact hP, hC.warm hW, hD.weaken (fun _ _ _ _ => trivial)⟩⟩
theorem preV (h : PreS s H Pc (.ref b :: As)) {ws : va_W} {ci q0 : Nat} {q : vw_C} {fs : List Value} (hC : CT D cI cO s) (hP : va_P D vwCl ws H) (hc : vwCl[ci]? = some q) (he : ws[q0]? = some (b, .inr (ci, fs))) (hq : q.1 = C) : PreV s H C b Pc As := ⟨h.1, by rw [← hq]; exact va_recv hC.1 hP hc he, h.2⟩
theorem kV (F : CallFix p m c cc nL s args WL own) (hM : Met l y (Cond.code y bytes maxL ret :: WL) rm Pc Qc 0 0 free) (hY : YW y bytes maxL ret n) (q1 : Cond.methodLink own index y ∈ WL) (q2 : Cond.instanceMethod y ∈ WL) (q3 : Cond.selects C y y ∈ WL) (hr : rm.cells = 0 ∧ rm.slots = 0) (hR : rm.frames + 1 ≤ R.frames ∧ 8 + (maxL + 11) + rm.locals ≤ R.locals) (hp : PreV s H C b Pc As)
    (hn : As.length = n) (hsize : ls.size = nL) (hstack : st0 = As.reverse ++ .ref b :: rest) (hW : (rest.map fun v => v.category).sum ≤ 8) (hdg : decode cc pc = .ok (.invokevirtual index, 3)) (hf : cells ≤ R.cells ∧ slots ≤ R.slots) :
    va_Run p l e R s m args below meth c H locs cells slots 0 0 (F0 m pc ls st0) rest (Qc (Value.ref b :: As).toArray) free := by
  obtain ⟨y1, y2, y3⟩ := hY
  exact va_runV F hM ⟨callB_of n F.2.2.2.2 (WL_good2 y1) rfl hr.1 hr.2 (F.2.2.2.2 _ y2) (F.2.2.2.2 _ q1) y3 hR, F.2.2.2.2 _ q2, F.2.2.2.2 _ q3⟩ hp rfl hn hsize hstack (lv_room hW) hdg hf
theorem kS (F : CallFix p m c cc nL s args WL own) (hM : Met l y (Cond.code y bytes maxL ret :: WL) rm Pc Qc 0 0 free) (hY : YW y bytes maxL ret n) (q1 : Cond.methodLink own index y ∈ WL) (q2 : Cond.static y ∈ WL) (hr : rm.cells = 0 ∧ rm.slots = 0) (hR : rm.frames + 1 ≤ R.frames ∧ 8 + (maxL + 11) + rm.locals ≤ R.locals) (hp : PreS s H Pc As)
    (hn : As.length = n) (hsize : ls.size = nL) (hstack : st0 = As.reverse ++ rest) (hW : (rest.map fun v => v.category).sum ≤ 8) (hdg : decode cc pc = .ok (.invokestatic index, 3)) (hf : cells ≤ R.cells ∧ slots ≤ R.slots) :
    va_Run p l e R s m args below meth c H locs cells slots 0 0 (F0 m pc ls st0) rest (Qc As.toArray) free := by
  obtain ⟨y1, y2, y3⟩ := hY
  exact va_runS F hM ⟨callB_of n F.2.2.2.2 (WL_good2 y1) rfl hr.1 hr.2 (F.2.2.2.2 _ y2) (F.2.2.2.2 _ q1) y3 hR, F.2.2.2.2 _ q2⟩ hp rfl hn hsize hstack (lv_room hW) hdg hf
theorem kVN (F : CallFix p m c cc nL s args WL own) (hM : Met l y (Cond.code y bytes maxL ret :: WL) rm Pc Qc 0 0 free) (hY : YW y bytes maxL ret n) (q1 : va_Nw (.methodLinkNest own index y host) s) (q2 : Cond.instanceMethod y ∈ WL) (q3 : Cond.selects C y y ∈ WL) (hr : rm.cells = 0 ∧ rm.slots = 0) (hR : rm.frames + 1 ≤ R.frames ∧ 8 + (maxL + 11) + rm.locals ≤ R.locals) (hp : PreV s H C b Pc As)
    (hn : As.length = n) (hsize : ls.size = nL) (hstack : st0 = As.reverse ++ .ref b :: rest) (hW : (rest.map fun v => v.category).sum ≤ 8) (hdg : decode cc pc = .ok (.invokevirtual index, 3)) (hf : cells ≤ R.cells ∧ slots ≤ R.slots) :
    va_Run p l e R s m args below meth c H locs cells slots 0 0 (F0 m pc ls st0) rest (Qc (Value.ref b :: As).toArray) free := by
  obtain ⟨y1, y2, y3⟩ := hY
  exact va_runVN F hM ⟨va_cnB n F.2.2.2.2 (WL_good2 y1) rfl hr.1 hr.2 q1 (F.2.2.2.2 _ y2) y3 hR, F.2.2.2.2 _ q2, F.2.2.2.2 _ q3⟩ hp rfl hn hsize hstack (lv_room hW) hdg hf
theorem kSN (F : CallFix p m c cc nL s args WL own) (hM : Met l y (Cond.code y bytes maxL ret :: WL) rm Pc Qc 0 0 free) (hY : YW y bytes maxL ret n) (q1 : va_Nw (.methodLinkNest own index y host) s) (q2 : Cond.static y ∈ WL) (hr : rm.cells = 0 ∧ rm.slots = 0) (hR : rm.frames + 1 ≤ R.frames ∧ 8 + (maxL + 11) + rm.locals ≤ R.locals) (hp : PreS s H Pc As)
    (hn : As.length = n) (hsize : ls.size = nL) (hstack : st0 = As.reverse ++ rest) (hW : (rest.map fun v => v.category).sum ≤ 8) (hdg : decode cc pc = .ok (.invokestatic index, 3)) (hf : cells ≤ R.cells ∧ slots ≤ R.slots) :
    va_Run p l e R s m args below meth c H locs cells slots 0 0 (F0 m pc ls st0) rest (Qc As.toArray) free := by
  obtain ⟨y1, y2, y3⟩ := hY
  exact va_runSN F hM ⟨va_cnB n F.2.2.2.2 (WL_good2 y1) rfl hr.1 hr.2 q1 (F.2.2.2.2 _ y2) y3 hR, F.2.2.2.2 _ q2, trivial⟩ hp rfl hn hsize hstack (lv_room hW) hdg hf
theorem goR {post : Int32 → Prop} {a : Array Value} (hr : va_Run p l e R s m args below meth c H locs cells slots 0 0 (F0 m pc ls st0) rest (vp_Si post a) (fun _ => False))
    (kk : ∀ r : Int32, post r → W p l e R s m args below meth c H locs cells slots Q (F0 m (pc + 3) ls (.int r :: rest))) : W p l e R s m args below meth c H locs cells slots Q (F0 m pc ls st0) := by
  intro T hT X
  obtain ⟨v, st₀, t, T', L, h0, X', hL, e1, -, ⟨r, hv, hp, hh⟩, st⟩ := hr T hT X
  cases hv
  obtain ⟨t2, a1, b1⟩ := kk r hp T' (by rw [e1, hh, h0]) (Stand.forget X' (fun q h => (hL q h).elim))
  exact ⟨t2, st t2 a1, b1⟩
theorem goRl {post : Int64 → Prop} {a : Array Value} (hr : va_Run p l e R s m args below meth c H locs cells slots 0 0 (F0 m pc ls st0) rest (vp_Sl post a) (fun _ => False))
    (kk : ∀ r : Int64, post r → W p l e R s m args below meth c H locs cells slots Q (F0 m (pc + 3) ls (.long r :: rest))) : W p l e R s m args below meth c H locs cells slots Q (F0 m pc ls st0) := by
  intro T hT X
  obtain ⟨v, st₀, t, T', L, h0, X', hL, e1, -, ⟨r, hv, hp, hh⟩, st⟩ := hr T hT X
  cases hv
  obtain ⟨t2, a1, b1⟩ := kk r hp T' (by rw [e1, hh, h0]) (Stand.forget X' (fun q h => (hL q h).elim))
  exact ⟨t2, st t2 a1, b1⟩
variable {A0 : Nat → Prop} {H0 : Heap} {pre suf : va_W}
theorem fr_in (hD : va_D A0 (pre ++ (wc ++ suf))) (hS : va_S A0 H0 H locs) (hA : ∀ q, H0.size ≤ q → A0 q) : ∀ q, va_A wc H.size q → A0 q := fun q h => by
  rcases h with ⟨k, e, h⟩ | h
  · exact (va_dl (va_dr hD)).2 k (q, e) h
  · exact hA q (Nat.le_trans hS.1 h)
theorem goWi {α : Type} {wf : α → va_W} {post : Int32 → α → Prop} {a : Array Value} (hr : va_Run p l e R s m args below meth c H locs cells slots 0 0 (F0 m pc ls st0) rest (va_Qi post (QB D wc H.size wf) (va_A wc H.size) a) (va_A wc H.size))
    (hP : va_P D vwCl (pre ++ (wc ++ suf)) H) (hD : va_D A0 (pre ++ (wc ++ suf))) (hS : va_S A0 H0 H locs) (hA : ∀ q, H0.size ≤ q → A0 q)
    (kk : ∀ (r : Int32) (u : α) (H1 : Heap) (locs1 : List Loc), post r u → va_P D vwCl (pre ++ (wf u ++ suf)) H1 → va_D A0 (pre ++ (wf u ++ suf)) → va_S A0 H0 H1 locs1 → W p l e R s m args below meth c H1 locs1 cells slots Q (F0 m (pc + 3) ls (.int r :: rest))) : W p l e R s m args below meth c H locs cells slots Q (F0 m pc ls st0) := by
  have hF := fr_in hD hS hA
  refine va_calli hr hS (fun q _ h => hF q h) hF (fun r u t H1 locs1 ht hvm hw hB hz1 hk1 hS1 => ?_)
  obtain ⟨hP1, hD1⟩ := hB
  rw [ht] at hP1
  obtain ⟨hP2, hD2⟩ := jn hP hD hk1 hF hP1 hD1
  exact kk r u H1 locs1 hw hP2 hD2 hS1
theorem goWl {α : Type} {wf : α → va_W} {post : Int64 → α → Prop} {a : Array Value} (hr : va_Run p l e R s m args below meth c H locs cells slots 0 0 (F0 m pc ls st0) rest (va_Ql post (QB D wc H.size wf) (va_A wc H.size) a) (va_A wc H.size))
    (hP : va_P D vwCl (pre ++ (wc ++ suf)) H) (hD : va_D A0 (pre ++ (wc ++ suf))) (hS : va_S A0 H0 H locs) (hA : ∀ q, H0.size ≤ q → A0 q)
    (kk : ∀ (r : Int64) (u : α) (H1 : Heap) (locs1 : List Loc), post r u → va_P D vwCl (pre ++ (wf u ++ suf)) H1 → va_D A0 (pre ++ (wf u ++ suf)) → va_S A0 H0 H1 locs1 → W p l e R s m args below meth c H1 locs1 cells slots Q (F0 m (pc + 3) ls (.long r :: rest))) : W p l e R s m args below meth c H locs cells slots Q (F0 m pc ls st0) := by
  have hF := fr_in hD hS hA
  refine va_calll hr hS (fun q _ h => hF q h) hF (fun r u t H1 locs1 ht hvm hw hB hz1 hk1 hS1 => ?_)
  obtain ⟨hP1, hD1⟩ := hB
  rw [ht] at hP1
  obtain ⟨hP2, hD2⟩ := jn hP hD hk1 hF hP1 hD1
  exact kk r u H1 locs1 hw hP2 hD2 hS1
theorem goWv {α : Type} {wf : α → va_W} {post : α → Prop} {a : Array Value} (hr : va_Run p l e R s m args below meth c H locs cells slots 0 0 (F0 m pc ls st0) rest (va_Qv post (QB D wc H.size wf) (va_A wc H.size) a) (va_A wc H.size))
    (hP : va_P D vwCl (pre ++ (wc ++ suf)) H) (hD : va_D A0 (pre ++ (wc ++ suf))) (hS : va_S A0 H0 H locs) (hA : ∀ q, H0.size ≤ q → A0 q)
    (kk : ∀ (u : α) (H1 : Heap) (locs1 : List Loc), post u → va_P D vwCl (pre ++ (wf u ++ suf)) H1 → va_D A0 (pre ++ (wf u ++ suf)) → va_S A0 H0 H1 locs1 → W p l e R s m args below meth c H1 locs1 cells slots Q (F0 m (pc + 3) ls rest)) : W p l e R s m args below meth c H locs cells slots Q (F0 m pc ls st0) := by
  have hF := fr_in hD hS hA
  refine va_callv hr hS (fun q _ h => hF q h) hF (fun u t H1 locs1 ht hvm hw hB hz1 hk1 hS1 => ?_)
  obtain ⟨hP1, hD1⟩ := hB
  rw [ht] at hP1
  obtain ⟨hP2, hD2⟩ := jn hP hD hk1 hF hP1 hD1
  exact kk u H1 locs1 hw hP2 hD2 hS1
end KC
end
section
section KN
variable {p : Program} {l : Launch} {e : Env} {R : Room} {s : State} {m : MethodId} {args : Array Value} {below : List Frame} {meth : Method} {c : Code} {H : Heap} {locs : List Loc} {cells slots : Nat} {Q : State → Prop} {cc : ByteArray} {pc : Nat} {ls : Array Slot} {rest : List Value}
theorem w_cv {x y : Int32} (h : x = y) (k : W p l e R s m args below meth c H locs cells slots Q (F0 m pc ls (.int y :: rest))) : W p l e R s m args below meth c H locs cells slots Q (F0 m pc ls (.int x :: rest)) := h ▸ k
theorem w_cl {x y : Int64} (h : x = y) (k : W p l e R s m args below meth c H locs cells slots Q (F0 m pc ls (.long y :: rest))) : W p l e R s m args below meth c H locs cells slots Q (F0 m pc ls (.long x :: rest)) := h ▸ k
theorem n_iadd (hx : p.tables.exec = Jvm.exec) (hb : c.code = cc) {a b : Nat} (hdg : decode cc pc = .ok (.iadd, 1))  (k : W p l e R s m args below meth c H locs cells slots Q (F0 m (pc + 1) ls (.int (nI (a + b)) :: rest))) : W p l e R s m args below meth c H locs cells slots Q (F0 m pc ls (.int (nI b) :: .int (nI a) :: rest)) := lv_iadd hx hb hdg  (by rw [nI_add]; exact k)
theorem n_imul (hx : p.tables.exec = Jvm.exec) (hb : c.code = cc) {a b : Nat} (hdg : decode cc pc = .ok (.imul, 1))  (k : W p l e R s m args below meth c H locs cells slots Q (F0 m (pc + 1) ls (.int (nI (a * b)) :: rest))) : W p l e R s m args below meth c H locs cells slots Q (F0 m pc ls (.int (nI b) :: .int (nI a) :: rest)) := lv_imul hx hb hdg  (by rw [pk_mul]; exact k)
theorem n_isub (hx : p.tables.exec = Jvm.exec) (hb : c.code = cc) {a b : Nat} (hdg : decode cc pc = .ok (.isub, 1)) (h : b ≤ a) (k : W p l e R s m args below meth c H locs cells slots Q (F0 m (pc + 1) ls (.int (nI (a - b)) :: rest))) : W p l e R s m args below meth c H locs cells slots Q (F0 m pc ls (.int (nI b) :: .int (nI a) :: rest)) := lv_isub hx hb hdg  (by rw [pk_sub h]; exact k)
theorem n_idiv (hx : p.tables.exec = Jvm.exec) (hb : c.code = cc) {a b : Nat} (hdg : decode cc pc = .ok (.idiv, 1)) (ha : a < 2 ^ 31) (h0 : 0 < b) (hb2 : b < 2 ^ 31) (k : W p l e R s m args below meth c H locs cells slots Q (F0 m (pc + 1) ls (.int (nI (a / b)) :: rest))) : W p l e R s m args below meth c H locs cells slots Q (F0 m pc ls (.int (nI b) :: .int (nI a) :: rest)) := lv_idiv hx hb hdg (nI_ne0 h0 hb2) (by rw [pk_div ha h0 hb2]; exact k)
theorem n_irem (hx : p.tables.exec = Jvm.exec) (hb : c.code = cc) {a b : Nat} (hdg : decode cc pc = .ok (.irem, 1)) (ha : a < 2 ^ 31) (h0 : 0 < b) (hb2 : b < 2 ^ 31) (k : W p l e R s m args below meth c H locs cells slots Q (F0 m (pc + 1) ls (.int (nI (a % b)) :: rest))) : W p l e R s m args below meth c H locs cells slots Q (F0 m pc ls (.int (nI b) :: .int (nI a) :: rest)) := lv_irem hx hb hdg (nI_ne0 h0 hb2) (by rw [pk_rem ha h0 hb2]; exact k)
theorem n_icmp_eq (hx : p.tables.exec = Jvm.exec) (hb : c.code = cc) {a b : Nat} {off : Int} {tgt : Nat} (hdg : decode cc pc = .ok (.if_icmp .eq off, 3)) (ht : (pc : Int) + off = (tgt : Int)) (ha : a < 2 ^ 31) (hb2 : b < 2 ^ 31) (kt : a = b → W p l e R s m args below meth c H locs cells slots Q (F0 m tgt ls (rest))) (kf : ¬ a = b → W p l e R s m args below meth c H locs cells slots Q (F0 m (pc + 3) ls (rest))) : W p l e R s m args below meth c H locs cells slots Q (F0 m pc ls (.int (nI b) :: .int (nI a) :: rest)) := lv_icmp_eq hx hb hdg ht (fun h => kt ((nI_eq ha hb2).mp h)) (fun h => kf (fun q => h ((nI_eq ha hb2).mpr q)))
theorem n_icmp_ne (hx : p.tables.exec = Jvm.exec) (hb : c.code = cc) {a b : Nat} {off : Int} {tgt : Nat} (hdg : decode cc pc = .ok (.if_icmp .ne off, 3)) (ht : (pc : Int) + off = (tgt : Int)) (ha : a < 2 ^ 31) (hb2 : b < 2 ^ 31) (kt : ¬ a = b → W p l e R s m args below meth c H locs cells slots Q (F0 m tgt ls (rest))) (kf : a = b → W p l e R s m args below meth c H locs cells slots Q (F0 m (pc + 3) ls (rest))) : W p l e R s m args below meth c H locs cells slots Q (F0 m pc ls (.int (nI b) :: .int (nI a) :: rest)) := lv_icmp_ne hx hb hdg ht (fun h => kt (fun q => h ((nI_eq ha hb2).mpr q))) (fun h => kf ((nI_eq ha hb2).mp h))
theorem n_icmp_lt (hx : p.tables.exec = Jvm.exec) (hb : c.code = cc) {a b : Nat} {off : Int} {tgt : Nat} (hdg : decode cc pc = .ok (.if_icmp .lt off, 3)) (ht : (pc : Int) + off = (tgt : Int)) (ha : a < 2 ^ 31) (hb2 : b < 2 ^ 31) (kt : a < b → W p l e R s m args below meth c H locs cells slots Q (F0 m tgt ls (rest))) (kf : b ≤ a → W p l e R s m args below meth c H locs cells slots Q (F0 m (pc + 3) ls (rest))) : W p l e R s m args below meth c H locs cells slots Q (F0 m pc ls (.int (nI b) :: .int (nI a) :: rest)) := lv_icmp_lt hx hb hdg ht (fun h => kt ((nI_ltI ha hb2).mp h)) (fun h => kf (Nat.not_lt.mp (fun q => h ((nI_ltI ha hb2).mpr q))))
theorem n_icmp_ge (hx : p.tables.exec = Jvm.exec) (hb : c.code = cc) {a b : Nat} {off : Int} {tgt : Nat} (hdg : decode cc pc = .ok (.if_icmp .ge off, 3)) (ht : (pc : Int) + off = (tgt : Int)) (ha : a < 2 ^ 31) (hb2 : b < 2 ^ 31) (kt : b ≤ a → W p l e R s m args below meth c H locs cells slots Q (F0 m tgt ls (rest))) (kf : a < b → W p l e R s m args below meth c H locs cells slots Q (F0 m (pc + 3) ls (rest))) : W p l e R s m args below meth c H locs cells slots Q (F0 m pc ls (.int (nI b) :: .int (nI a) :: rest)) := lv_icmp_ge hx hb hdg ht (fun h => kt ((nI_leI hb2 ha).mp h)) (fun h => kf (Nat.not_le.mp (fun q => h ((nI_leI hb2 ha).mpr q))))
theorem n_icmp_gt (hx : p.tables.exec = Jvm.exec) (hb : c.code = cc) {a b : Nat} {off : Int} {tgt : Nat} (hdg : decode cc pc = .ok (.if_icmp .gt off, 3)) (ht : (pc : Int) + off = (tgt : Int)) (ha : a < 2 ^ 31) (hb2 : b < 2 ^ 31) (kt : b < a → W p l e R s m args below meth c H locs cells slots Q (F0 m tgt ls (rest))) (kf : a ≤ b → W p l e R s m args below meth c H locs cells slots Q (F0 m (pc + 3) ls (rest))) : W p l e R s m args below meth c H locs cells slots Q (F0 m pc ls (.int (nI b) :: .int (nI a) :: rest)) := lv_icmp_gt hx hb hdg ht (fun h => kt ((nI_ltI hb2 ha).mp h)) (fun h => kf (Nat.not_lt.mp (fun q => h ((nI_ltI hb2 ha).mpr q))))
theorem n_icmp_le (hx : p.tables.exec = Jvm.exec) (hb : c.code = cc) {a b : Nat} {off : Int} {tgt : Nat} (hdg : decode cc pc = .ok (.if_icmp .le off, 3)) (ht : (pc : Int) + off = (tgt : Int)) (ha : a < 2 ^ 31) (hb2 : b < 2 ^ 31) (kt : a ≤ b → W p l e R s m args below meth c H locs cells slots Q (F0 m tgt ls (rest))) (kf : b < a → W p l e R s m args below meth c H locs cells slots Q (F0 m (pc + 3) ls (rest))) : W p l e R s m args below meth c H locs cells slots Q (F0 m pc ls (.int (nI b) :: .int (nI a) :: rest)) := lv_icmp_le hx hb hdg ht (fun h => kt ((nI_leI ha hb2).mp h)) (fun h => kf (Nat.not_le.mp (fun q => h ((nI_leI ha hb2).mpr q))))
theorem n_if_eq (hx : p.tables.exec = Jvm.exec) (hb : c.code = cc) {a : Nat} {off : Int} {tgt : Nat} (hdg : decode cc pc = .ok (.ifCond .eq off, 3)) (ht : (pc : Int) + off = (tgt : Int)) (ha : a < 2 ^ 31) (kt : a = 0 → W p l e R s m args below meth c H locs cells slots Q (F0 m tgt ls (rest))) (kf : ¬ a = 0 → W p l e R s m args below meth c H locs cells slots Q (F0 m (pc + 3) ls (rest))) : W p l e R s m args below meth c H locs cells slots Q (F0 m pc ls (.int (nI a) :: rest)) := lv_if_eq hx hb hdg ht (fun h => kt ((nI_eq ha (by decide : 0 < 2 ^ 31)).mp h)) (fun h => kf (fun q => h ((nI_eq ha (by decide : 0 < 2 ^ 31)).mpr q)))
theorem n_if_ne (hx : p.tables.exec = Jvm.exec) (hb : c.code = cc) {a : Nat} {off : Int} {tgt : Nat} (hdg : decode cc pc = .ok (.ifCond .ne off, 3)) (ht : (pc : Int) + off = (tgt : Int)) (ha : a < 2 ^ 31) (kt : ¬ a = 0 → W p l e R s m args below meth c H locs cells slots Q (F0 m tgt ls (rest))) (kf : a = 0 → W p l e R s m args below meth c H locs cells slots Q (F0 m (pc + 3) ls (rest))) : W p l e R s m args below meth c H locs cells slots Q (F0 m pc ls (.int (nI a) :: rest)) := lv_if_ne hx hb hdg ht (fun h => kt (fun q => h ((nI_eq ha (by decide : 0 < 2 ^ 31)).mpr q))) (fun h => kf ((nI_eq ha (by decide : 0 < 2 ^ 31)).mp h))
theorem n_if_lt (hx : p.tables.exec = Jvm.exec) (hb : c.code = cc) {a : Nat} {off : Int} {tgt : Nat} (hdg : decode cc pc = .ok (.ifCond .lt off, 3)) (ht : (pc : Int) + off = (tgt : Int)) (ha : a < 2 ^ 31) (kt : a < 0 → W p l e R s m args below meth c H locs cells slots Q (F0 m tgt ls (rest))) (kf : 0 ≤ a → W p l e R s m args below meth c H locs cells slots Q (F0 m (pc + 3) ls (rest))) : W p l e R s m args below meth c H locs cells slots Q (F0 m pc ls (.int (nI a) :: rest)) := lv_if_lt hx hb hdg ht (fun h => kt ((nI_ltI ha (by decide : 0 < 2 ^ 31)).mp h)) (fun h => kf (Nat.not_lt.mp (fun q => h ((nI_ltI ha (by decide : 0 < 2 ^ 31)).mpr q))))
theorem n_if_ge (hx : p.tables.exec = Jvm.exec) (hb : c.code = cc) {a : Nat} {off : Int} {tgt : Nat} (hdg : decode cc pc = .ok (.ifCond .ge off, 3)) (ht : (pc : Int) + off = (tgt : Int)) (ha : a < 2 ^ 31) (kt : 0 ≤ a → W p l e R s m args below meth c H locs cells slots Q (F0 m tgt ls (rest))) (kf : a < 0 → W p l e R s m args below meth c H locs cells slots Q (F0 m (pc + 3) ls (rest))) : W p l e R s m args below meth c H locs cells slots Q (F0 m pc ls (.int (nI a) :: rest)) := lv_if_ge hx hb hdg ht (fun h => kt ((nI_leI (by decide : 0 < 2 ^ 31) ha).mp h)) (fun h => kf (Nat.not_le.mp (fun q => h ((nI_leI (by decide : 0 < 2 ^ 31) ha).mpr q))))
theorem n_if_gt (hx : p.tables.exec = Jvm.exec) (hb : c.code = cc) {a : Nat} {off : Int} {tgt : Nat} (hdg : decode cc pc = .ok (.ifCond .gt off, 3)) (ht : (pc : Int) + off = (tgt : Int)) (ha : a < 2 ^ 31) (kt : 0 < a → W p l e R s m args below meth c H locs cells slots Q (F0 m tgt ls (rest))) (kf : a ≤ 0 → W p l e R s m args below meth c H locs cells slots Q (F0 m (pc + 3) ls (rest))) : W p l e R s m args below meth c H locs cells slots Q (F0 m pc ls (.int (nI a) :: rest)) := lv_if_gt hx hb hdg ht (fun h => kt ((nI_ltI (by decide : 0 < 2 ^ 31) ha).mp h)) (fun h => kf (Nat.not_lt.mp (fun q => h ((nI_ltI (by decide : 0 < 2 ^ 31) ha).mpr q))))
theorem n_if_le (hx : p.tables.exec = Jvm.exec) (hb : c.code = cc) {a : Nat} {off : Int} {tgt : Nat} (hdg : decode cc pc = .ok (.ifCond .le off, 3)) (ht : (pc : Int) + off = (tgt : Int)) (ha : a < 2 ^ 31) (kt : a ≤ 0 → W p l e R s m args below meth c H locs cells slots Q (F0 m tgt ls (rest))) (kf : 0 < a → W p l e R s m args below meth c H locs cells slots Q (F0 m (pc + 3) ls (rest))) : W p l e R s m args below meth c H locs cells slots Q (F0 m pc ls (.int (nI a) :: rest)) := lv_if_le hx hb hdg ht (fun h => kt ((nI_leI ha (by decide : 0 < 2 ^ 31)).mp h)) (fun h => kf (Nat.not_le.mp (fun q => h ((nI_leI ha (by decide : 0 < 2 ^ 31)).mpr q))))
theorem n_iinc (hx : p.tables.exec = Jvm.exec) (hb : c.code = cc) {i nL k : Nat} {n : Int} {a b : Nat} {lv lv' : List (Nat × Value)} (hdg : decode cc pc = .ok (.iinc i n, 3)) (h : lv_has ls nL lv) (hk : lv[k]? = some (i, .int (nI a))) (hv : n = (b : Int)) (hn : i < nL) (hl : (i, Value.int (nI (a + b))) :: lv.filter (fun q => !(q.1 == i) && !(q.1 + 1 == i && q.2.category == 2)) = lv') (kk : ∀ ls' : Array Slot, lv_has ls' nL lv' → W p l e R s m args below meth c H locs cells slots Q (F0 m (pc + 3) ls' rest)) : W p l e R s m args below meth c H locs cells slots Q (F0 m pc ls (rest)) := lv_iinc hx hb hdg h hk (by rw [hv, show Int32.ofInt (b : Int) = nI b from rfl, nI_add]) hn hl kk
variable {D : va_G} {tys : List (ClassId × FieldType)} {ws : va_W} {A : Nat → Prop} {H0 : Heap} {a : Nat}
theorem n_iald (hx : p.tables.exec = Jvm.exec) (hb : c.code = cc) (hK : va_K D vwCl tys s) (hP : va_P D vwCl ws H) (q0 t0 : Nat) {cA : ClassId} {n : Nat} {f : Nat → Int32} (ha : ws[q0]? = some (a, .inl (cA, n, .inl f))) (ht : tys[t0]? = some (cA, .int)) {j : Nat} (hj : j < n) (hn : n < 2 ^ 31) (hdg : decode cc pc = .ok (.iaload, 1)) (kk : W p l e R s m args below meth c H locs cells slots Q (F0 m (pc + 1) ls (.int (f j) :: rest))) : W p l e R s m args below meth c H locs cells slots Q (F0 m pc ls (.int (nI j) :: .ref a :: rest)) := va_iald hx hb hK hP q0 t0 ha ht (vp_in_nI hj hn) hdg (by rw [nI_clamp (Nat.lt_trans hj hn)]; exact kk)
theorem n_iast (hx : p.tables.exec = Jvm.exec) (hb : c.code = cc) (hK : va_K D vwCl tys s) (hP : va_P D vwCl ws H) (hD : va_D A ws) (hS : va_S A H0 H locs) (q0 t0 : Nat) {cA : ClassId} {n : Nat} {f : Nat → Int32} (ha : ws[q0]? = some (a, .inl (cA, n, .inl f))) (ht : tys[t0]? = some (cA, .int)) {j : Nat} {x : Int32} (hj : j < n) (hn : n < 2 ^ 31) (hdg : decode cc pc = .ok (.iastore, 1)) (kk : ∀ (H1 : Heap) (locs1 : List Loc), va_P D vwCl (ws.set q0 (a, .inl (cA, n, .inl (upd f j x)))) H1 → va_D A (ws.set q0 (a, .inl (cA, n, .inl (upd f j x)))) → va_S A H0 H1 locs1 → W p l e R s m args below meth c H1 locs1 cells slots Q (F0 m (pc + 1) ls rest)) : W p l e R s m args below meth c H locs cells slots Q (F0 m pc ls (.int x :: .int (nI j) :: .ref a :: rest)) := va_iast hx hb hK hP hD hS q0 t0 ha ht (vp_in_nI hj hn) hdg (by rw [nI_clamp (Nat.lt_trans hj hn)]; exact kk)
theorem gt0 (hx : p.tables.exec = Jvm.exec) (hb : c.code = cc) (hts : ∀ w ∈ WL, w.before args s = true) (hown : s.vm.findClass RX0 = some m.cls) (hK : va_K D vwCl tys s) (hP : va_P D vwCl ws H) (q0 : Nat) {fs : List Value} (he : ws[q0]? = some (a, .inr (0, fs))) (k : Nat) (hk : k < 19) {index : Nat} (hl : Cond.fieldLink RX0 index (TX0 k).1 (TX0 k).2.1 (TX0 k).2.2.1 ∈ WL) {v : Value} (hv : fs[k]? = some v) (hdg : decode cc pc = .ok (.getfield index, 3)) (kk : W p l e R s m args below meth c H locs cells slots Q (F0 m (pc + 3) ls (v :: rest))) : W p l e R s m args below meth c H locs cells slots Q (F0 m pc ls (.ref a :: rest)) := va_get (C := RX0) (T := TX0) (N := 19) hx hb hts inX0 hown hK hP q0 he rfl k hk (hts _ hl) (fun _ h => h) hv hdg kk
theorem pt0 (hx : p.tables.exec = Jvm.exec) (hb : c.code = cc) (hts : ∀ w ∈ WL, w.before args s = true) (hown : s.vm.findClass RX0 = some m.cls) (hK : va_K D vwCl tys s) (hP : va_P D vwCl ws H) (hD : va_D A ws) (hS : va_S A H0 H locs) (q0 : Nat) {fs : List Value} (he : ws[q0]? = some (a, .inr (0, fs))) (k : Nat) (hk : k < 19) {index : Nat} (hl : Cond.fieldLink RX0 index (TX0 k).1 (TX0 k).2.1 (TX0 k).2.2.1 ∈ WL) (hfin : (TX0 k).2.2.2 = false) {ty : FieldType} {v : Value} (hd : parseFieldDescriptor (TX0 k).2.2.1 = some ty) (hn : narrow ty v = v) (hfit : fits ty v = true) (hlen : k < fs.length) (hdg : decode cc pc = .ok (.putfield index, 3)) (kk : ∀ (H1 : Heap) (locs1 : List Loc), va_P D vwCl (ws.set q0 (a, .inr (0, fs.set k v))) H1 → va_D A (ws.set q0 (a, .inr (0, fs.set k v))) → va_S A H0 H1 locs1 → W p l e R s m args below meth c H1 locs1 cells slots Q (F0 m (pc + 3) ls rest)) : W p l e R s m args below meth c H locs cells slots Q (F0 m pc ls (v :: .ref a :: rest)) := va_put (C := RX0) (T := TX0) (N := 19) hx hb hts inX0 tyX0 tyX0_ok nmX0 hown hK hP hD hS q0 he rfl k hk (hts _ hl) (fun _ h => h) hfin hd hn hfit hlen hdg kk
theorem gt1 (hx : p.tables.exec = Jvm.exec) (hb : c.code = cc) (hts : ∀ w ∈ WL, w.before args s = true) (hown : s.vm.findClass RX1 = some m.cls) (hK : va_K D vwCl tys s) (hP : va_P D vwCl ws H) (q0 : Nat) {fs : List Value} (he : ws[q0]? = some (a, .inr (1, fs))) (k : Nat) (hk : k < 3) {index : Nat} (hl : Cond.fieldLink RX1 index (TX1 k).1 (TX1 k).2.1 (TX1 k).2.2.1 ∈ WL) {v : Value} (hv : fs[k]? = some v) (hdg : decode cc pc = .ok (.getfield index, 3)) (kk : W p l e R s m args below meth c H locs cells slots Q (F0 m (pc + 3) ls (v :: rest))) : W p l e R s m args below meth c H locs cells slots Q (F0 m pc ls (.ref a :: rest)) := va_get (C := RX1) (T := TX1) (N := 3) hx hb hts inX1 hown hK hP q0 he rfl k hk (hts _ hl) (fun _ h => h) hv hdg kk
theorem pt1 (hx : p.tables.exec = Jvm.exec) (hb : c.code = cc) (hts : ∀ w ∈ WL, w.before args s = true) (hown : s.vm.findClass RX1 = some m.cls) (hK : va_K D vwCl tys s) (hP : va_P D vwCl ws H) (hD : va_D A ws) (hS : va_S A H0 H locs) (q0 : Nat) {fs : List Value} (he : ws[q0]? = some (a, .inr (1, fs))) (k : Nat) (hk : k < 3) {index : Nat} (hl : Cond.fieldLink RX1 index (TX1 k).1 (TX1 k).2.1 (TX1 k).2.2.1 ∈ WL) (hfin : (TX1 k).2.2.2 = false) {ty : FieldType} {v : Value} (hd : parseFieldDescriptor (TX1 k).2.2.1 = some ty) (hn : narrow ty v = v) (hfit : fits ty v = true) (hlen : k < fs.length) (hdg : decode cc pc = .ok (.putfield index, 3)) (kk : ∀ (H1 : Heap) (locs1 : List Loc), va_P D vwCl (ws.set q0 (a, .inr (1, fs.set k v))) H1 → va_D A (ws.set q0 (a, .inr (1, fs.set k v))) → va_S A H0 H1 locs1 → W p l e R s m args below meth c H1 locs1 cells slots Q (F0 m (pc + 3) ls rest)) : W p l e R s m args below meth c H locs cells slots Q (F0 m pc ls (v :: .ref a :: rest)) := va_put (C := RX1) (T := TX1) (N := 3) hx hb hts inX1 tyX1 tyX1_ok nmX1 hown hK hP hD hS q0 he rfl k hk (hts _ hl) (fun _ h => h) hfin hd hn hfit hlen hdg kk
theorem gt2 (hx : p.tables.exec = Jvm.exec) (hb : c.code = cc) (hts : ∀ w ∈ WL, w.before args s = true) (hown : s.vm.findClass RX2 = some m.cls) (hK : va_K D vwCl tys s) (hP : va_P D vwCl ws H) (q0 : Nat) {fs : List Value} (he : ws[q0]? = some (a, .inr (2, fs))) (k : Nat) (hk : k < 6) {index : Nat} (hl : Cond.fieldLink RX2 index (TX2 k).1 (TX2 k).2.1 (TX2 k).2.2.1 ∈ WL) {v : Value} (hv : fs[k]? = some v) (hdg : decode cc pc = .ok (.getfield index, 3)) (kk : W p l e R s m args below meth c H locs cells slots Q (F0 m (pc + 3) ls (v :: rest))) : W p l e R s m args below meth c H locs cells slots Q (F0 m pc ls (.ref a :: rest)) := va_get (C := RX2) (T := TX2) (N := 6) hx hb hts inX2 hown hK hP q0 he rfl k hk (hts _ hl) (fun _ h => h) hv hdg kk
theorem pt2 (hx : p.tables.exec = Jvm.exec) (hb : c.code = cc) (hts : ∀ w ∈ WL, w.before args s = true) (hown : s.vm.findClass RX2 = some m.cls) (hK : va_K D vwCl tys s) (hP : va_P D vwCl ws H) (hD : va_D A ws) (hS : va_S A H0 H locs) (q0 : Nat) {fs : List Value} (he : ws[q0]? = some (a, .inr (2, fs))) (k : Nat) (hk : k < 6) {index : Nat} (hl : Cond.fieldLink RX2 index (TX2 k).1 (TX2 k).2.1 (TX2 k).2.2.1 ∈ WL) (hfin : (TX2 k).2.2.2 = false) {ty : FieldType} {v : Value} (hd : parseFieldDescriptor (TX2 k).2.2.1 = some ty) (hn : narrow ty v = v) (hfit : fits ty v = true) (hlen : k < fs.length) (hdg : decode cc pc = .ok (.putfield index, 3)) (kk : ∀ (H1 : Heap) (locs1 : List Loc), va_P D vwCl (ws.set q0 (a, .inr (2, fs.set k v))) H1 → va_D A (ws.set q0 (a, .inr (2, fs.set k v))) → va_S A H0 H1 locs1 → W p l e R s m args below meth c H1 locs1 cells slots Q (F0 m (pc + 3) ls rest)) : W p l e R s m args below meth c H locs cells slots Q (F0 m pc ls (v :: .ref a :: rest)) := va_put (C := RX2) (T := TX2) (N := 6) hx hb hts inX2 tyX2 tyX2_ok nmX2 hown hK hP hD hS q0 he rfl k hk (hts _ hl) (fun _ h => h) hfin hd hn hfit hlen hdg kk
theorem gt3 (hx : p.tables.exec = Jvm.exec) (hb : c.code = cc) (hts : ∀ w ∈ WL, w.before args s = true) (hown : s.vm.findClass RX3 = some m.cls) (hK : va_K D vwCl tys s) (hP : va_P D vwCl ws H) (q0 : Nat) {fs : List Value} (he : ws[q0]? = some (a, .inr (3, fs))) (k : Nat) (hk : k < 7) {index : Nat} (hl : Cond.fieldLink RX3 index (TX3 k).1 (TX3 k).2.1 (TX3 k).2.2.1 ∈ WL) {v : Value} (hv : fs[k]? = some v) (hdg : decode cc pc = .ok (.getfield index, 3)) (kk : W p l e R s m args below meth c H locs cells slots Q (F0 m (pc + 3) ls (v :: rest))) : W p l e R s m args below meth c H locs cells slots Q (F0 m pc ls (.ref a :: rest)) := va_get (C := RX3) (T := TX3) (N := 7) hx hb hts inX3 hown hK hP q0 he rfl k hk (hts _ hl) (fun _ h => h) hv hdg kk
theorem pt3 (hx : p.tables.exec = Jvm.exec) (hb : c.code = cc) (hts : ∀ w ∈ WL, w.before args s = true) (hown : s.vm.findClass RX3 = some m.cls) (hK : va_K D vwCl tys s) (hP : va_P D vwCl ws H) (hD : va_D A ws) (hS : va_S A H0 H locs) (q0 : Nat) {fs : List Value} (he : ws[q0]? = some (a, .inr (3, fs))) (k : Nat) (hk : k < 7) {index : Nat} (hl : Cond.fieldLink RX3 index (TX3 k).1 (TX3 k).2.1 (TX3 k).2.2.1 ∈ WL) (hfin : (TX3 k).2.2.2 = false) {ty : FieldType} {v : Value} (hd : parseFieldDescriptor (TX3 k).2.2.1 = some ty) (hn : narrow ty v = v) (hfit : fits ty v = true) (hlen : k < fs.length) (hdg : decode cc pc = .ok (.putfield index, 3)) (kk : ∀ (H1 : Heap) (locs1 : List Loc), va_P D vwCl (ws.set q0 (a, .inr (3, fs.set k v))) H1 → va_D A (ws.set q0 (a, .inr (3, fs.set k v))) → va_S A H0 H1 locs1 → W p l e R s m args below meth c H1 locs1 cells slots Q (F0 m (pc + 3) ls rest)) : W p l e R s m args below meth c H locs cells slots Q (F0 m pc ls (v :: .ref a :: rest)) := va_put (C := RX3) (T := TX3) (N := 7) hx hb hts inX3 tyX3 tyX3_ok nmX3 hown hK hP hD hS q0 he rfl k hk (hts _ hl) (fun _ h => h) hfin hd hn hfit hlen hdg kk
theorem gtN0 (hx : p.tables.exec = Jvm.exec) (hb : c.code = cc) (hts : ∀ w ∈ WL, w.before args s = true) (hown : s.vm.findClass RX2 = some m.cls) (hK : va_K D vwCl tys s) (hP : va_P D vwCl ws H) (q0 : Nat) {fs : List Value} (he : ws[q0]? = some (a, .inr (0, fs))) (k : Nat) (hk : k < 19) {index : Nat} {host : String} (hl : va_Nw (.fieldLinkNest RX2 index (TX0 k).1 (TX0 k).2.1 (TX0 k).2.2.1 host) s) {v : Value} (hv : fs[k]? = some v) (hdg : decode cc pc = .ok (.getfield index, 3)) (kk : W p l e R s m args below meth c H locs cells slots Q (F0 m (pc + 3) ls (v :: rest))) : W p l e R s m args below meth c H locs cells slots Q (F0 m pc ls (.ref a :: rest)) := va_getN (C := RX0) (T := TX0) (N := 19) hx hb hts inX0 hown hK hP q0 he rfl k hk (va_Nw.use rfl hl) (fun _ h => h) hv hdg kk
theorem ptN0 (hx : p.tables.exec = Jvm.exec) (hb : c.code = cc) (hts : ∀ w ∈ WL, w.before args s = true) (hown : s.vm.findClass RX2 = some m.cls) (hK : va_K D vwCl tys s) (hP : va_P D vwCl ws H) (hD : va_D A ws) (hS : va_S A H0 H locs) (q0 : Nat) {fs : List Value} (he : ws[q0]? = some (a, .inr (0, fs))) (k : Nat) (hk : k < 19) {index : Nat} {host : String} (hl : va_Nw (.fieldLinkNest RX2 index (TX0 k).1 (TX0 k).2.1 (TX0 k).2.2.1 host) s) (hfin : (TX0 k).2.2.2 = false) {ty : FieldType} {v : Value} (hd : parseFieldDescriptor (TX0 k).2.2.1 = some ty) (hn : narrow ty v = v) (hfit : fits ty v = true) (hlen : k < fs.length) (hdg : decode cc pc = .ok (.putfield index, 3)) (kk : ∀ (H1 : Heap) (locs1 : List Loc), va_P D vwCl (ws.set q0 (a, .inr (0, fs.set k v))) H1 → va_D A (ws.set q0 (a, .inr (0, fs.set k v))) → va_S A H0 H1 locs1 → W p l e R s m args below meth c H1 locs1 cells slots Q (F0 m (pc + 3) ls rest)) : W p l e R s m args below meth c H locs cells slots Q (F0 m pc ls (v :: .ref a :: rest)) := va_putN (C := RX0) (T := TX0) (N := 19) hx hb hts inX0 tyX0 tyX0_ok nmX0 hown hK hP hD hS q0 he rfl k hk (va_Nw.use rfl hl) (fun _ h => h) hfin hd hn hfit hlen hdg kk
theorem gtN1 (hx : p.tables.exec = Jvm.exec) (hb : c.code = cc) (hts : ∀ w ∈ WL, w.before args s = true) (hown : s.vm.findClass RX2 = some m.cls) (hK : va_K D vwCl tys s) (hP : va_P D vwCl ws H) (q0 : Nat) {fs : List Value} (he : ws[q0]? = some (a, .inr (1, fs))) (k : Nat) (hk : k < 3) {index : Nat} {host : String} (hl : va_Nw (.fieldLinkNest RX2 index (TX1 k).1 (TX1 k).2.1 (TX1 k).2.2.1 host) s) {v : Value} (hv : fs[k]? = some v) (hdg : decode cc pc = .ok (.getfield index, 3)) (kk : W p l e R s m args below meth c H locs cells slots Q (F0 m (pc + 3) ls (v :: rest))) : W p l e R s m args below meth c H locs cells slots Q (F0 m pc ls (.ref a :: rest)) := va_getN (C := RX1) (T := TX1) (N := 3) hx hb hts inX1 hown hK hP q0 he rfl k hk (va_Nw.use rfl hl) (fun _ h => h) hv hdg kk
theorem ptN1 (hx : p.tables.exec = Jvm.exec) (hb : c.code = cc) (hts : ∀ w ∈ WL, w.before args s = true) (hown : s.vm.findClass RX2 = some m.cls) (hK : va_K D vwCl tys s) (hP : va_P D vwCl ws H) (hD : va_D A ws) (hS : va_S A H0 H locs) (q0 : Nat) {fs : List Value} (he : ws[q0]? = some (a, .inr (1, fs))) (k : Nat) (hk : k < 3) {index : Nat} {host : String} (hl : va_Nw (.fieldLinkNest RX2 index (TX1 k).1 (TX1 k).2.1 (TX1 k).2.2.1 host) s) (hfin : (TX1 k).2.2.2 = false) {ty : FieldType} {v : Value} (hd : parseFieldDescriptor (TX1 k).2.2.1 = some ty) (hn : narrow ty v = v) (hfit : fits ty v = true) (hlen : k < fs.length) (hdg : decode cc pc = .ok (.putfield index, 3)) (kk : ∀ (H1 : Heap) (locs1 : List Loc), va_P D vwCl (ws.set q0 (a, .inr (1, fs.set k v))) H1 → va_D A (ws.set q0 (a, .inr (1, fs.set k v))) → va_S A H0 H1 locs1 → W p l e R s m args below meth c H1 locs1 cells slots Q (F0 m (pc + 3) ls rest)) : W p l e R s m args below meth c H locs cells slots Q (F0 m pc ls (v :: .ref a :: rest)) := va_putN (C := RX1) (T := TX1) (N := 3) hx hb hts inX1 tyX1 tyX1_ok nmX1 hown hK hP hD hS q0 he rfl k hk (va_Nw.use rfl hl) (fun _ h => h) hfin hd hn hfit hlen hdg kk
end KN
/-- a State: ten numbers S 0 0 .. S 9 0, nine rows S 10 .. S 18 -/
def stW (cI : ClassId) (h : Nat) (a : Nat → Nat) (S : Nat → Nat → Int32) : va_W := [(h, .inr (0, [.int (S 0 0), .int (S 1 0), .int (S 2 0), .int (S 3 0), .int (S 4 0), .int (S 5 0), .int (S 6 0), .int (S 7 0), .int (S 8 0), .int (S 9 0), .ref (a 0), .ref (a 1), .ref (a 2), .ref (a 3), .ref (a 4), .ref (a 5), .ref (a 6), .ref (a 7), .ref (a 8)])), (a 0, .inl (cI, 4, .inl (S 10))), (a 1, .inl (cI, 4, .inl (S 11))), (a 2, .inl (cI, 16, .inl (S 12))), (a 3, .inl (cI, 160, .inl (S 13))), (a 4, .inl (cI, 24, .inl (S 14))), (a 5, .inl (cI, 24, .inl (S 15))), (a 6, .inl (cI, 96, .inl (S 16))), (a 7, .inl (cI, 96, .inl (S 17))), (a 8, .inl (cI, 24, .inl (S 18)))]
/-- the reference: its row, its past, its errors, and scratch -/
def mdW (cI : ClassId) (h : Nat) (b : Nat → Nat) (w past er bf tk : Nat → Int32) (sv : Int32) (hs : Int64) : va_W := [(h, .inr (3, [.ref (b 0), .ref (b 1), .int sv, .ref (b 2), .ref (b 3), .ref (b 4), .long hs])), (b 0, .inl (cI, 470, .inl w)), (b 1, .inl (cI, 1880, .inl past)), (b 2, .inl (cI, 3, .inl er)), (b 3, .inl (cI, 96, .inl bf)), (b 4, .inl (cI, 24, .inl tk))]
end
section
theorem ywX2_init : YW yX2_init cX2_init 1 none 0 := ⟨qw13, qw1, by decide, by decide, by decide +kernel⟩
theorem ywX0_init : YW yX0_init cX0_init 1 none 0 := ⟨qw21, qw2, by decide, by decide, by decide +kernel⟩
theorem ywJ7_fill_53178 : YW yJ7_fill_53178 cJ7_fill_53178 4 none 2 := ⟨qw25, qw3, by decide, by decide, by decide +kernel⟩
theorem ywX1_init : YW yX1_init cX1_init 2 none 0 := ⟨qw102, qw4, by decide, by decide, by decide +kernel⟩
theorem ywX2_addLinkset : YW yX2_addLinkset cX2_addLinkset 2 (some .int) 1 := ⟨qw140, qw1, by decide, by decide, by decide +kernel⟩
theorem ywX2_invalid : YW yX2_invalid cX2_invalid 1 (some .int) 0 := ⟨qw144, qw1, by decide, by decide, by decide +kernel⟩
theorem ywX2_full : YW yX2_full cX2_full 1 (some .int) 0 := ⟨qw148, qw1, by decide, by decide, by decide +kernel⟩
theorem ywX1_save : YW yX1_save cX1_save 2 none 1 := ⟨qw152, qw4, by decide, by decide, by decide +kernel⟩
theorem ywX0_copyFrom : YW yX0_copyFrom cX0_copyFrom 2 none 1 := ⟨qw156, qw2, by decide, by decide, by decide +kernel⟩
theorem ywX0_copyRow : YW yX0_copyRow cX0_copyRow 2 none 2 := ⟨qw159, qw2, by decide, by decide, by decide +kernel⟩
theorem ywJ9_min_7cf53 : YW yJ9_min_7cf53 cJ9_min_7cf53 2 (some .int) 2 := ⟨qw162, qw6, by decide, by decide, by decide +kernel⟩
theorem ywX0_appendLinkset : YW yX0_appendLinkset cX0_appendLinkset 3 (some .int) 1 := ⟨qw170, qw2, by decide, by decide, by decide +kernel⟩
theorem ywX2_failLink : YW yX2_failLink cX2_failLink 3 (some .int) 2 := ⟨qw174, qw1, by decide, by decide, by decide +kernel⟩
theorem ywX0_hasLink : YW yX0_hasLink cX0_hasLink 3 (some .boolean) 2 := ⟨qw178, qw2, by decide, by decide, by decide +kernel⟩
theorem ywX0_hasLinkset : YW yX0_hasLinkset cX0_hasLinkset 2 (some .boolean) 1 := ⟨qw182, qw2, by decide, by decide, by decide +kernel⟩
theorem ywX0_linkWorks : YW yX0_linkWorks cX0_linkWorks 3 (some .boolean) 2 := ⟨qw186, qw2, by decide, by decide, by decide +kernel⟩
theorem ywX2_rejected : YW yX2_rejected cX2_rejected 1 (some .int) 0 := ⟨qw190, qw1, by decide, by decide, by decide +kernel⟩
theorem ywX0_changeOver : YW yX0_changeOver cX0_changeOver 6 (some .int) 2 := ⟨qw194, qw2, by decide, by decide, by decide +kernel⟩
theorem ywX2_linkPlace : YW yX2_linkPlace cX2_linkPlace 2 (some .int) 2 := ⟨qw197, qw1, by decide, by decide, by decide +kernel⟩
theorem ywX0_dispatch : YW yX0_dispatch cX0_dispatch 4 none 1 := ⟨qw201, qw2, by decide, by decide, by decide +kernel⟩
theorem ywX2_streamOf : YW yX2_streamOf cX2_streamOf 1 (some .int) 1 := ⟨qw204, qw1, by decide, by decide, by decide +kernel⟩
theorem ywJ9_floorMod_7cf53 : YW yJ9_floorMod_7cf53 cJ9_floorMod_7cf53 3 (some .int) 2 := ⟨qw207, qw6, by decide, by decide, by decide +kernel⟩
theorem ywX0_linkOfStream : YW yX0_linkOfStream cX0_linkOfStream 2 (some .int) 1 := ⟨qw211, qw2, by decide, by decide, by decide +kernel⟩
theorem ywX0_routesTo : YW yX0_routesTo cX0_routesTo 3 (some .int) 1 := ⟨qw215, qw2, by decide, by decide, by decide +kernel⟩
theorem ywX0_preferredRoutes : YW yX0_preferredRoutes cX0_preferredRoutes 7 (some .int) 2 := ⟨qw219, qw2, by decide, by decide, by decide +kernel⟩
theorem ywX2_routePlace : YW yX2_routePlace cX2_routePlace 2 (some .int) 2 := ⟨qw222, qw1, by decide, by decide, by decide +kernel⟩
theorem ywX0_linkOver : YW yX0_linkOver cX0_linkOver 6 (some .int) 2 := ⟨qw226, qw2, by decide, by decide, by decide +kernel⟩
theorem ywJ6_bitCount_0f7a4 : YW yJ6_bitCount_0f7a4 cJ6_bitCount_0f7a4 1 (some .int) 1 := ⟨qw229, qw8, by decide, by decide, by decide +kernel⟩
theorem ywX2_setBit : YW yX2_setBit cX2_setBit 4 (some .int) 2 := ⟨qw235, qw1, by decide, by decide, by decide +kernel⟩
theorem ywX2_restoreLink : YW yX2_restoreLink cX2_restoreLink 3 (some .int) 2 := ⟨qw239, qw1, by decide, by decide, by decide +kernel⟩
theorem ywX0_listLinks : YW yX0_listLinks cX0_listLinks 3 none 1 := ⟨qw243, qw2, by decide, by decide, by decide +kernel⟩
theorem ywX0_activate : YW yX0_activate cX0_activate 3 none 2 := ⟨qw247, qw2, by decide, by decide, by decide +kernel⟩
theorem ywX0_divertMoved : YW yX0_divertMoved cX0_divertMoved 4 (some .int) 1 := ⟨qw251, qw2, by decide, by decide, by decide +kernel⟩
theorem ywX2_acknowledge : YW yX2_acknowledge cX2_acknowledge 4 (some .int) 3 := ⟨qw255, qw1, by decide, by decide, by decide +kernel⟩
theorem ywX0_deliverOldest : YW yX0_deliverOldest cX0_deliverOldest 7 (some .int) 2 := ⟨qw260, qw2, by decide, by decide, by decide +kernel⟩
theorem ywX0_deliver : YW yX0_deliver cX0_deliver 4 none 1 := ⟨qw264, qw2, by decide, by decide, by decide +kernel⟩
theorem ywX2_numberOf : YW yX2_numberOf cX2_numberOf 1 (some .int) 1 := ⟨qw267, qw1, by decide, by decide, by decide +kernel⟩
theorem ywJ9_floorDiv_7cf53 : YW yJ9_floorDiv_7cf53 cJ9_floorDiv_7cf53 3 (some .int) 2 := ⟨qw270, qw6, by decide, by decide, by decide +kernel⟩
theorem ywX2_queueLength : YW yX2_queueLength cX2_queueLength 3 (some .int) 2 := ⟨qw274, qw1, by decide, by decide, by decide +kernel⟩
theorem ywX2_queued : YW yX2_queued cX2_queued 5 (some .int) 3 := ⟨qw278, qw1, by decide, by decide, by decide +kernel⟩
theorem ywX2_congestion : YW yX2_congestion cX2_congestion 3 (some .int) 2 := ⟨qw283, qw1, by decide, by decide, by decide +kernel⟩
theorem ywX0_congestionLevel : YW yX0_congestionLevel cX0_congestionLevel 3 (some .int) 1 := ⟨qw287, qw2, by decide, by decide, by decide +kernel⟩
theorem ywX2_isActive : YW yX2_isActive cX2_isActive 3 (some .int) 2 := ⟨qw291, qw1, by decide, by decide, by decide +kernel⟩
theorem ywX2_addRoute : YW yX2_addRoute cX2_addRoute 5 (some .int) 3 := ⟨qw295, qw1, by decide, by decide, by decide +kernel⟩
theorem ywX0_canHaveRoute : YW yX0_canHaveRoute cX0_canHaveRoute 3 (some .boolean) 2 := ⟨qw299, qw2, by decide, by decide, by decide +kernel⟩
theorem ywX2_isDestination : YW yX2_isDestination cX2_isDestination 1 (some .boolean) 1 := ⟨qw302, qw1, by decide, by decide, by decide +kernel⟩
theorem ywX2_removeRoute : YW yX2_removeRoute cX2_removeRoute 5 (some .int) 2 := ⟨qw307, qw1, by decide, by decide, by decide +kernel⟩
theorem ywX2_setRouteState : YW yX2_setRouteState cX2_setRouteState 6 (some .int) 3 := ⟨qw311, qw1, by decide, by decide, by decide +kernel⟩
theorem ywX2_routeState : YW yX2_routeState cX2_routeState 3 (some .int) 2 := ⟨qw315, qw1, by decide, by decide, by decide +kernel⟩
theorem ywX2_currentRoutes : YW yX2_currentRoutes cX2_currentRoutes 2 (some .int) 1 := ⟨qw319, qw1, by decide, by decide, by decide +kernel⟩
theorem ywX2_currentLink : YW yX2_currentLink cX2_currentLink 3 (some .int) 2 := ⟨qw325, qw1, by decide, by decide, by decide +kernel⟩
theorem ywX2_isStream : YW yX2_isStream cX2_isStream 2 (some .boolean) 2 := ⟨qw328, qw1, by decide, by decide, by decide +kernel⟩
theorem ywX2_send : YW yX2_send cX2_send 4 (some .int) 3 := ⟨qw333, qw1, by decide, by decide, by decide +kernel⟩
theorem ywX0_accept : YW yX0_accept cX0_accept 8 (some .int) 3 := ⟨qw337, qw2, by decide, by decide, by decide +kernel⟩
theorem ywX2_streamPlace : YW yX2_streamPlace cX2_streamPlace 2 (some .int) 2 := ⟨qw340, qw1, by decide, by decide, by decide +kernel⟩
theorem ywX2_messageOf : YW yX2_messageOf cX2_messageOf 2 (some .int) 2 := ⟨qw343, qw1, by decide, by decide, by decide +kernel⟩
theorem ywX0_holds : YW yX0_holds cX0_holds 2 (some .boolean) 1 := ⟨qw347, qw2, by decide, by decide, by decide +kernel⟩
theorem ywX0_hold : YW yX0_hold cX0_hold 2 none 1 := ⟨qw351, qw2, by decide, by decide, by decide +kernel⟩
theorem ywX2_setHoldTime : YW yX2_setHoldTime cX2_setHoldTime 3 (some .int) 1 := ⟨qw356, qw1, by decide, by decide, by decide +kernel⟩
theorem ywX2_tick : YW yX2_tick cX2_tick 1 (some .int) 0 := ⟨qw360, qw1, by decide, by decide, by decide +kernel⟩
theorem ywX0_releaseHeld : YW yX0_releaseHeld cX0_releaseHeld 5 (some .int) 0 := ⟨qw364, qw2, by decide, by decide, by decide +kernel⟩
theorem ywX2_time : YW yX2_time cX2_time 1 (some .int) 0 := ⟨qw368, qw1, by decide, by decide, by decide +kernel⟩
theorem ywX2_isHeld : YW yX2_isHeld cX2_isHeld 3 (some .int) 2 := ⟨qw372, qw1, by decide, by decide, by decide +kernel⟩
theorem ywX2_heldMessages : YW yX2_heldMessages cX2_heldMessages 1 (some .int) 0 := ⟨qw378, qw1, by decide, by decide, by decide +kernel⟩
theorem ywX2_delivered : YW yX2_delivered cX2_delivered 1 (some .int) 0 := ⟨qw382, qw1, by decide, by decide, by decide +kernel⟩
theorem ywX2_overtaken : YW yX2_overtaken cX2_overtaken 1 (some .int) 0 := ⟨qw386, qw1, by decide, by decide, by decide +kernel⟩
theorem ywX2_unreachable : YW yX2_unreachable cX2_unreachable 1 (some .int) 0 := ⟨qw390, qw1, by decide, by decide, by decide +kernel⟩
theorem ywX2_congested : YW yX2_congested cX2_congested 1 (some .int) 0 := ⟨qw394, qw1, by decide, by decide, by decide +kernel⟩
theorem ywX2_lost : YW yX2_lost cX2_lost 1 (some .int) 0 := ⟨qw398, qw1, by decide, by decide, by decide +kernel⟩
theorem ywX2_spread : YW yX2_spread cX2_spread 2 (some .int) 1 := ⟨qw402, qw1, by decide, by decide, by decide +kernel⟩
theorem ywX0_countLinksTo : YW yX0_countLinksTo cX0_countLinksTo 6 (some .int) 1 := ⟨qw406, qw2, by decide, by decide, by decide +kernel⟩
theorem ywX2_undo : YW yX2_undo cX2_undo 1 (some .int) 0 := ⟨qw410, qw1, by decide, by decide, by decide +kernel⟩
theorem ywX1_takeBackInto : YW yX1_takeBackInto cX1_takeBackInto 2 none 1 := ⟨qw414, qw4, by decide, by decide, by decide +kernel⟩
theorem ywX2_errorCount : YW yX2_errorCount cX2_errorCount 2 (some .int) 1 := ⟨qw418, qw1, by decide, by decide, by decide +kernel⟩
theorem ywX2_digest : YW yX2_digest cX2_digest 4 (some .long) 0 := ⟨qw422, qw1, by decide, by decide, by decide +kernel⟩
theorem ywX2_mix : YW yX2_mix cX2_mix 3 (some .long) 2 := ⟨qw426, qw1, by decide, by decide, by decide +kernel⟩
theorem ywX0_mixCounters : YW yX0_mixCounters cX0_mixCounters 5 (some .long) 1 := ⟨qw431, qw2, by decide, by decide, by decide +kernel⟩
theorem ywX0_mixLinksets : YW yX0_mixLinksets cX0_mixLinksets 7 (some .long) 1 := ⟨qw436, qw2, by decide, by decide, by decide +kernel⟩
theorem ywX0_mixQueue : YW yX0_mixQueue cX0_mixQueue 7 (some .long) 2 := ⟨qw441, qw2, by decide, by decide, by decide +kernel⟩
theorem ywX0_mixDestination : YW yX0_mixDestination cX0_mixDestination 8 (some .long) 2 := ⟨qw445, qw2, by decide, by decide, by decide +kernel⟩
theorem ywX0_mixHolding : YW yX0_mixHolding cX0_mixHolding 6 (some .long) 1 := ⟨qw449, qw2, by decide, by decide, by decide +kernel⟩
theorem ywX3_init : YW yX3_init cX3_init 2 none 0 := ⟨qw454, qw5, by decide, by decide, by decide +kernel⟩
theorem ywX3_undo : YW yX3_undo cX3_undo 2 (some .int) 0 := ⟨qw481, qw5, by decide, by decide, by decide +kernel⟩
theorem ywX3_fails : YW yX3_fails cX3_fails 2 (some .int) 1 := ⟨qw485, qw5, by decide, by decide, by decide +kernel⟩
theorem ywX3_addLinkset : YW yX3_addLinkset cX3_addLinkset 4 (some .int) 1 := ⟨qw489, qw5, by decide, by decide, by decide +kernel⟩
theorem ywX3_within : YW yX3_within cX3_within 3 (some .boolean) 3 := ⟨qw492, qw5, by decide, by decide, by decide +kernel⟩
theorem ywX3_saves : YW yX3_saves cX3_saves 2 none 0 := ⟨qw496, qw5, by decide, by decide, by decide +kernel⟩
theorem ywX3_failLink : YW yX3_failLink cX3_failLink 6 (some .int) 2 := ⟨qw500, qw5, by decide, by decide, by decide +kernel⟩
theorem ywX3_isLink : YW yX3_isLink cX3_isLink 3 (some .boolean) 2 := ⟨qw504, qw5, by decide, by decide, by decide +kernel⟩
theorem ywX3_isSet : YW yX3_isSet cX3_isSet 2 (some .boolean) 1 := ⟨qw508, qw5, by decide, by decide, by decide +kernel⟩
theorem ywX3_dispatches : YW yX3_dispatches cX3_dispatches 3 none 1 := ⟨qw512, qw5, by decide, by decide, by decide +kernel⟩
theorem ywX3_linkOf : YW yX3_linkOf cX3_linkOf 7 (some .int) 1 := ⟨qw516, qw5, by decide, by decide, by decide +kernel⟩
theorem ywX3_routesOf : YW yX3_routesOf cX3_routesOf 6 (some .int) 1 := ⟨qw520, qw5, by decide, by decide, by decide +kernel⟩
theorem ywX3_isUsable : YW yX3_isUsable cX3_isUsable 4 (some .boolean) 2 := ⟨qw524, qw5, by decide, by decide, by decide +kernel⟩
theorem ywX3_activeOf : YW yX3_activeOf cX3_activeOf 4 (some .int) 1 := ⟨qw528, qw5, by decide, by decide, by decide +kernel⟩
theorem ywX3_bits : YW yX3_bits cX3_bits 3 (some .int) 1 := ⟨qw531, qw5, by decide, by decide, by decide +kernel⟩
theorem ywX3_restoreLink : YW yX3_restoreLink cX3_restoreLink 3 (some .int) 2 := ⟨qw535, qw5, by decide, by decide, by decide +kernel⟩
theorem ywX3_laysBefore : YW yX3_laysBefore cX3_laysBefore 2 none 0 := ⟨qw539, qw5, by decide, by decide, by decide +kernel⟩
theorem ywX3_diverts : YW yX3_diverts cX3_diverts 4 (some .int) 0 := ⟨qw543, qw5, by decide, by decide, by decide +kernel⟩
theorem ywX3_acknowledge : YW yX3_acknowledge cX3_acknowledge 8 (some .int) 3 := ⟨qw547, qw5, by decide, by decide, by decide +kernel⟩
theorem ywX3_delivers : YW yX3_delivers cX3_delivers 3 none 1 := ⟨qw551, qw5, by decide, by decide, by decide +kernel⟩
theorem ywX3_queueLength : YW yX3_queueLength cX3_queueLength 3 (some .int) 2 := ⟨qw555, qw5, by decide, by decide, by decide +kernel⟩
theorem ywX3_queued : YW yX3_queued cX3_queued 5 (some .int) 3 := ⟨qw559, qw5, by decide, by decide, by decide +kernel⟩
theorem ywX3_congestion : YW yX3_congestion cX3_congestion 3 (some .int) 2 := ⟨qw563, qw5, by decide, by decide, by decide +kernel⟩
theorem ywX3_levelOf : YW yX3_levelOf cX3_levelOf 3 (some .int) 1 := ⟨qw567, qw5, by decide, by decide, by decide +kernel⟩
theorem ywX3_isActive : YW yX3_isActive cX3_isActive 3 (some .int) 2 := ⟨qw571, qw5, by decide, by decide, by decide +kernel⟩
theorem ywX3_addRoute : YW yX3_addRoute cX3_addRoute 5 (some .int) 3 := ⟨qw575, qw5, by decide, by decide, by decide +kernel⟩
theorem ywX3_isDestination : YW yX3_isDestination cX3_isDestination 1 (some .boolean) 1 := ⟨qw578, qw5, by decide, by decide, by decide +kernel⟩
theorem ywX3_removeRoute : YW yX3_removeRoute cX3_removeRoute 5 (some .int) 2 := ⟨qw582, qw5, by decide, by decide, by decide +kernel⟩
theorem ywX3_setRouteState : YW yX3_setRouteState cX3_setRouteState 6 (some .int) 3 := ⟨qw586, qw5, by decide, by decide, by decide +kernel⟩
theorem ywX3_routeState : YW yX3_routeState cX3_routeState 3 (some .int) 2 := ⟨qw590, qw5, by decide, by decide, by decide +kernel⟩
theorem ywX3_currentRoutes : YW yX3_currentRoutes cX3_currentRoutes 2 (some .int) 1 := ⟨qw594, qw5, by decide, by decide, by decide +kernel⟩
theorem ywX3_currentLink : YW yX3_currentLink cX3_currentLink 3 (some .int) 2 := ⟨qw598, qw5, by decide, by decide, by decide +kernel⟩
theorem ywX3_isStream : YW yX3_isStream cX3_isStream 2 (some .boolean) 2 := ⟨qw601, qw5, by decide, by decide, by decide +kernel⟩
theorem ywX3_send : YW yX3_send cX3_send 6 (some .int) 3 := ⟨qw605, qw5, by decide, by decide, by decide +kernel⟩
theorem ywX3_isCongested : YW yX3_isCongested cX3_isCongested 4 (some .boolean) 2 := ⟨qw609, qw5, by decide, by decide, by decide +kernel⟩
theorem ywX3_setHoldTime : YW yX3_setHoldTime cX3_setHoldTime 3 (some .int) 1 := ⟨qw613, qw5, by decide, by decide, by decide +kernel⟩
theorem ywX3_tick : YW yX3_tick cX3_tick 5 (some .int) 0 := ⟨qw617, qw5, by decide, by decide, by decide +kernel⟩
theorem ywX3_time : YW yX3_time cX3_time 1 (some .int) 0 := ⟨qw621, qw5, by decide, by decide, by decide +kernel⟩
theorem ywX3_isHeld : YW yX3_isHeld cX3_isHeld 3 (some .int) 2 := ⟨qw625, qw5, by decide, by decide, by decide +kernel⟩
theorem ywX3_heldMessages : YW yX3_heldMessages cX3_heldMessages 1 (some .int) 0 := ⟨qw629, qw5, by decide, by decide, by decide +kernel⟩
theorem ywX3_delivered : YW yX3_delivered cX3_delivered 1 (some .int) 0 := ⟨qw633, qw5, by decide, by decide, by decide +kernel⟩
theorem ywX3_overtaken : YW yX3_overtaken cX3_overtaken 1 (some .int) 0 := ⟨qw637, qw5, by decide, by decide, by decide +kernel⟩
theorem ywX3_unreachable : YW yX3_unreachable cX3_unreachable 1 (some .int) 0 := ⟨qw641, qw5, by decide, by decide, by decide +kernel⟩
theorem ywX3_congested : YW yX3_congested cX3_congested 1 (some .int) 0 := ⟨qw645, qw5, by decide, by decide, by decide +kernel⟩
theorem ywX3_lost : YW yX3_lost cX3_lost 1 (some .int) 0 := ⟨qw649, qw5, by decide, by decide, by decide +kernel⟩
theorem ywX3_spread : YW yX3_spread cX3_spread 6 (some .int) 1 := ⟨qw653, qw5, by decide, by decide, by decide +kernel⟩
theorem ywX3_errorCount : YW yX3_errorCount cX3_errorCount 2 (some .int) 1 := ⟨qw657, qw5, by decide, by decide, by decide +kernel⟩
theorem ywX3_digest : YW yX3_digest cX3_digest 3 (some .long) 0 := ⟨qw661, qw5, by decide, by decide, by decide +kernel⟩
theorem ywX3_mix : YW yX3_mix cX3_mix 2 none 1 := ⟨qw666, qw5, by decide, by decide, by decide +kernel⟩
theorem ywX3_mixLink : YW yX3_mixLink cX3_mixLink 3 none 1 := ⟨qw671, qw5, by decide, by decide, by decide +kernel⟩
theorem ywX3_mixDestination : YW yX3_mixDestination cX3_mixDestination 3 none 1 := ⟨qw675, qw5, by decide, by decide, by decide +kernel⟩
end
section
def okI (x : Int32) (n : Nat) : Prop := ∃ j : Nat, j < n ∧ x = nI j
theorem okI_of {x : Int32} {n : Nat} (hn : n < 2 ^ 31) (h0 : ¬ x < 0) (h : ¬ nI n ≤ x) : okI x n := by
  rcases pk_ix x hn with h1 | h1 | h1
  · exact absurd h1 h0
  · exact absurd h1 h
  · exact h1
theorem okI_ge {x : Int32} {n : Nat} (h : okI x n) (h0 : x < 0) (hn : n < 2 ^ 31 := by decide) : False := by
  obtain ⟨j, hj, rfl⟩ := h
  exact nI_pos (Nat.lt_trans hj hn) h0
theorem okI_lt {x : Int32} {n : Nat} (hn : n < 2 ^ 31) (h : okI x n) (h1 : nI n ≤ x) : False := by
  obtain ⟨j, hj, rfl⟩ := h
  exact nI_ge hj hn h1
set_option maxHeartbeats 4000000 in
set_option maxRecDepth 100000 in
theorem c_X3_within (l : Launch) (D : va_G) (cI cO : ClassId) (v a b : Int32)  : Met l yX3_within (Cond.code yX3_within cX3_within 3 (some .boolean) :: WL) ({ frames := 0, cells := 0, slots := 0, locals := 0 } : Room) (va_Pc [.int (v), .int (a), .int (b)] (PR D cI cO ([]))) (vp_Si (fun r => (r = nI 1 ∧ (a ≤ v ∧ v ≤ b)) ∨ (r = nI 0 ∧ ¬ (a ≤ v ∧ v ≤ b)))) 0 0 (fun _ => False) := by
  refine rd_bool (by decide) (Nat.le_of_ble_eq_true rfl) ?_
  intro p e s m args below meth c Q ls F hP hC hret hl
  have hx := F.1
  have hb := F.2.1
  have hml := F.2.2.1
  have hown := F.2.2.2.1
  have hts := F.2.2.2.2
  replace hl : lv_has ls 3 [(0, .int (v)), (1, .int (a)), (2, .int (b))] := hl
  refine lv_iload_n hx hb dX3_within_0 rfl (lv_at hl 0 rfl) ?_
  refine lv_iload_n hx hb dX3_within_1 rfl (lv_at hl 1 rfl) ?_
  refine lv_icmp_lt (tgt := 14) hx hb dX3_within_2 (by decide)  (fun c_2 => ?_) (fun c_2 => ?_)
  · refine lv_iconst (v := (nI (0))) hx hb dX3_within_14 (by decide) ?_
    exact hret _ _ ls (by first | exact Or.inl ⟨rfl, Int32.not_lt.mp c_2, Int32.not_lt.mp c_7⟩ | exact Or.inr ⟨rfl, fun h => Int32.not_lt.mpr h.1 c_2⟩ | exact Or.inr ⟨rfl, fun h => Int32.not_lt.mpr h.2 c_7⟩) (Or.inl (by decide)) dX3_within_15
  · refine lv_iload_n hx hb dX3_within_5 rfl (lv_at hl 0 rfl) ?_
    refine lv_iload_n hx hb dX3_within_6 rfl (lv_at hl 2 rfl) ?_
    refine lv_icmp_gt (tgt := 14) hx hb dX3_within_7 (by decide)  (fun c_7 => ?_) (fun c_7 => ?_)
    · refine lv_iconst (v := (nI (0))) hx hb dX3_within_14 (by decide) ?_
      exact hret _ _ ls (by first | exact Or.inl ⟨rfl, Int32.not_lt.mp c_2, Int32.not_lt.mp c_7⟩ | exact Or.inr ⟨rfl, fun h => Int32.not_lt.mpr h.1 c_2⟩ | exact Or.inr ⟨rfl, fun h => Int32.not_lt.mpr h.2 c_7⟩) (Or.inl (by decide)) dX3_within_15
    · refine lv_iconst (v := (nI (1))) hx hb dX3_within_10 (by decide) ?_
      refine lv_goto (tgt := 15) hx hb dX3_within_11 (by decide) ?_
      exact hret _ _ ls (by first | exact Or.inl ⟨rfl, Int32.not_lt.mp c_2, Int32.not_lt.mp c_7⟩ | exact Or.inr ⟨rfl, fun h => Int32.not_lt.mpr h.1 c_2⟩ | exact Or.inr ⟨rfl, fun h => Int32.not_lt.mpr h.2 c_7⟩) (Or.inr (by decide)) dX3_within_15

set_option maxHeartbeats 4000000 in
set_option maxRecDepth 100000 in
theorem c_X2_isDestination (l : Launch) (D : va_G) (cI cO : ClassId) (v : Int32)  : Met l yX2_isDestination (Cond.code yX2_isDestination cX2_isDestination 1 (some .boolean) :: WL) ({ frames := 0, cells := 0, slots := 0, locals := 0 } : Room) (va_Pc [.int (v)] (PR D cI cO ([]))) (vp_Si (fun r => (r = nI 1 ∧ okI v 6) ∨ (r = nI 0 ∧ ¬ okI v 6))) 0 0 (fun _ => False) := by
  refine rd_bool (by decide) (Nat.le_of_ble_eq_true rfl) ?_
  intro p e s m args below meth c Q ls F hP hC hret hl
  have hx := F.1
  have hb := F.2.1
  have hml := F.2.2.1
  have hown := F.2.2.2.1
  have hts := F.2.2.2.2
  replace hl : lv_has ls 1 [(0, .int (v))] := hl
  refine lv_iload_n hx hb dX2_isDestination_0 rfl (lv_at hl 0 rfl) ?_
  refine lv_if_lt (tgt := 14) hx hb dX2_isDestination_1 (by decide)  (fun c_1 => ?_) (fun c_1 => ?_)
  · refine lv_iconst (v := (nI (0))) hx hb dX2_isDestination_14 (by decide) ?_
    exact hret _ _ ls (by first | exact Or.inl ⟨rfl, okI_of (by decide) c_1 c_7⟩ | exact Or.inr ⟨rfl, fun h => okI_ge h c_1⟩ | exact Or.inr ⟨rfl, fun h => okI_lt (by decide) h c_7⟩) (Or.inl (by decide)) dX2_isDestination_15
  · refine lv_iload_n hx hb dX2_isDestination_4 rfl (lv_at hl 0 rfl) ?_
    refine lv_bipush (v := (nI (6))) hx hb dX2_isDestination_5 (by decide) ?_
    refine lv_icmp_ge (tgt := 14) hx hb dX2_isDestination_7 (by decide)  (fun c_7 => ?_) (fun c_7 => ?_)
    · refine lv_iconst (v := (nI (0))) hx hb dX2_isDestination_14 (by decide) ?_
      exact hret _ _ ls (by first | exact Or.inl ⟨rfl, okI_of (by decide) c_1 c_7⟩ | exact Or.inr ⟨rfl, fun h => okI_ge h c_1⟩ | exact Or.inr ⟨rfl, fun h => okI_lt (by decide) h c_7⟩) (Or.inl (by decide)) dX2_isDestination_15
    · refine lv_iconst (v := (nI (1))) hx hb dX2_isDestination_10 (by decide) ?_
      refine lv_goto (tgt := 15) hx hb dX2_isDestination_11 (by decide) ?_
      exact hret _ _ ls (by first | exact Or.inl ⟨rfl, okI_of (by decide) c_1 c_7⟩ | exact Or.inr ⟨rfl, fun h => okI_ge h c_1⟩ | exact Or.inr ⟨rfl, fun h => okI_lt (by decide) h c_7⟩) (Or.inr (by decide)) dX2_isDestination_15

set_option maxHeartbeats 4000000 in
set_option maxRecDepth 100000 in
theorem c_X2_isStream (l : Launch) (D : va_G) (cI cO : ClassId) (x y : Int32)  : Met l yX2_isStream (Cond.code yX2_isStream cX2_isStream 2 (some .boolean) :: WL) ({ frames := 1, cells := 0, slots := 0, locals := 20 } : Room) (va_Pc [.int (x), .int (y)] (PR D cI cO ([]))) (vp_Si (fun r => (r = nI 1 ∧ okI x 6 ∧ okI y 16) ∨ (r = nI 0 ∧ ¬ (okI x 6 ∧ okI y 16)))) 0 0 (fun _ => False) := by
  refine rd_bool (by decide) (Nat.le_of_ble_eq_true rfl) ?_
  intro p e s m args below meth c Q ls F hP hC hret hl
  have hx := F.1
  have hb := F.2.1
  have hml := F.2.2.1
  have hown := F.2.2.2.1
  have hts := F.2.2.2.2
  replace hl : lv_has ls 2 [(0, .int (x)), (1, .int (y))] := hl
  refine lv_iload_n hx hb dX2_isStream_0 rfl (lv_at hl 0 rfl) ?_
  refine goR (kS (As := [.int (x)]) (rest := []) F (c_X2_isDestination l D cI cO (x)) ywX2_isDestination qw320 qw301  ⟨rfl, rfl⟩ ⟨Nat.le_of_ble_eq_true rfl, Nat.le_of_ble_eq_true rfl⟩ (preR (fun k q h => by simp at h) hC) rfl hl.1 rfl (Nat.le_of_ble_eq_true rfl) dX2_isStream_1 ⟨Nat.zero_le _, Nat.zero_le _⟩) (fun r_1 h_1 => ?_)
  rcases h_1 with ⟨rfl, h_1⟩ | ⟨rfl, h_1⟩
  · refine n_if_eq (tgt := 21) hx hb dX2_isStream_4 (by decide) (by omega) (fun h => absurd h (by decide)) (fun _ => ?_)
    refine lv_iload_n hx hb dX2_isStream_7 rfl (lv_at hl 1 rfl) ?_
    refine lv_if_lt (tgt := 21) hx hb dX2_isStream_8 (by decide)  (fun c_8 => ?_) (fun c_8 => ?_)
    · refine lv_iconst (v := (nI (0))) hx hb dX2_isStream_21 (by decide) ?_
      exact hret _ _ ls (by first | exact Or.inl ⟨rfl, h_1, okI_of (by decide) c_8 c_14⟩ | exact Or.inr ⟨rfl, fun h => h_1 h.1⟩ | exact Or.inr ⟨rfl, fun h => okI_ge h.2 c_8⟩ | exact Or.inr ⟨rfl, fun h => okI_lt (by decide) h.2 c_14⟩) (Or.inl (by decide)) dX2_isStream_22
    · refine lv_iload_n hx hb dX2_isStream_11 rfl (lv_at hl 1 rfl) ?_
      refine lv_bipush (v := (nI (16))) hx hb dX2_isStream_12 (by decide) ?_
      refine lv_icmp_ge (tgt := 21) hx hb dX2_isStream_14 (by decide)  (fun c_14 => ?_) (fun c_14 => ?_)
      · refine lv_iconst (v := (nI (0))) hx hb dX2_isStream_21 (by decide) ?_
        exact hret _ _ ls (by first | exact Or.inl ⟨rfl, h_1, okI_of (by decide) c_8 c_14⟩ | exact Or.inr ⟨rfl, fun h => h_1 h.1⟩ | exact Or.inr ⟨rfl, fun h => okI_ge h.2 c_8⟩ | exact Or.inr ⟨rfl, fun h => okI_lt (by decide) h.2 c_14⟩) (Or.inl (by decide)) dX2_isStream_22
      · refine lv_iconst (v := (nI (1))) hx hb dX2_isStream_17 (by decide) ?_
        refine lv_goto (tgt := 22) hx hb dX2_isStream_18 (by decide) ?_
        exact hret _ _ ls (by first | exact Or.inl ⟨rfl, h_1, okI_of (by decide) c_8 c_14⟩ | exact Or.inr ⟨rfl, fun h => h_1 h.1⟩ | exact Or.inr ⟨rfl, fun h => okI_ge h.2 c_8⟩ | exact Or.inr ⟨rfl, fun h => okI_lt (by decide) h.2 c_14⟩) (Or.inr (by decide)) dX2_isStream_22
  · refine n_if_eq (tgt := 21) hx hb dX2_isStream_4 (by decide) (by omega) (fun _ => ?_) (fun h => absurd h (by decide))
    refine lv_iconst (v := (nI (0))) hx hb dX2_isStream_21 (by decide) ?_
    exact hret _ _ ls (by first | exact Or.inl ⟨rfl, h_1, okI_of (by decide) c_8 c_14⟩ | exact Or.inr ⟨rfl, fun h => h_1 h.1⟩ | exact Or.inr ⟨rfl, fun h => okI_ge h.2 c_8⟩ | exact Or.inr ⟨rfl, fun h => okI_lt (by decide) h.2 c_14⟩) (Or.inl (by decide)) dX2_isStream_22

set_option maxHeartbeats 4000000 in
set_option maxRecDepth 100000 in
theorem c_X2_linkPlace (l : Launch) (D : va_G) (cI cO : ClassId) (x y : Nat)  : Met l yX2_linkPlace (Cond.code yX2_linkPlace cX2_linkPlace 2 (some .int) :: WL) ({ frames := 0, cells := 0, slots := 0, locals := 0 } : Room) (va_Pc [.int (nI (x)), .int (nI (y))] (PR D cI cO ([]))) (vp_Si (fun r => r = nI (x * 4 + y))) 0 0 (fun _ => False) := by
  refine rd_int (by decide) (Nat.le_of_ble_eq_true rfl) ?_
  intro p e s m args below meth c Q ls F hP hC hret hl
  have hx := F.1
  have hb := F.2.1
  have hml := F.2.2.1
  have hown := F.2.2.2.1
  have hts := F.2.2.2.2
  replace hl : lv_has ls 2 [(0, .int (nI (x))), (1, .int (nI (y)))] := hl
  refine lv_iload_n hx hb dX2_linkPlace_0 rfl (lv_at hl 0 rfl) ?_
  refine lv_iconst (v := (nI (4))) hx hb dX2_linkPlace_1 (by decide) ?_
  refine n_imul hx hb dX2_linkPlace_2  ?_
  refine lv_iload_n hx hb dX2_linkPlace_3 rfl (lv_at hl 1 rfl) ?_
  refine n_iadd hx hb dX2_linkPlace_4  ?_
  exact hret _ _ ls (rfl) dX2_linkPlace_5

set_option maxHeartbeats 4000000 in
set_option maxRecDepth 100000 in
theorem c_X2_routePlace (l : Launch) (D : va_G) (cI cO : ClassId) (x y : Nat)  : Met l yX2_routePlace (Cond.code yX2_routePlace cX2_routePlace 2 (some .int) :: WL) ({ frames := 0, cells := 0, slots := 0, locals := 0 } : Room) (va_Pc [.int (nI (x)), .int (nI (y))] (PR D cI cO ([]))) (vp_Si (fun r => r = nI (x * 4 + y))) 0 0 (fun _ => False) := by
  refine rd_int (by decide) (Nat.le_of_ble_eq_true rfl) ?_
  intro p e s m args below meth c Q ls F hP hC hret hl
  have hx := F.1
  have hb := F.2.1
  have hml := F.2.2.1
  have hown := F.2.2.2.1
  have hts := F.2.2.2.2
  replace hl : lv_has ls 2 [(0, .int (nI (x))), (1, .int (nI (y)))] := hl
  refine lv_iload_n hx hb dX2_routePlace_0 rfl (lv_at hl 0 rfl) ?_
  refine lv_iconst (v := (nI (4))) hx hb dX2_routePlace_1 (by decide) ?_
  refine n_imul hx hb dX2_routePlace_2  ?_
  refine lv_iload_n hx hb dX2_routePlace_3 rfl (lv_at hl 1 rfl) ?_
  refine n_iadd hx hb dX2_routePlace_4  ?_
  exact hret _ _ ls (rfl) dX2_routePlace_5

set_option maxHeartbeats 4000000 in
set_option maxRecDepth 100000 in
theorem c_X2_streamPlace (l : Launch) (D : va_G) (cI cO : ClassId) (x y : Nat)  : Met l yX2_streamPlace (Cond.code yX2_streamPlace cX2_streamPlace 2 (some .int) :: WL) ({ frames := 0, cells := 0, slots := 0, locals := 0 } : Room) (va_Pc [.int (nI (x)), .int (nI (y))] (PR D cI cO ([]))) (vp_Si (fun r => r = nI (x * 16 + y))) 0 0 (fun _ => False) := by
  refine rd_int (by decide) (Nat.le_of_ble_eq_true rfl) ?_
  intro p e s m args below meth c Q ls F hP hC hret hl
  have hx := F.1
  have hb := F.2.1
  have hml := F.2.2.1
  have hown := F.2.2.2.1
  have hts := F.2.2.2.2
  replace hl : lv_has ls 2 [(0, .int (nI (x))), (1, .int (nI (y)))] := hl
  refine lv_iload_n hx hb dX2_streamPlace_0 rfl (lv_at hl 0 rfl) ?_
  refine lv_bipush (v := (nI (16))) hx hb dX2_streamPlace_1 (by decide) ?_
  refine n_imul hx hb dX2_streamPlace_3  ?_
  refine lv_iload_n hx hb dX2_streamPlace_4 rfl (lv_at hl 1 rfl) ?_
  refine n_iadd hx hb dX2_streamPlace_5  ?_
  exact hret _ _ ls (rfl) dX2_streamPlace_6

set_option maxHeartbeats 4000000 in
set_option maxRecDepth 100000 in
theorem c_X2_messageOf (l : Launch) (D : va_G) (cI cO : ClassId) (x y : Nat)  : Met l yX2_messageOf (Cond.code yX2_messageOf cX2_messageOf 2 (some .int) :: WL) ({ frames := 0, cells := 0, slots := 0, locals := 0 } : Room) (va_Pc [.int (nI (x)), .int (nI (y))] (PR D cI cO ([]))) (vp_Si (fun r => r = nI (x * 96 + y))) 0 0 (fun _ => False) := by
  refine rd_int (by decide) (Nat.le_of_ble_eq_true rfl) ?_
  intro p e s m args below meth c Q ls F hP hC hret hl
  have hx := F.1
  have hb := F.2.1
  have hml := F.2.2.1
  have hown := F.2.2.2.1
  have hts := F.2.2.2.2
  replace hl : lv_has ls 2 [(0, .int (nI (x))), (1, .int (nI (y)))] := hl
  refine lv_iload_n hx hb dX2_messageOf_0 rfl (lv_at hl 0 rfl) ?_
  refine lv_bipush (v := (nI (96))) hx hb dX2_messageOf_1 (by decide) ?_
  refine n_imul hx hb dX2_messageOf_3  ?_
  refine lv_iload_n hx hb dX2_messageOf_4 rfl (lv_at hl 1 rfl) ?_
  refine n_iadd hx hb dX2_messageOf_5  ?_
  exact hret _ _ ls (rfl) dX2_messageOf_6
end
section
/-! the reference's row w of 470 numbers, and what is read off it -/
def nv (x : Int32) : Nat := x.toNatClampNeg
theorem nv_nI {n : Nat} (h : n < 2 ^ 31) : nv (nI n) = n := nI_clamp h
theorem m1_ne {n : Nat} (h : n < 2 ^ 31) : ¬ nI n = -1 := fun e => by
  have h1 := congrArg Int32.toInt e
  rw [nI_toInt h] at h1
  have h2 : (-1 : Int32).toInt = -1 := by decide
  rw [h2] at h1
  omega
def nn (w : Nat → Int32) : Nat := nv (w 0)
def mn (w : Nat → Int32) (i : Nat) : Nat := nv (w (1 + i))
def ac (w : Nat → Int32) (p : Nat) : Nat := nv (w (5 + p))
def le (w : Nat → Int32) (p : Nat) : Nat := nv (w (21 + p))
def pq (w : Nat → Int32) (d i : Nat) : Nat := nv (w (221 + 4 * d + i))
def un (w : Nat → Int32) (k : Nat) : Nat := nv (w (245 + k))
def he (w : Nat → Int32) : Nat := nv (w 341)
def tm (w : Nat → Int32) : Nat := nv (w 462)
def hd (w : Nat → Int32) : Nat := nv (w 463)
def sn (w : Nat → Int32) : Nat := nv (w 464)
def am (w : Nat → Int32) (i : Nat) : Nat := ac w (4 * i) + 2 * ac w (4 * i + 1) + 4 * ac w (4 * i + 2) + 8 * ac w (4 * i + 3)
def tb (m i : Nat) : Nat := m / 2 ^ i % 2
def cb (m : Nat) : Nat → Nat
  | 0 => 0
  | i + 1 => cb m i + tb m i
def pc4 (m : Nat) : Nat := cb m 4
/-- the place of the set bit with this index, of four -/
def sb4 (m i : Nat) : Nat := if tb m 0 = 1 ∧ cb m 0 = i then 0 else if tb m 1 = 1 ∧ cb m 1 = i then 1 else if tb m 2 = 1 ∧ cb m 2 = i then 2 else 3
/-- the least of f 0 .. f (k-1) below lim, and the mask of those that have it -/
def bmL (lim : Nat) (f : Nat → Nat) : Nat → Nat × Nat
  | 0 => (lim, 0)
  | k + 1 => if f k < (bmL lim f k).1 then (f k, 2 ^ k) else if f k = (bmL lim f k).1 ∧ (bmL lim f k).1 < lim then ((bmL lim f k).1, (bmL lim f k).2 + 2 ^ k) else bmL lim f k
def rcd (w : Nat → Int32) (d i : Nat) : Nat := if am w i = 0 then 99 else if w (197 + 4 * d + i) = nI 0 then pq w d i else if w (197 + 4 * d + i) = nI 1 then 10 + pq w d i else 99
def rts (w : Nat → Int32) (d : Nat) : Nat := (bmL 99 (rcd w d) (nn w)).2
def pfd (w : Nat → Int32) (d : Nat) (st : Int32) (i : Nat) : Nat := if w (197 + 4 * d + i) = st ∧ ¬ am w i = 0 then pq w d i else 3
def lks (w : Nat → Int32) (m sel : Nat) : Nat := sb4 m (sel % pc4 m)
def lko (w : Nat → Int32) (m sel : Nat) : Nat := lks w m sel * 4 + sb4 (am w (lks w m sel)) (sel / pc4 m % pc4 (am w (lks w m sel)))
/-- the link of a selector over these routes; -1: none -/
def lkm (w : Nat → Int32) (m sel : Nat) : Int32 := if m = 0 then -1 else nI (lko w m sel)
def lk (w : Nat → Int32) (k : Nat) : Int32 := lkm w (rts w (k / 16)) (k % 16)
theorem bmL_lim {lim : Nat} {f : Nat → Nat} : ∀ k, (bmL lim f k).1 ≤ lim
  | 0 => Nat.le_refl _
  | k + 1 => by
    have := bmL_lim (lim := lim) (f := f) k
    simp only [bmL]
    split
    · show f k ≤ lim; omega
    · split
      · exact this
      · exact this
theorem bmL_lt {lim : Nat} {f : Nat → Nat} : ∀ k, (bmL lim f k).2 < 2 ^ k
  | 0 => by simp [bmL]
  | k + 1 => by
    have := bmL_lt (lim := lim) (f := f) k
    have h2 : 2 ^ (k + 1) = 2 ^ k + 2 ^ k := by rw [Nat.pow_succ]; omega
    simp only [bmL]
    split
    · show 2 ^ k < 2 ^ (k + 1); omega
    · split
      · show (bmL lim f k).2 + 2 ^ k < 2 ^ (k + 1); omega
      · omega
theorem bmL_0 {lim : Nat} {f : Nat → Nat} : ∀ k, ((bmL lim f k).2 = 0 ↔ (bmL lim f k).1 = lim)
  | 0 => by simp [bmL]
  | k + 1 => by
    have h := bmL_0 (lim := lim) (f := f) k
    have h1 := bmL_lim (lim := lim) (f := f) k
    have h2 : 0 < 2 ^ k := Nat.pow_pos (by decide)
    simp only [bmL]
    split
    · show 2 ^ k = 0 ↔ f k = lim; omega
    · split
      · show (bmL lim f k).2 + 2 ^ k = 0 ↔ (bmL lim f k).1 = lim; omega
      · exact h
theorem tb_add : ∀ m, m < 16 → ∀ k, k < 4 → ∀ i, i < 4 → m < 2 ^ k → tb (m + 2 ^ k) i = if i = k then 1 else tb m i := by decide +kernel
theorem tb_pow : ∀ k, k < 4 → ∀ i, i < 4 → tb (2 ^ k) i = if i = k then 1 else 0 := by decide +kernel
theorem bmL_tb {lim : Nat} {f : Nat → Nat} : ∀ k, k ≤ 4 → ∀ i, i < 4 → tb (bmL lim f k).2 i = 1 → i < k ∧ f i < lim
  | 0, _, i, _, h => by simp [bmL, tb] at h
  | k + 1, hk, i, hi, h => by
    have ih := bmL_tb (lim := lim) (f := f) k (by omega) i hi
    have hl := bmL_lim (lim := lim) (f := f) k
    have hlt := bmL_lt (lim := lim) (f := f) k
    have h16 : 2 ^ k ≤ 16 := by
      have := Nat.pow_le_pow_right (n := 2) (by decide) (show k ≤ 4 by omega)
      simpa using this
    simp only [bmL] at h
    split at h
    · rw [tb_pow k (by omega) i hi] at h
      split at h
      · subst_vars; exact ⟨by omega, by omega⟩
      · omega
    · split at h
      · rename_i h1 h2
        rw [tb_add _ (by omega) k (by omega) i hi hlt] at h
        split at h
        · subst_vars; exact ⟨by omega, by omega⟩
        · have := ih h; exact ⟨by omega, this.2⟩
      · have := ih h; exact ⟨by omega, this.2⟩
theorem bmL_two {f g0 g1 : Nat → Nat} {n : Nat} (h : ∀ i, i < n → (f i = g0 i ∧ g0 i < 3 ∧ g1 i = 3) ∨ (g0 i = 3 ∧ g1 i < 3 ∧ f i = 10 + g1 i) ∨ (g0 i = 3 ∧ g1 i = 3 ∧ f i = 99)) : ∀ k, k ≤ n →
    ((bmL 3 g0 k).1 < 3 → (bmL 99 f k) = bmL 3 g0 k) ∧ ((bmL 3 g0 k).1 = 3 → (bmL 3 g1 k).1 < 3 → bmL 99 f k = (10 + (bmL 3 g1 k).1, (bmL 3 g1 k).2)) ∧ ((bmL 3 g0 k).1 = 3 → (bmL 3 g1 k).1 = 3 → bmL 99 f k = (99, 0) ∧ (bmL 3 g1 k).2 = 0)
  | 0, _ => by simp [bmL]
  | k + 1, hk => by
    obtain ⟨a, b, c⟩ := bmL_two h k (by omega)
    have l0 := bmL_lim (lim := 3) (f := g0) k
    have l1 := bmL_lim (lim := 3) (f := g1) k
    have z1 := bmL_0 (lim := 3) (f := g1) k
    have hh := h k (by omega)
    simp only [bmL]
    generalize bmL 3 g0 k = X at *
    generalize bmL 3 g1 k = Y at *
    generalize bmL 99 f k = Z at *
    generalize f k = u at *
    generalize g0 k = v0 at *
    generalize g1 k = v1 at *
    clear h
    obtain ⟨x1, x2⟩ := X
    obtain ⟨y1, y2⟩ := Y
    obtain ⟨z1', z2⟩ := Z
    simp only [Prod.mk.injEq] at *
    rcases hh with ⟨rfl, p2, rfl⟩ | ⟨rfl, p2, rfl⟩ | ⟨rfl, rfl, rfl⟩ <;> refine ⟨?_, ?_, ?_⟩ <;> (repeat' split) <;> simp only [Prod.mk.injEq] <;> first | omega | (intros; trivial)
end
section
/-! what holds of the row, and how a State of the class stands to it -/
def okM (x : Int32) (s : Nat) : Prop := ∃ a k : Nat, a < s ∧ k < 96 ∧ x = nI (128 * a + k)
def okS (x : Int32) : Prop := x = -1 ∨ x = nI 0 ∨ x = nI 1 ∨ x = nI 2
def WF (c : Nat) (w : Nat → Int32) : Prop :=
  (w 0 = nI (nn w) ∧ nn w ≤ 4) ∧
  (∀ i, i < 4 → w (1 + i) = nI (mn w i) ∧ mn w i ≤ 4) ∧
  (∀ p, p < 16 → w (5 + p) = nI (ac w p) ∧ ac w p ≤ 1) ∧
  (∀ i, i < 4 → ∀ j, j < 4 → mn w i ≤ j → ac w (4 * i + j) = 0) ∧
  (∀ p, p < 16 → w (21 + p) = nI (le w p) ∧ le w p ≤ 10) ∧
  (∀ p, p < 16 → 4 * nn w ≤ p → le w p = 0) ∧
  (∀ p, p < 16 → ∀ j, j < le w p → okM (w (37 + 10 * p + j)) (sn w)) ∧
  (∀ d, d < 6 → ∀ i, i < 4 → okS (w (197 + 4 * d + i))) ∧
  (∀ d, d < 6 → ∀ i, i < 4 → ¬ w (197 + 4 * d + i) = -1 → w (221 + 4 * d + i) = nI (pq w d i) ∧ pq w d i ≤ 2) ∧
  (∀ k, k < 96 → w (245 + k) = nI (un w k) ∧ un w k ≤ c + 9 ∧ (un w k = 0 ∨ tm w < un w k)) ∧
  (w 341 = nI (he w) ∧ he w ≤ 24) ∧
  (∀ j, j < he w → okM (w (342 + j)) (sn w)) ∧
  (∀ k, k < 96 → w (366 + k) = -1 ∨ ∃ a, a < sn w ∧ w (366 + k) = nI (128 * a + k)) ∧
  (w 462 = nI (tm w) ∧ tm w ≤ c) ∧ (w 463 = nI (hd w) ∧ hd w ≤ 9) ∧ (w 464 = nI (sn w) ∧ sn w ≤ c)
def trm (x : Int32) : Int32 := nI (nv x / 128 * 96 + nv x % 128)
def trg (x : Int32) : Int32 := if x = -1 then -1 else nI (nv x / 128)
def RC (c : Nat) (S : Nat → Nat → Int32) (w : Nat → Int32) : Prop :=
  WF c w ∧ (S 0 0 = w 462 ∧ S 1 0 = w 463 ∧ S 2 0 = w 464 ∧ S 3 0 = w 465 ∧ S 4 0 = w 466 ∧ S 5 0 = w 467 ∧ S 6 0 = w 468 ∧ S 7 0 = w 469 ∧ S 8 0 = w 0 ∧ S 9 0 = w 341) ∧
  (∀ i, i < 4 → S 10 i = w (1 + i)) ∧
  (∀ i, i < 4 → S 11 i = nI (am w i)) ∧
  (∀ p, p < 16 → S 12 p = w (21 + p)) ∧
  (∀ p, p < 16 → ∀ j, j < le w p → S 13 (p * 10 + j) = trm (w (37 + 10 * p + j))) ∧
  (∀ d, d < 6 → ∀ i, i < 4 → S 14 (d * 4 + i) = w (197 + 4 * d + i)) ∧
  (∀ d, d < 6 → ∀ i, i < 4 → S 15 (d * 4 + i) = w (221 + 4 * d + i)) ∧
  (∀ k, k < 96 → (un w k = 0 → ∃ v, v ≤ tm w ∧ S 16 k = nI v) ∧ (¬ un w k = 0 → S 16 k = w (245 + k))) ∧
  (∀ k, k < 96 → S 17 k = trg (w (366 + k))) ∧
  (∀ j, j < he w → S 18 j = trm (w (342 + j)))
section RL
variable {c : Nat} {w : Nat → Int32} {S : Nat → Nat → Int32}
theorem WF.n (h : WF c w) : w 0 = nI (nn w) ∧ nn w ≤ 4 := h.1
theorem WF.m (h : WF c w) : ∀ i, i < 4 → w (1 + i) = nI (mn w i) ∧ mn w i ≤ 4 := h.2.1
theorem WF.a (h : WF c w) : ∀ p, p < 16 → w (5 + p) = nI (ac w p) ∧ ac w p ≤ 1 := h.2.2.1
theorem WF.a0 (h : WF c w) : ∀ i, i < 4 → ∀ j, j < 4 → mn w i ≤ j → ac w (4 * i + j) = 0 := h.2.2.2.1
theorem WF.l (h : WF c w) : ∀ p, p < 16 → w (21 + p) = nI (le w p) ∧ le w p ≤ 10 := h.2.2.2.2.1
theorem WF.l0 (h : WF c w) : ∀ p, p < 16 → 4 * nn w ≤ p → le w p = 0 := h.2.2.2.2.2.1
theorem WF.q (h : WF c w) : ∀ p, p < 16 → ∀ j, j < le w p → okM (w (37 + 10 * p + j)) (sn w) := h.2.2.2.2.2.2.1
theorem WF.s (h : WF c w) : ∀ d, d < 6 → ∀ i, i < 4 → okS (w (197 + 4 * d + i)) := h.2.2.2.2.2.2.2.1
theorem WF.p (h : WF c w) : ∀ d, d < 6 → ∀ i, i < 4 → ¬ w (197 + 4 * d + i) = -1 → w (221 + 4 * d + i) = nI (pq w d i) ∧ pq w d i ≤ 2 := h.2.2.2.2.2.2.2.2.1
theorem WF.u (h : WF c w) : ∀ k, k < 96 → w (245 + k) = nI (un w k) ∧ un w k ≤ c + 9 ∧ (un w k = 0 ∨ tm w < un w k) := h.2.2.2.2.2.2.2.2.2.1
theorem WF.h (h : WF c w) : w 341 = nI (he w) ∧ he w ≤ 24 := h.2.2.2.2.2.2.2.2.2.2.1
theorem WF.b (h : WF c w) : ∀ j, j < he w → okM (w (342 + j)) (sn w) := h.2.2.2.2.2.2.2.2.2.2.2.1
theorem WF.g (h : WF c w) : ∀ k, k < 96 → w (366 + k) = -1 ∨ ∃ a, a < sn w ∧ w (366 + k) = nI (128 * a + k) := h.2.2.2.2.2.2.2.2.2.2.2.2.1
theorem WF.t (h : WF c w) : w 462 = nI (tm w) ∧ tm w ≤ c := h.2.2.2.2.2.2.2.2.2.2.2.2.2.1
theorem WF.d (h : WF c w) : w 463 = nI (hd w) ∧ hd w ≤ 9 := h.2.2.2.2.2.2.2.2.2.2.2.2.2.2.1
theorem WF.e (h : WF c w) : w 464 = nI (sn w) ∧ sn w ≤ c := h.2.2.2.2.2.2.2.2.2.2.2.2.2.2.2
theorem RC.wf (h : RC c S w) : WF c w := h.1
theorem RC.i (h : RC c S w) : S 0 0 = w 462 ∧ S 1 0 = w 463 ∧ S 2 0 = w 464 ∧ S 3 0 = w 465 ∧ S 4 0 = w 466 ∧ S 5 0 = w 467 ∧ S 6 0 = w 468 ∧ S 7 0 = w 469 ∧ S 8 0 = w 0 ∧ S 9 0 = w 341 := h.2.1
theorem RC.n (h : RC c S w) : S 8 0 = nI (nn w) := h.2.1.2.2.2.2.2.2.2.2.1.trans h.1.n.1
theorem RC.m (h : RC c S w) : ∀ i, i < 4 → S 10 i = nI (mn w i) := fun i hi => (h.2.2.1 i hi).trans (h.1.m i hi).1
theorem RC.a (h : RC c S w) : ∀ i, i < 4 → S 11 i = nI (am w i) := h.2.2.2.1
theorem RC.l (h : RC c S w) : ∀ p, p < 16 → S 12 p = nI (le w p) := fun i hi => (h.2.2.2.2.1 i hi).trans (h.1.l i hi).1
theorem RC.q (h : RC c S w) : ∀ p, p < 16 → ∀ j, j < le w p → S 13 (p * 10 + j) = trm (w (37 + 10 * p + j)) := h.2.2.2.2.2.1
theorem RC.s (h : RC c S w) : ∀ d, d < 6 → ∀ i, i < 4 → S 14 (d * 4 + i) = w (197 + 4 * d + i) := h.2.2.2.2.2.2.1
theorem RC.p (h : RC c S w) : ∀ d, d < 6 → ∀ i, i < 4 → S 15 (d * 4 + i) = w (221 + 4 * d + i) := h.2.2.2.2.2.2.2.1
theorem RC.u (h : RC c S w) : ∀ k, k < 96 → (un w k = 0 → ∃ v, v ≤ tm w ∧ S 16 k = nI v) ∧ (¬ un w k = 0 → S 16 k = w (245 + k)) := h.2.2.2.2.2.2.2.2.1
theorem RC.g (h : RC c S w) : ∀ k, k < 96 → S 17 k = trg (w (366 + k)) := h.2.2.2.2.2.2.2.2.2.1
theorem RC.b (h : RC c S w) : ∀ j, j < he w → S 18 j = trm (w (342 + j)) := h.2.2.2.2.2.2.2.2.2.2
theorem RC.t (h : RC c S w) : S 0 0 = nI (tm w) := h.2.1.1.trans h.1.t.1
theorem RC.d (h : RC c S w) : S 1 0 = nI (hd w) := h.2.1.2.1.trans h.1.d.1
theorem RC.e (h : RC c S w) : S 2 0 = nI (sn w) := h.2.1.2.2.1.trans h.1.e.1
theorem RC.h (h : RC c S w) : S 9 0 = nI (he w) := h.2.1.2.2.2.2.2.2.2.2.2.trans h.1.h.1
theorem am_lt (h : WF c w) {i : Nat} (hi : i < 4) : am w i < 16 := by
  have h0 := (h.a (4 * i) (by omega)).2
  have h1 := (h.a (4 * i + 1) (by omega)).2
  have h2 := (h.a (4 * i + 2) (by omega)).2
  have h3 := (h.a (4 * i + 3) (by omega)).2
  unfold am
  omega
theorem am_tb (h : WF c w) {i l : Nat} (hi : i < 4) (hl : l < 4) : tb (am w i) l = ac w (4 * i + l) := by
  have h0 := (h.a (4 * i) (by omega)).2
  have h1 := (h.a (4 * i + 1) (by omega)).2
  have h2 := (h.a (4 * i + 2) (by omega)).2
  have h3 := (h.a (4 * i + 3) (by omega)).2
  rcases (show l = 0 ∨ l = 1 ∨ l = 2 ∨ l = 3 by omega) with rfl | rfl | rfl | rfl <;> simp only [am, tb, Nat.reducePow, Nat.add_zero] <;> omega
theorem pc4_am (h : WF c w) {i : Nat} (hi : i < 4) : pc4 (am w i) = ac w (4 * i) + ac w (4 * i + 1) + ac w (4 * i + 2) + ac w (4 * i + 3) := by
  have := am_tb h hi (l := 0) (by decide)
  have := am_tb h hi (l := 1) (by decide)
  have := am_tb h hi (l := 2) (by decide)
  have := am_tb h hi (l := 3) (by decide)
  simp only [pc4, cb, Nat.add_zero] at *
  omega
theorem rts_lt (h : WF c w) (d : Nat) : rts w d < 16 := by
  have h1 := bmL_lt (lim := 99) (f := rcd w d) (nn w)
  have h2 : 2 ^ nn w ≤ 16 := by
    have := Nat.pow_le_pow_right (n := 2) (by decide) h.n.2
    simpa using this
  unfold rts
  omega
theorem rts_pf (h : WF c w) {d : Nat} (hd6 : d < 6) : rts w d = if (bmL 3 (pfd w d (nI 0)) (nn w)).2 = 0 then (bmL 3 (pfd w d (nI 1)) (nn w)).2 else (bmL 3 (pfd w d (nI 0)) (nn w)).2 := by
  have key := bmL_two (f := rcd w d) (g0 := pfd w d (nI 0)) (g1 := pfd w d (nI 1)) (n := nn w) (fun i hi => by
    have hi4 : i < 4 := by have := h.n.2; omega
    have hp := h.p d hd6 i hi4
    have hne : ¬ (nI 0 : Int32) = nI 1 := by decide
    have hm0 : ¬ (nI 0 : Int32) = -1 := by decide
    have hm1 : ¬ (nI 1 : Int32) = -1 := by decide
    unfold rcd pfd
    by_cases ha : am w i = 0
    · simp [ha]
    · by_cases h0 : w (197 + 4 * d + i) = nI 0
      · have := (hp (by rw [h0]; exact hm0)).2
        refine Or.inl ⟨by simp [ha, h0], by simp [ha, h0]; omega, by simp [ha, h0, hne]⟩
      · by_cases h1 : w (197 + 4 * d + i) = nI 1
        · have := (hp (by rw [h1]; exact hm1)).2
          refine Or.inr (Or.inl ⟨by simp [h0], by simp [ha, h1]; omega, by simp [ha, h1, Ne.symm hne]⟩)
        · exact Or.inr (Or.inr ⟨by simp [h0], by simp [h1], by simp [ha, h0, h1]⟩)) (nn w) (Nat.le_refl _)
  obtain ⟨a, b, c3⟩ := key
  have z0 := bmL_0 (lim := 3) (f := pfd w d (nI 0)) (nn w)
  have l0 := bmL_lim (lim := 3) (f := pfd w d (nI 0)) (nn w)
  have l1 := bmL_lim (lim := 3) (f := pfd w d (nI 1)) (nn w)
  unfold rts
  by_cases hx : (bmL 3 (pfd w d (nI 0)) (nn w)).1 < 3
  · rw [a hx, if_neg (fun e => by rw [z0] at e; omega)]
  · have hx3 : (bmL 3 (pfd w d (nI 0)) (nn w)).1 = 3 := by omega
    rw [if_pos (z0.mpr hx3)]
    by_cases hy : (bmL 3 (pfd w d (nI 1)) (nn w)).1 < 3
    · rw [b hx3 hy]
    · obtain ⟨c1, c2⟩ := c3 hx3 (by omega)
      rw [c1, c2]
theorem rts_tb (h : WF c w) {d i : Nat} (hi : i < 4) (ht : tb (rts w d) i = 1) : i < nn w ∧ ¬ am w i = 0 := by
  obtain ⟨h1, h2⟩ := bmL_tb (lim := 99) (f := rcd w d) (nn w) h.n.2 i hi ht
  refine ⟨h1, fun e => ?_⟩
  simp [rcd, e] at h2
end RL
theorem sb4_tb : ∀ m, m < 16 → ∀ i, i < 4 → i < pc4 m → tb m (sb4 m i) = 1 ∧ sb4 m i < 4 ∧ cb m (sb4 m i) = i := by decide +kernel
theorem sb4_at : ∀ m, m < 16 → ∀ i, i < 4 → ∀ p, p < 4 → tb m p = 1 → cb m p = i → sb4 m i = p := by decide +kernel
theorem sb4_end : ∀ m, m < 16 → ∀ i, i < 4 → i < pc4 m → cb m 3 ≤ i → sb4 m i = 3 := by decide +kernel
theorem pc4_le : ∀ m, m < 16 → pc4 m ≤ 4 ∧ (pc4 m = 0 ↔ m = 0) := by decide +kernel
theorem cb_mono : ∀ m, m < 16 → ∀ i, i < 4 → ∀ p, p < 5 → i < pc4 m → cb m p ≤ i → p ≤ sb4 m i := by decide +kernel
theorem shr1 : ∀ m, m < 16 → ∀ p, p < 4 → (nI m >>> (nI p &&& 31)) &&& nI 1 = nI (tb m p) := by decide +kernel
theorem or1 : ∀ m, m < 16 → ∀ p, p < 4 → m < 2 ^ p → nI m ||| (nI 1 <<< (nI p &&& 31)) = nI (m + 2 ^ p) := by decide +kernel
theorem tb_01 (m i : Nat) : tb m i = 0 ∨ tb m i = 1 := by unfold tb; omega
end
section
def okL (w : Nat → Int32) (x y : Int32) : Prop := ∃ i, i < nn w ∧ x = nI i ∧ okI y (mn w i)
theorem okL_1 {w : Nat → Int32} {x y : Int32} (h : okL w x y) : okI x (nn w) := by
  obtain ⟨i, hi, hx, -⟩ := h
  exact ⟨i, hi, hx⟩
theorem okL_2 {w : Nat → Int32} {i : Nat} {y : Int32} (hi : i < nn w) (hn : nn w ≤ 4) (h : okL w (nI i) y) : okI y (mn w i) := by
  obtain ⟨j, hj, hx, hy⟩ := h
  rw [(nI_eq (by omega) (by omega)).mp hx]
  exact hy
theorem RC_hu {c : Nat} {w : Nat → Int32} {S : Nat → Nat → Int32} (hR : RC c S w) (hc : c < 1000) {k : Nat} (hk : k < 96) : ∃ v, S 16 k = nI v ∧ v < 2 ^ 31 ∧ (un w k = 0 ↔ v ≤ tm w) := by
  obtain ⟨h1, h2⟩ := hR.u k hk
  obtain ⟨u1, u2, u3⟩ := hR.wf.u k hk
  have ht := hR.wf.t.2
  by_cases h0 : un w k = 0
  · obtain ⟨v, hv, e⟩ := h1 h0
    exact ⟨v, e, by omega, by omega⟩
  · exact ⟨un w k, (h2 h0).trans u1, by omega, by omega⟩
def lvl (n : Nat) : Nat := if n < 4 then 0 else if n < 6 then 1 else if n < 8 then 2 else 3
theorem bmL_step {lim i b m : Nat} {f : Nat → Nat} (he : bmL lim f i = (b, m)) : bmL lim f (i + 1) = if f i < b then (f i, 2 ^ i) else if f i = b ∧ b < lim then (b, m + 2 ^ i) else (b, m) := by simp only [bmL, he]
theorem pfd_1 {w : Nat → Int32} {d i : Nat} {st : Int32} (h : ¬ w (197 + 4 * d + i) = st) : pfd w d st i = 3 := if_neg (fun q => h q.1)
theorem pfd_2 {w : Nat → Int32} {d i : Nat} {st : Int32} (h : am w i = 0) : pfd w d st i = 3 := if_neg (fun q => q.2 h)
theorem pfd_3 {w : Nat → Int32} {d i : Nat} {st : Int32} (h : w (197 + 4 * d + i) = st) (h2 : ¬ am w i = 0) : pfd w d st i = pq w d i := if_pos ⟨h, h2⟩
theorem pfm_lt {c : Nat} {w : Nat → Int32} {d : Nat} {st : Int32} (h : WF c w) : (bmL 3 (pfd w d st) (nn w)).2 < 16 := by
  have h1 := bmL_lt (lim := 3) (f := pfd w d st) (nn w)
  have h2 : 2 ^ nn w ≤ 16 := by
    have := Nat.pow_le_pow_right (n := 2) (by decide) h.n.2
    simpa using this
  omega
def bcA (x : Int32) : Int32 := x - ((Int32.toUInt32 x >>> (Int32.toUInt32 (nI 1) &&& Int32.toUInt32 31)).toInt32 &&& 1431655765)
def bcB (x : Int32) : Int32 := (x &&& 858993459) + ((Int32.toUInt32 x >>> (Int32.toUInt32 (nI 2) &&& Int32.toUInt32 31)).toInt32 &&& 858993459)
def bcC (x : Int32) : Int32 := (x + (Int32.toUInt32 x >>> (Int32.toUInt32 (nI 4) &&& Int32.toUInt32 31)).toInt32) &&& 252645135
def bcD (x : Int32) : Int32 := x + (Int32.toUInt32 x >>> (Int32.toUInt32 (nI 8) &&& Int32.toUInt32 31)).toInt32
def bcE (x : Int32) : Int32 := x + (Int32.toUInt32 x >>> (Int32.toUInt32 (nI 16) &&& Int32.toUInt32 31)).toInt32
theorem bc16 : ∀ m, m < 16 → bcE (bcD (bcC (bcB (bcA (nI m))))) &&& nI 63 = nI (pc4 m) := by decide +kernel
set_option maxHeartbeats 4000000 in
set_option maxRecDepth 100000 in
theorem c_X0_hasLinkset (l : Launch) (D : va_G) (cI cO : ClassId) (h : Nat) (a : Nat → Nat) (S : Nat → Nat → Int32) (w : Nat → Int32) (c0 : Nat) (hR : RC c0 S w) (x : Int32)  : Met l yX0_hasLinkset (Cond.code yX0_hasLinkset cX0_hasLinkset 2 (some .boolean) :: WL) ({ frames := 0, cells := 0, slots := 0, locals := 0 } : Room) (va_Pc [.ref (h), .int (x)] (PR D cI cO (stW cI h a S))) (vp_Si (fun r => (r = nI 1 ∧ okI x (nn w)) ∨ (r = nI 0 ∧ ¬ okI x (nn w)))) 0 0 (fun _ => False) := by
  refine rd_bool (by decide) (Nat.le_of_ble_eq_true rfl) ?_
  intro p e s m args below meth c Q ls F hP hC hret hl
  have hx := F.1
  have hb := F.2.1
  have hml := F.2.2.1
  have hown := F.2.2.2.1
  have hts := F.2.2.2.2
  replace hl : lv_has ls 2 [(0, .ref (h)), (1, .int (x))] := hl
  have hn4 := hR.wf.n.2
  refine lv_iload_n hx hb dX0_hasLinkset_0 rfl (lv_at hl 1 rfl) ?_
  refine lv_if_lt (tgt := 16) hx hb dX0_hasLinkset_1 (by decide)  (fun c_1 => ?_) (fun c_1 => ?_)
  · refine lv_iconst (v := (nI (0))) hx hb dX0_hasLinkset_16 (by decide) ?_
    exact hret _ _ ls (by first | exact Or.inl ⟨rfl, okI_of (by omega) c_1 c_9⟩ | exact Or.inr ⟨rfl, fun h => okI_ge h c_1 (by omega)⟩ | exact Or.inr ⟨rfl, fun h => okI_lt (by omega) h c_9⟩) (Or.inl (by decide)) dX0_hasLinkset_17
  · refine lv_iload_n hx hb dX0_hasLinkset_4 rfl (lv_at hl 1 rfl) ?_
    refine lv_aload_n hx hb dX0_hasLinkset_5 rfl (lv_at hl 0 rfl) ?_
    refine gt0 hx hb hts hown hC.1 hP 0 rfl 8 (by decide) qw42 rfl dX0_hasLinkset_6 ?_
    refine w_cv (y := (nI (nn w))) hR.n ?_
    refine lv_icmp_ge (tgt := 16) hx hb dX0_hasLinkset_9 (by decide)  (fun c_9 => ?_) (fun c_9 => ?_)
    · refine lv_iconst (v := (nI (0))) hx hb dX0_hasLinkset_16 (by decide) ?_
      exact hret _ _ ls (by first | exact Or.inl ⟨rfl, okI_of (by omega) c_1 c_9⟩ | exact Or.inr ⟨rfl, fun h => okI_ge h c_1 (by omega)⟩ | exact Or.inr ⟨rfl, fun h => okI_lt (by omega) h c_9⟩) (Or.inl (by decide)) dX0_hasLinkset_17
    · refine lv_iconst (v := (nI (1))) hx hb dX0_hasLinkset_12 (by decide) ?_
      refine lv_goto (tgt := 17) hx hb dX0_hasLinkset_13 (by decide) ?_
      exact hret _ _ ls (by first | exact Or.inl ⟨rfl, okI_of (by omega) c_1 c_9⟩ | exact Or.inr ⟨rfl, fun h => okI_ge h c_1 (by omega)⟩ | exact Or.inr ⟨rfl, fun h => okI_lt (by omega) h c_9⟩) (Or.inr (by decide)) dX0_hasLinkset_17

set_option maxHeartbeats 4000000 in
set_option maxRecDepth 100000 in
theorem c_X0_hasLink (l : Launch) (D : va_G) (cI cO : ClassId) (h : Nat) (a : Nat → Nat) (S : Nat → Nat → Int32) (w : Nat → Int32) (c0 : Nat) (hR : RC c0 S w) (x y : Int32)  : Met l yX0_hasLink (Cond.code yX0_hasLink cX0_hasLink 3 (some .boolean) :: WL) ({ frames := 1, cells := 0, slots := 0, locals := 21 } : Room) (va_Pc [.ref (h), .int (x), .int (y)] (PR D cI cO (stW cI h a S))) (vp_Si (fun r => (r = nI 1 ∧ okL w x y) ∨ (r = nI 0 ∧ ¬ okL w x y))) 0 0 (fun _ => False) := by
  refine rd_bool (by decide) (Nat.le_of_ble_eq_true rfl) ?_
  intro p e s m args below meth c Q ls F hP hC hret hl
  have hx := F.1
  have hb := F.2.1
  have hml := F.2.2.1
  have hown := F.2.2.2.1
  have hts := F.2.2.2.2
  replace hl : lv_has ls 3 [(0, .ref (h)), (1, .int (x)), (2, .int (y))] := hl
  have hn4 := hR.wf.n.2
  refine lv_aload_n hx hb dX0_hasLink_0 rfl (lv_at hl 0 rfl) ?_
  refine lv_iload_n hx hb dX0_hasLink_1 rfl (lv_at hl 1 rfl) ?_
  refine goR (kV (As := [.int (x)]) (rest := []) F (c_X0_hasLinkset l D cI cO h a S w c0 hR (x)) ywX0_hasLinkset qw179 qw181 qs6 ⟨rfl, rfl⟩ ⟨Nat.le_of_ble_eq_true rfl, Nat.le_of_ble_eq_true rfl⟩ (preV (preR hP hC) hC hP (ci := 0) (q0 := 0) rfl rfl rfl) rfl hl.1 rfl (Nat.le_of_ble_eq_true rfl) dX0_hasLink_2 ⟨Nat.zero_le _, Nat.zero_le _⟩) (fun r_2 h_2 => ?_)
  rcases h_2 with ⟨rfl, h_2⟩ | ⟨rfl, h_2⟩
  · obtain ⟨i, hi, rfl⟩ := h_2
    have hm4 := (hR.wf.m i (by omega)).2
    refine n_if_eq (tgt := 26) hx hb dX0_hasLink_5 (by decide) (by omega) (fun h => absurd h (by decide)) (fun _ => ?_)
    refine lv_iload_n hx hb dX0_hasLink_8 rfl (lv_at hl 2 rfl) ?_
    refine lv_if_lt (tgt := 26) hx hb dX0_hasLink_9 (by decide)  (fun c_9 => ?_) (fun c_9 => ?_)
    · refine lv_iconst (v := (nI (0))) hx hb dX0_hasLink_26 (by decide) ?_
      exact hret _ _ ls (by first | exact Or.inl ⟨rfl, i, hi, rfl, okI_of (by omega) c_9 c_19⟩ | exact Or.inr ⟨rfl, fun h => h_2 (okL_1 h)⟩ | exact Or.inr ⟨rfl, fun h => okI_ge (okL_2 hi hn4 h) c_9 (by omega)⟩ | exact Or.inr ⟨rfl, fun h => okI_lt (by omega) (okL_2 hi hn4 h) c_19⟩) (Or.inl (by decide)) dX0_hasLink_27
    · refine lv_iload_n hx hb dX0_hasLink_12 rfl (lv_at hl 2 rfl) ?_
      refine lv_aload_n hx hb dX0_hasLink_13 rfl (lv_at hl 0 rfl) ?_
      refine gt0 hx hb hts hown hC.1 hP 0 rfl 10 (by decide) qw45 rfl dX0_hasLink_14 ?_
      refine lv_iload_n hx hb dX0_hasLink_17 rfl (lv_at hl 1 rfl) ?_
      refine n_iald hx hb hC.1 hP 1 0 rfl rfl (by omega) (by decide) dX0_hasLink_18 ?_
      refine w_cv (y := (nI (mn w i))) (hR.m i (by omega)) ?_
      refine lv_icmp_ge (tgt := 26) hx hb dX0_hasLink_19 (by decide)  (fun c_19 => ?_) (fun c_19 => ?_)
      · refine lv_iconst (v := (nI (0))) hx hb dX0_hasLink_26 (by decide) ?_
        exact hret _ _ ls (by first | exact Or.inl ⟨rfl, i, hi, rfl, okI_of (by omega) c_9 c_19⟩ | exact Or.inr ⟨rfl, fun h => h_2 (okL_1 h)⟩ | exact Or.inr ⟨rfl, fun h => okI_ge (okL_2 hi hn4 h) c_9 (by omega)⟩ | exact Or.inr ⟨rfl, fun h => okI_lt (by omega) (okL_2 hi hn4 h) c_19⟩) (Or.inl (by decide)) dX0_hasLink_27
      · refine lv_iconst (v := (nI (1))) hx hb dX0_hasLink_22 (by decide) ?_
        refine lv_goto (tgt := 27) hx hb dX0_hasLink_23 (by decide) ?_
        exact hret _ _ ls (by first | exact Or.inl ⟨rfl, i, hi, rfl, okI_of (by omega) c_9 c_19⟩ | exact Or.inr ⟨rfl, fun h => h_2 (okL_1 h)⟩ | exact Or.inr ⟨rfl, fun h => okI_ge (okL_2 hi hn4 h) c_9 (by omega)⟩ | exact Or.inr ⟨rfl, fun h => okI_lt (by omega) (okL_2 hi hn4 h) c_19⟩) (Or.inr (by decide)) dX0_hasLink_27
  · refine n_if_eq (tgt := 26) hx hb dX0_hasLink_5 (by decide) (by omega) (fun _ => ?_) (fun h => absurd h (by decide))
    refine lv_iconst (v := (nI (0))) hx hb dX0_hasLink_26 (by decide) ?_
    exact hret _ _ ls (by first | exact Or.inl ⟨rfl, i, hi, rfl, okI_of (by omega) c_9 c_19⟩ | exact Or.inr ⟨rfl, fun h => h_2 (okL_1 h)⟩ | exact Or.inr ⟨rfl, fun h => okI_ge (okL_2 hi hn4 h) c_9 (by omega)⟩ | exact Or.inr ⟨rfl, fun h => okI_lt (by omega) (okL_2 hi hn4 h) c_19⟩) (Or.inl (by decide)) dX0_hasLink_27

set_option maxHeartbeats 4000000 in
set_option maxRecDepth 100000 in
theorem c_X0_canHaveRoute (l : Launch) (D : va_G) (cI cO : ClassId) (h : Nat) (a : Nat → Nat) (S : Nat → Nat → Int32) (w : Nat → Int32) (c0 : Nat) (hR : RC c0 S w) (x y : Int32)  : Met l yX0_canHaveRoute (Cond.code yX0_canHaveRoute cX0_canHaveRoute 3 (some .boolean) :: WL) ({ frames := 1, cells := 0, slots := 0, locals := 21 } : Room) (va_Pc [.ref (h), .int (x), .int (y)] (PR D cI cO (stW cI h a S))) (vp_Si (fun r => (r = nI 1 ∧ okI x 6 ∧ okI y (nn w)) ∨ (r = nI 0 ∧ ¬ (okI x 6 ∧ okI y (nn w))))) 0 0 (fun _ => False) := by
  refine rd_bool (by decide) (Nat.le_of_ble_eq_true rfl) ?_
  intro p e s m args below meth c Q ls F hP hC hret hl
  have hx := F.1
  have hb := F.2.1
  have hml := F.2.2.1
  have hown := F.2.2.2.1
  have hts := F.2.2.2.2
  replace hl : lv_has ls 3 [(0, .ref (h)), (1, .int (x)), (2, .int (y))] := hl
  have hn4 := hR.wf.n.2
  refine lv_iload_n hx hb dX0_canHaveRoute_0 rfl (lv_at hl 1 rfl) ?_
  refine goR (kSN (As := [.int (x)]) (rest := []) F (c_X2_isDestination l D cI cO (x)) ywX2_isDestination (hC.2.2 _ (List.mem_of_getElem? (i := 20) rfl)) qw301  ⟨rfl, rfl⟩ ⟨Nat.le_of_ble_eq_true rfl, Nat.le_of_ble_eq_true rfl⟩ (preR (fun k q h => by simp at h) hC) rfl hl.1 rfl (Nat.le_of_ble_eq_true rfl) dX0_canHaveRoute_1 ⟨Nat.zero_le _, Nat.zero_le _⟩) (fun r_1 h_1 => ?_)
  rcases h_1 with ⟨rfl, h_1⟩ | ⟨rfl, h_1⟩
  · refine n_if_eq (tgt := 19) hx hb dX0_canHaveRoute_4 (by decide) (by omega) (fun h => absurd h (by decide)) (fun _ => ?_)
    refine lv_aload_n hx hb dX0_canHaveRoute_7 rfl (lv_at hl 0 rfl) ?_
    refine lv_iload_n hx hb dX0_canHaveRoute_8 rfl (lv_at hl 2 rfl) ?_
    refine goR (kV (As := [.int (y)]) (rest := []) F (c_X0_hasLinkset l D cI cO h a S w c0 hR (y)) ywX0_hasLinkset qw179 qw181 qs6 ⟨rfl, rfl⟩ ⟨Nat.le_of_ble_eq_true rfl, Nat.le_of_ble_eq_true rfl⟩ (preV (preR hP hC) hC hP (ci := 0) (q0 := 0) rfl rfl rfl) rfl hl.1 rfl (Nat.le_of_ble_eq_true rfl) dX0_canHaveRoute_9 ⟨Nat.zero_le _, Nat.zero_le _⟩) (fun r_9 h_9 => ?_)
    rcases h_9 with ⟨rfl, h_9⟩ | ⟨rfl, h_9⟩
    · refine n_if_eq (tgt := 19) hx hb dX0_canHaveRoute_12 (by decide) (by omega) (fun h => absurd h (by decide)) (fun _ => ?_)
      refine lv_iconst (v := (nI (1))) hx hb dX0_canHaveRoute_15 (by decide) ?_
      refine lv_goto (tgt := 20) hx hb dX0_canHaveRoute_16 (by decide) ?_
      exact hret _ _ ls (by first | exact Or.inl ⟨rfl, h_1, h_9⟩ | exact Or.inr ⟨rfl, fun h => h_1 h.1⟩ | exact Or.inr ⟨rfl, fun h => h_9 h.2⟩) (Or.inr (by decide)) dX0_canHaveRoute_20
    · refine n_if_eq (tgt := 19) hx hb dX0_canHaveRoute_12 (by decide) (by omega) (fun _ => ?_) (fun h => absurd h (by decide))
      refine lv_iconst (v := (nI (0))) hx hb dX0_canHaveRoute_19 (by decide) ?_
      exact hret _ _ ls (by first | exact Or.inl ⟨rfl, h_1, h_9⟩ | exact Or.inr ⟨rfl, fun h => h_1 h.1⟩ | exact Or.inr ⟨rfl, fun h => h_9 h.2⟩) (Or.inl (by decide)) dX0_canHaveRoute_20
  · refine n_if_eq (tgt := 19) hx hb dX0_canHaveRoute_4 (by decide) (by omega) (fun _ => ?_) (fun h => absurd h (by decide))
    refine lv_iconst (v := (nI (0))) hx hb dX0_canHaveRoute_19 (by decide) ?_
    exact hret _ _ ls (by first | exact Or.inl ⟨rfl, h_1, h_9⟩ | exact Or.inr ⟨rfl, fun h => h_1 h.1⟩ | exact Or.inr ⟨rfl, fun h => h_9 h.2⟩) (Or.inl (by decide)) dX0_canHaveRoute_20

set_option maxHeartbeats 4000000 in
set_option maxRecDepth 100000 in
theorem c_X0_linkWorks (l : Launch) (D : va_G) (cI cO : ClassId) (h : Nat) (a : Nat → Nat) (S : Nat → Nat → Int32) (w : Nat → Int32) (c0 : Nat) (hR : RC c0 S w) (i j : Nat) (hi : i < 4) (hj : j < 4) : Met l yX0_linkWorks (Cond.code yX0_linkWorks cX0_linkWorks 3 (some .boolean) :: WL) ({ frames := 0, cells := 0, slots := 0, locals := 0 } : Room) (va_Pc [.ref (h), .int (nI (i)), .int (nI (j))] (PR D cI cO (stW cI h a S))) (vp_Si (fun r => (r = nI 1 ∧ ac w (4 * i + j) = 1) ∨ (r = nI 0 ∧ ac w (4 * i + j) = 0))) 0 0 (fun _ => False) := by
  refine rd_bool (by decide) (Nat.le_of_ble_eq_true rfl) ?_
  intro p e s m args below meth c Q ls F hP hC hret hl
  have hx := F.1
  have hb := F.2.1
  have hml := F.2.2.1
  have hown := F.2.2.2.1
  have hts := F.2.2.2.2
  replace hl : lv_has ls 3 [(0, .ref (h)), (1, .int (nI (i))), (2, .int (nI (j)))] := hl
  have hn4 := hR.wf.n.2
  have ha1 := (hR.wf.a (4 * i + j) (by omega)).2
  refine lv_aload_n hx hb dX0_linkWorks_0 rfl (lv_at hl 0 rfl) ?_
  refine gt0 hx hb hts hown hC.1 hP 0 rfl 11 (by decide) qw46 rfl dX0_linkWorks_1 ?_
  refine lv_iload_n hx hb dX0_linkWorks_4 rfl (lv_at hl 1 rfl) ?_
  refine n_iald hx hb hC.1 hP 2 0 rfl rfl (by omega) (by decide) dX0_linkWorks_5 ?_
  refine w_cv (y := (nI (am w i))) (hR.a i hi) ?_
  refine lv_iload_n hx hb dX0_linkWorks_6 rfl (lv_at hl 2 rfl) ?_
  refine lv_ishr hx hb dX0_linkWorks_7 ?_
  refine lv_iconst (v := (nI (1))) hx hb dX0_linkWorks_8 (by decide) ?_
  refine lv_iand hx hb dX0_linkWorks_9 ?_
  refine w_cv (y := (nI (ac w (4 * i + j)))) ((shr1 _ (am_lt hR.wf hi) j hj).trans (congrArg nI (am_tb hR.wf hi hj))) ?_
  refine lv_iconst (v := (nI (1))) hx hb dX0_linkWorks_10 (by decide) ?_
  refine n_icmp_ne (tgt := 18) hx hb dX0_linkWorks_11 (by decide) (by omega) (by omega) (fun c_11 => ?_) (fun c_11 => ?_)
  · refine lv_iconst (v := (nI (0))) hx hb dX0_linkWorks_18 (by decide) ?_
    exact hret _ _ ls (by first | exact Or.inl ⟨rfl, c_11⟩ | exact Or.inr ⟨rfl, by omega⟩) (Or.inl (by decide)) dX0_linkWorks_19
  · refine lv_iconst (v := (nI (1))) hx hb dX0_linkWorks_14 (by decide) ?_
    refine lv_goto (tgt := 19) hx hb dX0_linkWorks_15 (by decide) ?_
    exact hret _ _ ls (by first | exact Or.inl ⟨rfl, c_11⟩ | exact Or.inr ⟨rfl, by omega⟩) (Or.inr (by decide)) dX0_linkWorks_19

set_option maxHeartbeats 4000000 in
set_option maxRecDepth 100000 in
theorem c_X0_holds (l : Launch) (D : va_G) (cI cO : ClassId) (h : Nat) (a : Nat → Nat) (S : Nat → Nat → Int32) (w : Nat → Int32) (c0 : Nat) (hR : RC c0 S w) (k : Nat) (hc : c0 < 1000) (hk : k < 96) : Met l yX0_holds (Cond.code yX0_holds cX0_holds 2 (some .boolean) :: WL) ({ frames := 0, cells := 0, slots := 0, locals := 0 } : Room) (va_Pc [.ref (h), .int (nI (k))] (PR D cI cO (stW cI h a S))) (vp_Si (fun r => (r = nI 1 ∧ ¬ un w k = 0) ∨ (r = nI 0 ∧ un w k = 0))) 0 0 (fun _ => False) := by
  refine rd_bool (by decide) (Nat.le_of_ble_eq_true rfl) ?_
  intro p e s m args below meth c Q ls F hP hC hret hl
  have hx := F.1
  have hb := F.2.1
  have hml := F.2.2.1
  have hown := F.2.2.2.1
  have hts := F.2.2.2.2
  replace hl : lv_has ls 2 [(0, .ref (h)), (1, .int (nI (k)))] := hl
  have hn4 := hR.wf.n.2
  obtain ⟨v, hv, hv2, hv3⟩ := RC_hu hR hc hk
  have ht := hR.wf.t.2
  refine lv_aload_n hx hb dX0_holds_0 rfl (lv_at hl 0 rfl) ?_
  refine gt0 hx hb hts hown hC.1 hP 0 rfl 16 (by decide) qw55 rfl dX0_holds_1 ?_
  refine lv_iload_n hx hb dX0_holds_4 rfl (lv_at hl 1 rfl) ?_
  refine n_iald hx hb hC.1 hP 7 0 rfl rfl (by omega) (by decide) dX0_holds_5 ?_
  refine w_cv (y := (nI (v))) hv ?_
  refine lv_aload_n hx hb dX0_holds_6 rfl (lv_at hl 0 rfl) ?_
  refine gt0 hx hb hts hown hC.1 hP 0 rfl 0 (by decide) qw26 rfl dX0_holds_7 ?_
  refine w_cv (y := (nI (tm w))) hR.t ?_
  refine n_icmp_le (tgt := 17) hx hb dX0_holds_10 (by decide) (by omega) (by omega) (fun c_10 => ?_) (fun c_10 => ?_)
  · refine lv_iconst (v := (nI (0))) hx hb dX0_holds_17 (by decide) ?_
    exact hret _ _ ls (by first | exact Or.inl ⟨rfl, by omega⟩ | exact Or.inr ⟨rfl, by omega⟩) (Or.inl (by decide)) dX0_holds_18
  · refine lv_iconst (v := (nI (1))) hx hb dX0_holds_13 (by decide) ?_
    refine lv_goto (tgt := 18) hx hb dX0_holds_14 (by decide) ?_
    exact hret _ _ ls (by first | exact Or.inl ⟨rfl, by omega⟩ | exact Or.inr ⟨rfl, by omega⟩) (Or.inr (by decide)) dX0_holds_18

set_option maxHeartbeats 4000000 in
set_option maxRecDepth 100000 in
theorem c_X0_congestionLevel (l : Launch) (D : va_G) (cI cO : ClassId) (h : Nat) (a : Nat → Nat) (S : Nat → Nat → Int32) (w : Nat → Int32) (c0 : Nat) (hR : RC c0 S w) (k : Nat) (hk : k < 16) : Met l yX0_congestionLevel (Cond.code yX0_congestionLevel cX0_congestionLevel 3 (some .int) :: WL) ({ frames := 0, cells := 0, slots := 0, locals := 0 } : Room) (va_Pc [.ref (h), .int (nI (k))] (PR D cI cO (stW cI h a S))) (vp_Si (fun r => r = nI (lvl (le w k)))) 0 0 (fun _ => False) := by
  refine rd_int (by decide) (Nat.le_of_ble_eq_true rfl) ?_
  intro p e s m args below meth c Q ls F hP hC hret hl
  have hx := F.1
  have hb := F.2.1
  have hml := F.2.2.1
  have hown := F.2.2.2.1
  have hts := F.2.2.2.2
  replace hl : lv_has ls 3 [(0, .ref (h)), (1, .int (nI (k)))] := hl
  have hn4 := hR.wf.n.2
  have hl10 := (hR.wf.l k hk).2
  refine lv_aload_n hx hb dX0_congestionLevel_0 rfl (lv_at hl 0 rfl) ?_
  refine gt0 hx hb hts hown hC.1 hP 0 rfl 12 (by decide) qw47 rfl dX0_congestionLevel_1 ?_
  refine lv_iload_n hx hb dX0_congestionLevel_4 rfl (lv_at hl 1 rfl) ?_
  refine n_iald hx hb hC.1 hP 3 0 rfl rfl (by omega) (by decide) dX0_congestionLevel_5 ?_
  refine w_cv (y := (nI (le w k))) (hR.l k hk) ?_
  refine lv_istore_n (lv' := [(2, .int (nI (le w k))), (0, .ref (h)), (1, .int (nI (k)))]) hx hb dX0_congestionLevel_6 rfl hl (by decide) rfl (fun ls hl => ?_)
  refine lv_iload_n hx hb dX0_congestionLevel_7 rfl (lv_at hl 0 rfl) ?_
  refine lv_iconst (v := (nI (4))) hx hb dX0_congestionLevel_8 (by decide) ?_
  refine n_icmp_ge (tgt := 14) hx hb dX0_congestionLevel_9 (by decide) (by omega) (by omega) (fun c_9 => ?_) (fun c_9 => ?_)
  · refine lv_iload_n hx hb dX0_congestionLevel_14 rfl (lv_at hl 0 rfl) ?_
    refine lv_bipush (v := (nI (6))) hx hb dX0_congestionLevel_15 (by decide) ?_
    refine n_icmp_ge (tgt := 22) hx hb dX0_congestionLevel_17 (by decide) (by omega) (by omega) (fun c_17 => ?_) (fun c_17 => ?_)
    · refine lv_iload_n hx hb dX0_congestionLevel_22 rfl (lv_at hl 0 rfl) ?_
      refine lv_bipush (v := (nI (8))) hx hb dX0_congestionLevel_23 (by decide) ?_
      refine n_icmp_ge (tgt := 32) hx hb dX0_congestionLevel_25 (by decide) (by omega) (by omega) (fun c_25 => ?_) (fun c_25 => ?_)
      · refine lv_iconst (v := (nI (3))) hx hb dX0_congestionLevel_32 (by decide) ?_
        exact hret _ _ ls (by unfold lvl; first | (rw [if_pos (by omega)]; done) | (rw [if_neg (by omega), if_pos (by omega)]; done) | (rw [if_neg (by omega), if_neg (by omega), if_pos (by omega)]; done) | (rw [if_neg (by omega), if_neg (by omega), if_neg (by omega)]; done)) dX0_congestionLevel_33
      · refine lv_iconst (v := (nI (2))) hx hb dX0_congestionLevel_28 (by decide) ?_
        refine lv_goto (tgt := 33) hx hb dX0_congestionLevel_29 (by decide) ?_
        exact hret _ _ ls (by unfold lvl; first | (rw [if_pos (by omega)]; done) | (rw [if_neg (by omega), if_pos (by omega)]; done) | (rw [if_neg (by omega), if_neg (by omega), if_pos (by omega)]; done) | (rw [if_neg (by omega), if_neg (by omega), if_neg (by omega)]; done)) dX0_congestionLevel_33
    · refine lv_iconst (v := (nI (1))) hx hb dX0_congestionLevel_20 (by decide) ?_
      exact hret _ _ ls (by unfold lvl; first | (rw [if_pos (by omega)]; done) | (rw [if_neg (by omega), if_pos (by omega)]; done) | (rw [if_neg (by omega), if_neg (by omega), if_pos (by omega)]; done) | (rw [if_neg (by omega), if_neg (by omega), if_neg (by omega)]; done)) dX0_congestionLevel_21
  · refine lv_iconst (v := (nI (0))) hx hb dX0_congestionLevel_12 (by decide) ?_
    exact hret _ _ ls (by unfold lvl; first | (rw [if_pos (by omega)]; done) | (rw [if_neg (by omega), if_pos (by omega)]; done) | (rw [if_neg (by omega), if_neg (by omega), if_pos (by omega)]; done) | (rw [if_neg (by omega), if_neg (by omega), if_neg (by omega)]; done)) dX0_congestionLevel_13

set_option maxHeartbeats 4000000 in
set_option maxRecDepth 100000 in
theorem c_X0_preferredRoutes (l : Launch) (D : va_G) (cI cO : ClassId) (h : Nat) (a : Nat → Nat) (S : Nat → Nat → Int32) (w : Nat → Int32) (c0 : Nat) (hR : RC c0 S w) (d : Nat) (st : Int32) (hd6 : d < 6) (hst : st = nI 0 ∨ st = nI 1) : Met l yX0_preferredRoutes (Cond.code yX0_preferredRoutes cX0_preferredRoutes 7 (some .int) :: WL) ({ frames := 1, cells := 0, slots := 0, locals := 21 } : Room) (va_Pc [.ref (h), .int (nI (d)), .int (st)] (PR D cI cO (stW cI h a S))) (vp_Si (fun r => r = nI (bmL 3 (pfd w d st) (nn w)).2)) 0 0 (fun _ => False) := by
  refine rd_int (by decide) (Nat.le_of_ble_eq_true rfl) ?_
  intro p e s m args below meth c Q ls F hP hC hret hl
  have hx := F.1
  have hb := F.2.1
  have hml := F.2.2.1
  have hown := F.2.2.2.1
  have hts := F.2.2.2.2
  replace hl : lv_has ls 7 [(0, .ref (h)), (1, .int (nI (d))), (2, .int (st))] := hl
  have hn4 := hR.wf.n.2
  refine lv_iconst (v := (nI (3))) hx hb dX0_preferredRoutes_0 (by decide) ?_
  refine lv_istore_n (lv' := [(3, .int (nI (3))), (0, .ref (h)), (1, .int (nI (d))), (2, .int (st))]) hx hb dX0_preferredRoutes_1 rfl hl (by decide) rfl (fun ls hl => ?_)
  refine lv_iconst (v := (nI (0))) hx hb dX0_preferredRoutes_2 (by decide) ?_
  refine lv_istore (lv' := [(4, .int (nI (0))), (3, .int (nI (3))), (0, .ref (h)), (1, .int (nI (d))), (2, .int (st))]) hx hb dX0_preferredRoutes_3 hl (by decide) rfl (fun ls hl => ?_)
  refine lv_iconst (v := (nI (0))) hx hb dX0_preferredRoutes_5 (by decide) ?_
  refine lv_istore (lv' := [(5, .int (nI (0))), (4, .int (nI (0))), (3, .int (nI (3))), (0, .ref (h)), (1, .int (nI (d))), (2, .int (st))]) hx hb dX0_preferredRoutes_6 hl (by decide) rfl (fun ls hl => ?_)
  have lp_8 : ∀ (fu : Nat) (i : Nat) (b : Nat) (m_ : Nat) (ls : Array Slot), nn w - i < fu → i ≤ nn w → bmL 3 (pfd w d st) i = (b, m_) → lv_has ls 7 [(5, .int (nI (i))), (4, .int (nI (m_))), (3, .int (nI (b))), (0, .ref (h)), (1, .int (nI (d))), (2, .int (st))] → W p l e ({ frames := 1, cells := 0, slots := 0, locals := 21 } : Room) s m args below meth c s.heap [] 0 0 Q (F0 m 8 ls []) := by
    intro fu
    induction fu with
    | zero => intro i b m_ ls hmu; exact absurd hmu (Nat.not_lt_zero _)
    | succ fu ih =>
      intro i b m_ ls hmu hi he hl
      have hl3 := bmL_lim (lim := 3) (f := pfd w d st) i
      have hlt := bmL_lt (lim := 3) (f := pfd w d st) i
      rw [he] at hl3 hlt
      simp only at hl3 hlt
      refine lv_iload hx hb dX0_preferredRoutes_8 (lv_at hl 0 rfl) ?_
      refine lv_aload_n hx hb dX0_preferredRoutes_10 rfl (lv_at hl 3 rfl) ?_
      refine gt0 hx hb hts hown hC.1 hP 0 rfl 8 (by decide) qw42 rfl dX0_preferredRoutes_11 ?_
      refine w_cv (y := (nI (nn w))) hR.n ?_
      refine n_icmp_ge (tgt := 94) hx hb dX0_preferredRoutes_14 (by decide) (by omega) (by omega) (fun c_14 => ?_) (fun c_14 => ?_)
      · refine lv_iload hx hb dX0_preferredRoutes_94 (lv_at hl 1 rfl) ?_
        exact hret _ _ ls (by rw [show nn w = i by omega, he]) dX0_preferredRoutes_96
      · have ham := am_lt hR.wf (i := i) (by omega)
        have h2i : 2 ^ i ≤ 8 := by have := Nat.pow_le_pow_right (n := 2) (by decide) (show i ≤ 3 by omega); simpa using this
        have h2p : 0 < 2 ^ i := Nat.pow_pos (by decide)
        refine lv_iload_n hx hb dX0_preferredRoutes_17 rfl (lv_at hl 4 rfl) ?_
        refine lv_iload hx hb dX0_preferredRoutes_18 (lv_at hl 0 rfl) ?_
        refine goR (kSN (As := [.int (nI (d)), .int (nI (i))]) (rest := []) F (c_X2_routePlace l D cI cO (d) (i)) ywX2_routePlace (hC.2.2 _ (List.mem_of_getElem? (i := 11) rfl)) qw221  ⟨rfl, rfl⟩ ⟨Nat.le_of_ble_eq_true rfl, Nat.le_of_ble_eq_true rfl⟩ (preR (fun k q h => by simp at h) hC) rfl hl.1 rfl (Nat.le_of_ble_eq_true rfl) dX0_preferredRoutes_20 ⟨Nat.zero_le _, Nat.zero_le _⟩) (fun r_20 h_20 => ?_)
        subst h_20
        refine lv_istore (lv' := [(6, .int (nI (d * 4 + i))), (5, .int (nI (i))), (4, .int (nI (m_))), (3, .int (nI (b))), (0, .ref (h)), (1, .int (nI (d))), (2, .int (st))]) hx hb dX0_preferredRoutes_23 hl (by decide) rfl (fun ls hl => ?_)
        refine lv_aload_n hx hb dX0_preferredRoutes_25 rfl (lv_at hl 4 rfl) ?_
        refine gt0 hx hb hts hown hC.1 hP 0 rfl 14 (by decide) qw51 rfl dX0_preferredRoutes_26 ?_
        refine lv_iload hx hb dX0_preferredRoutes_29 (lv_at hl 0 rfl) ?_
        refine n_iald hx hb hC.1 hP 5 0 rfl rfl (by omega) (by decide) dX0_preferredRoutes_31 ?_
        refine w_cv (y := (w (197 + 4 * d + i))) (hR.s d hd6 i (by omega)) ?_
        refine lv_iload_n hx hb dX0_preferredRoutes_32 rfl (lv_at hl 6 rfl) ?_
        refine lv_icmp_ne (tgt := 88) hx hb dX0_preferredRoutes_33 (by decide)  (fun c_33 => ?_) (fun c_33 => ?_)
        · refine n_iinc (a := i) (b := 1) (lv' := [(5, .int (nI (i + 1))), (6, .int (nI (d * 4 + i))), (4, .int (nI (m_))), (3, .int (nI (b))), (0, .ref (h)), (1, .int (nI (d))), (2, .int (st))]) hx hb dX0_preferredRoutes_88 hl (k := 1) rfl rfl (by decide) rfl (fun ls hl => ?_)
          refine lv_goto (tgt := 8) hx hb dX0_preferredRoutes_91 (by decide) ?_
          exact ih (i + 1) (b) (m_) ls (by omega) (by omega) (by rw [bmL_step he]; first | (rw [pfd_1 c_33, if_neg (by omega), if_neg (by omega)]; done) | (rw [pfd_2 c_43, if_neg (by omega), if_neg (by omega)]; done) | (rw [pfd_3 c_33 c_43, if_neg (by omega), if_neg (by omega)]; done) | (rw [pfd_3 c_33 c_43, if_pos (by omega), Nat.zero_add]; done) | (rw [pfd_3 c_33 c_43, if_neg (by omega), if_pos ⟨by omega, by omega⟩, show b = pq w d i by omega]; done)) (lv_sub hl [0, 2, 3, 4, 5, 6] rfl)
        · have hpq := hR.wf.p d hd6 i (by omega) (by rw [c_33]; rcases hst with rfl | rfl <;> decide)
          have hp2 := hpq.2
          refine lv_aload_n hx hb dX0_preferredRoutes_36 rfl (lv_at hl 4 rfl) ?_
          refine gt0 hx hb hts hown hC.1 hP 0 rfl 11 (by decide) qw46 rfl dX0_preferredRoutes_37 ?_
          refine lv_iload hx hb dX0_preferredRoutes_40 (lv_at hl 1 rfl) ?_
          refine n_iald hx hb hC.1 hP 2 0 rfl rfl (by omega) (by decide) dX0_preferredRoutes_42 ?_
          refine w_cv (y := (nI (am w i))) (hR.a i (by omega)) ?_
          refine n_if_eq (tgt := 88) hx hb dX0_preferredRoutes_43 (by decide) (by omega) (fun c_43 => ?_) (fun c_43 => ?_)
          · refine n_iinc (a := i) (b := 1) (lv' := [(5, .int (nI (i + 1))), (6, .int (nI (d * 4 + i))), (4, .int (nI (m_))), (3, .int (nI (b))), (0, .ref (h)), (1, .int (nI (d))), (2, .int (st))]) hx hb dX0_preferredRoutes_88 hl (k := 1) rfl rfl (by decide) rfl (fun ls hl => ?_)
            refine lv_goto (tgt := 8) hx hb dX0_preferredRoutes_91 (by decide) ?_
            exact ih (i + 1) (b) (m_) ls (by omega) (by omega) (by rw [bmL_step he]; first | (rw [pfd_1 c_33, if_neg (by omega), if_neg (by omega)]; done) | (rw [pfd_2 c_43, if_neg (by omega), if_neg (by omega)]; done) | (rw [pfd_3 c_33 c_43, if_neg (by omega), if_neg (by omega)]; done) | (rw [pfd_3 c_33 c_43, if_pos (by omega), Nat.zero_add]; done) | (rw [pfd_3 c_33 c_43, if_neg (by omega), if_pos ⟨by omega, by omega⟩, show b = pq w d i by omega]; done)) (lv_sub hl [0, 2, 3, 4, 5, 6] rfl)
          · refine lv_aload_n hx hb dX0_preferredRoutes_46 rfl (lv_at hl 4 rfl) ?_
            refine gt0 hx hb hts hown hC.1 hP 0 rfl 15 (by decide) qw53 rfl dX0_preferredRoutes_47 ?_
            refine lv_iload hx hb dX0_preferredRoutes_50 (lv_at hl 0 rfl) ?_
            refine n_iald hx hb hC.1 hP 6 0 rfl rfl (by omega) (by decide) dX0_preferredRoutes_52 ?_
            refine w_cv (y := (nI (pq w d i))) ((hR.p d hd6 i (by omega)).trans hpq.1) ?_
            refine lv_iload_n hx hb dX0_preferredRoutes_53 rfl (lv_at hl 3 rfl) ?_
            refine n_icmp_gt (tgt := 88) hx hb dX0_preferredRoutes_54 (by decide) (by omega) (by omega) (fun c_54 => ?_) (fun c_54 => ?_)
            · refine n_iinc (a := i) (b := 1) (lv' := [(5, .int (nI (i + 1))), (6, .int (nI (d * 4 + i))), (4, .int (nI (m_))), (3, .int (nI (b))), (0, .ref (h)), (1, .int (nI (d))), (2, .int (st))]) hx hb dX0_preferredRoutes_88 hl (k := 1) rfl rfl (by decide) rfl (fun ls hl => ?_)
              refine lv_goto (tgt := 8) hx hb dX0_preferredRoutes_91 (by decide) ?_
              exact ih (i + 1) (b) (m_) ls (by omega) (by omega) (by rw [bmL_step he]; first | (rw [pfd_1 c_33, if_neg (by omega), if_neg (by omega)]; done) | (rw [pfd_2 c_43, if_neg (by omega), if_neg (by omega)]; done) | (rw [pfd_3 c_33 c_43, if_neg (by omega), if_neg (by omega)]; done) | (rw [pfd_3 c_33 c_43, if_pos (by omega), Nat.zero_add]; done) | (rw [pfd_3 c_33 c_43, if_neg (by omega), if_pos ⟨by omega, by omega⟩, show b = pq w d i by omega]; done)) (lv_sub hl [0, 2, 3, 4, 5, 6] rfl)
            · refine lv_aload_n hx hb dX0_preferredRoutes_57 rfl (lv_at hl 4 rfl) ?_
              refine gt0 hx hb hts hown hC.1 hP 0 rfl 15 (by decide) qw53 rfl dX0_preferredRoutes_58 ?_
              refine lv_iload hx hb dX0_preferredRoutes_61 (lv_at hl 0 rfl) ?_
              refine n_iald hx hb hC.1 hP 6 0 rfl rfl (by omega) (by decide) dX0_preferredRoutes_63 ?_
              refine w_cv (y := (nI (pq w d i))) ((hR.p d hd6 i (by omega)).trans hpq.1) ?_
              refine lv_iload_n hx hb dX0_preferredRoutes_64 rfl (lv_at hl 3 rfl) ?_
              refine n_icmp_ge (tgt := 71) hx hb dX0_preferredRoutes_65 (by decide) (by omega) (by omega) (fun c_65 => ?_) (fun c_65 => ?_)
              · refine lv_aload_n hx hb dX0_preferredRoutes_71 rfl (lv_at hl 4 rfl) ?_
                refine gt0 hx hb hts hown hC.1 hP 0 rfl 15 (by decide) qw53 rfl dX0_preferredRoutes_72 ?_
                refine lv_iload hx hb dX0_preferredRoutes_75 (lv_at hl 0 rfl) ?_
                refine n_iald hx hb hC.1 hP 6 0 rfl rfl (by omega) (by decide) dX0_preferredRoutes_77 ?_
                refine w_cv (y := (nI (pq w d i))) ((hR.p d hd6 i (by omega)).trans hpq.1) ?_
                refine lv_istore_n (lv' := [(3, .int (nI (pq w d i))), (6, .int (nI (d * 4 + i))), (5, .int (nI (i))), (4, .int (nI (m_))), (0, .ref (h)), (1, .int (nI (d))), (2, .int (st))]) hx hb dX0_preferredRoutes_78 rfl hl (by decide) rfl (fun ls hl => ?_)
                refine lv_iload hx hb dX0_preferredRoutes_79 (lv_at hl 3 rfl) ?_
                refine lv_iconst (v := (nI (1))) hx hb dX0_preferredRoutes_81 (by decide) ?_
                refine lv_iload hx hb dX0_preferredRoutes_82 (lv_at hl 2 rfl) ?_
                refine lv_ishl hx hb dX0_preferredRoutes_84 ?_
                refine lv_ior hx hb dX0_preferredRoutes_85 ?_
                refine w_cv (y := (nI (m_ + 2 ^ i))) (or1 _ (by omega) i (by omega) (by omega)) ?_
                refine lv_istore (lv' := [(4, .int (nI (m_ + 2 ^ i))), (3, .int (nI (pq w d i))), (6, .int (nI (d * 4 + i))), (5, .int (nI (i))), (0, .ref (h)), (1, .int (nI (d))), (2, .int (st))]) hx hb dX0_preferredRoutes_86 hl (by decide) rfl (fun ls hl => ?_)
                refine n_iinc (a := i) (b := 1) (lv' := [(5, .int (nI (i + 1))), (4, .int (nI (m_ + 2 ^ i))), (3, .int (nI (pq w d i))), (6, .int (nI (d * 4 + i))), (0, .ref (h)), (1, .int (nI (d))), (2, .int (st))]) hx hb dX0_preferredRoutes_88 hl (k := 3) rfl rfl (by decide) rfl (fun ls hl => ?_)
                refine lv_goto (tgt := 8) hx hb dX0_preferredRoutes_91 (by decide) ?_
                exact ih (i + 1) (pq w d i) (m_ + 2 ^ i) ls (by omega) (by omega) (by rw [bmL_step he]; first | (rw [pfd_1 c_33, if_neg (by omega), if_neg (by omega)]; done) | (rw [pfd_2 c_43, if_neg (by omega), if_neg (by omega)]; done) | (rw [pfd_3 c_33 c_43, if_neg (by omega), if_neg (by omega)]; done) | (rw [pfd_3 c_33 c_43, if_pos (by omega), Nat.zero_add]; done) | (rw [pfd_3 c_33 c_43, if_neg (by omega), if_pos ⟨by omega, by omega⟩, show b = pq w d i by omega]; done)) (lv_sub hl [0, 1, 2, 4, 5, 6] rfl)
              · refine lv_iconst (v := (nI (0))) hx hb dX0_preferredRoutes_68 (by decide) ?_
                refine lv_istore (lv' := [(4, .int (nI (0))), (6, .int (nI (d * 4 + i))), (5, .int (nI (i))), (3, .int (nI (b))), (0, .ref (h)), (1, .int (nI (d))), (2, .int (st))]) hx hb dX0_preferredRoutes_69 hl (by decide) rfl (fun ls hl => ?_)
                refine lv_aload_n hx hb dX0_preferredRoutes_71 rfl (lv_at hl 4 rfl) ?_
                refine gt0 hx hb hts hown hC.1 hP 0 rfl 15 (by decide) qw53 rfl dX0_preferredRoutes_72 ?_
                refine lv_iload hx hb dX0_preferredRoutes_75 (lv_at hl 1 rfl) ?_
                refine n_iald hx hb hC.1 hP 6 0 rfl rfl (by omega) (by decide) dX0_preferredRoutes_77 ?_
                refine w_cv (y := (nI (pq w d i))) ((hR.p d hd6 i (by omega)).trans hpq.1) ?_
                refine lv_istore_n (lv' := [(3, .int (nI (pq w d i))), (4, .int (nI (0))), (6, .int (nI (d * 4 + i))), (5, .int (nI (i))), (0, .ref (h)), (1, .int (nI (d))), (2, .int (st))]) hx hb dX0_preferredRoutes_78 rfl hl (by decide) rfl (fun ls hl => ?_)
                refine lv_iload hx hb dX0_preferredRoutes_79 (lv_at hl 1 rfl) ?_
                refine lv_iconst (v := (nI (1))) hx hb dX0_preferredRoutes_81 (by decide) ?_
                refine lv_iload hx hb dX0_preferredRoutes_82 (lv_at hl 3 rfl) ?_
                refine lv_ishl hx hb dX0_preferredRoutes_84 ?_
                refine lv_ior hx hb dX0_preferredRoutes_85 ?_
                refine w_cv (y := (nI (0 + 2 ^ i))) (or1 _ (by omega) i (by omega) (by omega)) ?_
                refine lv_istore (lv' := [(4, .int (nI (0 + 2 ^ i))), (3, .int (nI (pq w d i))), (6, .int (nI (d * 4 + i))), (5, .int (nI (i))), (0, .ref (h)), (1, .int (nI (d))), (2, .int (st))]) hx hb dX0_preferredRoutes_86 hl (by decide) rfl (fun ls hl => ?_)
                refine n_iinc (a := i) (b := 1) (lv' := [(5, .int (nI (i + 1))), (4, .int (nI (0 + 2 ^ i))), (3, .int (nI (pq w d i))), (6, .int (nI (d * 4 + i))), (0, .ref (h)), (1, .int (nI (d))), (2, .int (st))]) hx hb dX0_preferredRoutes_88 hl (k := 3) rfl rfl (by decide) rfl (fun ls hl => ?_)
                refine lv_goto (tgt := 8) hx hb dX0_preferredRoutes_91 (by decide) ?_
                exact ih (i + 1) (pq w d i) (0 + 2 ^ i) ls (by omega) (by omega) (by rw [bmL_step he]; first | (rw [pfd_1 c_33, if_neg (by omega), if_neg (by omega)]; done) | (rw [pfd_2 c_43, if_neg (by omega), if_neg (by omega)]; done) | (rw [pfd_3 c_33 c_43, if_neg (by omega), if_neg (by omega)]; done) | (rw [pfd_3 c_33 c_43, if_pos (by omega), Nat.zero_add]; done) | (rw [pfd_3 c_33 c_43, if_neg (by omega), if_pos ⟨by omega, by omega⟩, show b = pq w d i by omega]; done)) (lv_sub hl [0, 1, 2, 4, 5, 6] rfl)
  exact lp_8 _ (0) (3) (0) ls (Nat.lt_succ_self _) (Nat.zero_le _) (rfl) (lv_sub hl [0, 1, 2, 3, 4, 5] rfl)

set_option maxHeartbeats 4000000 in
set_option maxRecDepth 100000 in
theorem c_X0_routesTo (l : Launch) (D : va_G) (cI cO : ClassId) (h : Nat) (a : Nat → Nat) (S : Nat → Nat → Int32) (w : Nat → Int32) (c0 : Nat) (hR : RC c0 S w) (d : Nat) (hd6 : d < 6) : Met l yX0_routesTo (Cond.code yX0_routesTo cX0_routesTo 3 (some .int) :: WL) ({ frames := 2, cells := 0, slots := 0, locals := 47 } : Room) (va_Pc [.ref (h), .int (nI (d))] (PR D cI cO (stW cI h a S))) (vp_Si (fun r => r = nI (rts w d))) 0 0 (fun _ => False) := by
  refine rd_int (by decide) (Nat.le_of_ble_eq_true rfl) ?_
  intro p e s m args below meth c Q ls F hP hC hret hl
  have hx := F.1
  have hb := F.2.1
  have hml := F.2.2.1
  have hown := F.2.2.2.1
  have hts := F.2.2.2.2
  replace hl : lv_has ls 3 [(0, .ref (h)), (1, .int (nI (d)))] := hl
  have hn4 := hR.wf.n.2
  have hq0 := pfm_lt (d := d) (st := nI 0) hR.wf
  refine lv_aload_n hx hb dX0_routesTo_0 rfl (lv_at hl 0 rfl) ?_
  refine lv_iload_n hx hb dX0_routesTo_1 rfl (lv_at hl 1 rfl) ?_
  refine lv_iconst (v := (nI (0))) hx hb dX0_routesTo_2 (by decide) ?_
  refine goR (kV (As := [.int (nI (d)), .int (nI (0))]) (rest := []) F (c_X0_preferredRoutes l D cI cO h a S w c0 hR (d) (nI (0)) (by omega) (by first | exact Or.inl rfl | exact Or.inr rfl)) ywX0_preferredRoutes qw216 qw218 qs13 ⟨rfl, rfl⟩ ⟨Nat.le_of_ble_eq_true rfl, Nat.le_of_ble_eq_true rfl⟩ (preV (preR hP hC) hC hP (ci := 0) (q0 := 0) rfl rfl rfl) rfl hl.1 rfl (Nat.le_of_ble_eq_true rfl) dX0_routesTo_3 ⟨Nat.zero_le _, Nat.zero_le _⟩) (fun r_3 h_3 => ?_)
  subst h_3
  refine lv_istore_n (lv' := [(2, .int (nI ((bmL 3 (pfd w d (nI (0))) (nn w)).2))), (0, .ref (h)), (1, .int (nI (d)))]) hx hb dX0_routesTo_6 rfl hl (by decide) rfl (fun ls hl => ?_)
  refine lv_iload_n hx hb dX0_routesTo_7 rfl (lv_at hl 0 rfl) ?_
  refine n_if_eq (tgt := 15) hx hb dX0_routesTo_8 (by decide) (by omega) (fun c_8 => ?_) (fun c_8 => ?_)
  · refine lv_aload_n hx hb dX0_routesTo_15 rfl (lv_at hl 1 rfl) ?_
    refine lv_iload_n hx hb dX0_routesTo_16 rfl (lv_at hl 2 rfl) ?_
    refine lv_iconst (v := (nI (1))) hx hb dX0_routesTo_17 (by decide) ?_
    refine goR (kV (As := [.int (nI (d)), .int (nI (1))]) (rest := []) F (c_X0_preferredRoutes l D cI cO h a S w c0 hR (d) (nI (1)) (by omega) (by first | exact Or.inl rfl | exact Or.inr rfl)) ywX0_preferredRoutes qw216 qw218 qs13 ⟨rfl, rfl⟩ ⟨Nat.le_of_ble_eq_true rfl, Nat.le_of_ble_eq_true rfl⟩ (preV (preR hP hC) hC hP (ci := 0) (q0 := 0) rfl rfl rfl) rfl hl.1 rfl (Nat.le_of_ble_eq_true rfl) dX0_routesTo_18 ⟨Nat.zero_le _, Nat.zero_le _⟩) (fun r_18 h_18 => ?_)
    subst h_18
    exact hret _ _ ls (by rw [rts_pf hR.wf hd6]; first | rw [if_pos c_8] | rw [if_neg c_8]) dX0_routesTo_21
  · refine lv_iload_n hx hb dX0_routesTo_11 rfl (lv_at hl 0 rfl) ?_
    refine lv_goto (tgt := 21) hx hb dX0_routesTo_12 (by decide) ?_
    exact hret _ _ ls (by rw [rts_pf hR.wf hd6]; first | rw [if_pos c_8] | rw [if_neg c_8]) dX0_routesTo_21

set_option maxHeartbeats 4000000 in
set_option maxRecDepth 100000 in
theorem c_J6_bitCount_0f7a4 (l : Launch) (D : va_G) (cI cO : ClassId) (m_ : Nat) (hm : m_ < 16) : Met l yJ6_bitCount_0f7a4 (Cond.code yJ6_bitCount_0f7a4 cJ6_bitCount_0f7a4 1 (some .int) :: WL) ({ frames := 0, cells := 0, slots := 0, locals := 0 } : Room) (va_Pc [.int (nI (m_))] (PR D cI cO ([]))) (vp_Si (fun r => r = nI (pc4 m_))) 0 0 (fun _ => False) := by
  refine rd_int (by decide) (Nat.le_of_ble_eq_true rfl) ?_
  intro p e s m args below meth c Q ls F hP hC hret hl
  have hx := F.1
  have hb := F.2.1
  have hml := F.2.2.1
  have hown := F.2.2.2.1
  have hts := F.2.2.2.2
  replace hl : lv_has ls 1 [(0, .int (nI (m_)))] := hl
  refine lv_iload_n hx hb dJ6_bitCount_0f7a4_0 rfl (lv_at hl 0 rfl) ?_
  refine lv_iload_n hx hb dJ6_bitCount_0f7a4_1 rfl (lv_at hl 0 rfl) ?_
  refine lv_iconst (v := (nI (1))) hx hb dJ6_bitCount_0f7a4_2 (by decide) ?_
  refine lv_iushr (v := (Int32.toUInt32 (nI (m_)) >>> (Int32.toUInt32 (nI (1)) &&& Int32.toUInt32 31)).toInt32) hx hb dJ6_bitCount_0f7a4_3 rfl ?_
  refine lv_ldcw (own := "java/lang/Integer") (v := 1431655765) hx hb hown (hts _ qw230) dJ6_bitCount_0f7a4_4 ?_
  refine lv_iand hx hb dJ6_bitCount_0f7a4_7 ?_
  refine lv_isub hx hb dJ6_bitCount_0f7a4_8  ?_
  refine w_cv (y := (bcA (nI m_))) rfl ?_
  refine lv_istore_n (lv' := [(0, .int (bcA (nI m_)))]) hx hb dJ6_bitCount_0f7a4_9 rfl hl (by decide) rfl (fun ls hl => ?_)
  refine lv_iload_n hx hb dJ6_bitCount_0f7a4_10 rfl (lv_at hl 0 rfl) ?_
  refine lv_ldcw (own := "java/lang/Integer") (v := 858993459) hx hb hown (hts _ qw231) dJ6_bitCount_0f7a4_11 ?_
  refine lv_iand hx hb dJ6_bitCount_0f7a4_14 ?_
  refine lv_iload_n hx hb dJ6_bitCount_0f7a4_15 rfl (lv_at hl 0 rfl) ?_
  refine lv_iconst (v := (nI (2))) hx hb dJ6_bitCount_0f7a4_16 (by decide) ?_
  refine lv_iushr (v := (Int32.toUInt32 (bcA (nI m_)) >>> (Int32.toUInt32 (nI (2)) &&& Int32.toUInt32 31)).toInt32) hx hb dJ6_bitCount_0f7a4_17 rfl ?_
  refine lv_ldcw (own := "java/lang/Integer") (v := 858993459) hx hb hown (hts _ qw231) dJ6_bitCount_0f7a4_18 ?_
  refine lv_iand hx hb dJ6_bitCount_0f7a4_21 ?_
  refine lv_iadd hx hb dJ6_bitCount_0f7a4_22  ?_
  refine w_cv (y := (bcB (bcA (nI m_)))) rfl ?_
  refine lv_istore_n (lv' := [(0, .int (bcB (bcA (nI m_))))]) hx hb dJ6_bitCount_0f7a4_23 rfl hl (by decide) rfl (fun ls hl => ?_)
  refine lv_iload_n hx hb dJ6_bitCount_0f7a4_24 rfl (lv_at hl 0 rfl) ?_
  refine lv_iload_n hx hb dJ6_bitCount_0f7a4_25 rfl (lv_at hl 0 rfl) ?_
  refine lv_iconst (v := (nI (4))) hx hb dJ6_bitCount_0f7a4_26 (by decide) ?_
  refine lv_iushr (v := (Int32.toUInt32 (bcB (bcA (nI m_))) >>> (Int32.toUInt32 (nI (4)) &&& Int32.toUInt32 31)).toInt32) hx hb dJ6_bitCount_0f7a4_27 rfl ?_
  refine lv_iadd hx hb dJ6_bitCount_0f7a4_28  ?_
  refine lv_ldcw (own := "java/lang/Integer") (v := 252645135) hx hb hown (hts _ qw232) dJ6_bitCount_0f7a4_29 ?_
  refine lv_iand hx hb dJ6_bitCount_0f7a4_32 ?_
  refine w_cv (y := (bcC (bcB (bcA (nI m_))))) rfl ?_
  refine lv_istore_n (lv' := [(0, .int (bcC (bcB (bcA (nI m_)))))]) hx hb dJ6_bitCount_0f7a4_33 rfl hl (by decide) rfl (fun ls hl => ?_)
  refine lv_iload_n hx hb dJ6_bitCount_0f7a4_34 rfl (lv_at hl 0 rfl) ?_
  refine lv_iload_n hx hb dJ6_bitCount_0f7a4_35 rfl (lv_at hl 0 rfl) ?_
  refine lv_bipush (v := (nI (8))) hx hb dJ6_bitCount_0f7a4_36 (by decide) ?_
  refine lv_iushr (v := (Int32.toUInt32 (bcC (bcB (bcA (nI m_)))) >>> (Int32.toUInt32 (nI (8)) &&& Int32.toUInt32 31)).toInt32) hx hb dJ6_bitCount_0f7a4_38 rfl ?_
  refine lv_iadd hx hb dJ6_bitCount_0f7a4_39  ?_
  refine w_cv (y := (bcD (bcC (bcB (bcA (nI m_)))))) rfl ?_
  refine lv_istore_n (lv' := [(0, .int (bcD (bcC (bcB (bcA (nI m_))))))]) hx hb dJ6_bitCount_0f7a4_40 rfl hl (by decide) rfl (fun ls hl => ?_)
  refine lv_iload_n hx hb dJ6_bitCount_0f7a4_41 rfl (lv_at hl 0 rfl) ?_
  refine lv_iload_n hx hb dJ6_bitCount_0f7a4_42 rfl (lv_at hl 0 rfl) ?_
  refine lv_bipush (v := (nI (16))) hx hb dJ6_bitCount_0f7a4_43 (by decide) ?_
  refine lv_iushr (v := (Int32.toUInt32 (bcD (bcC (bcB (bcA (nI m_))))) >>> (Int32.toUInt32 (nI (16)) &&& Int32.toUInt32 31)).toInt32) hx hb dJ6_bitCount_0f7a4_45 rfl ?_
  refine lv_iadd hx hb dJ6_bitCount_0f7a4_46  ?_
  refine w_cv (y := (bcE (bcD (bcC (bcB (bcA (nI m_))))))) rfl ?_
  refine lv_istore_n (lv' := [(0, .int (bcE (bcD (bcC (bcB (bcA (nI m_)))))))]) hx hb dJ6_bitCount_0f7a4_47 rfl hl (by decide) rfl (fun ls hl => ?_)
  refine lv_iload_n hx hb dJ6_bitCount_0f7a4_48 rfl (lv_at hl 0 rfl) ?_
  refine lv_bipush (v := (nI (63))) hx hb dJ6_bitCount_0f7a4_49 (by decide) ?_
  refine lv_iand hx hb dJ6_bitCount_0f7a4_51 ?_
  exact hret _ _ ls (bc16 m_ hm) dJ6_bitCount_0f7a4_52

set_option maxHeartbeats 4000000 in
set_option maxRecDepth 100000 in
theorem c_X2_setBit (l : Launch) (D : va_G) (cI cO : ClassId) (m_ i : Nat) (hm : m_ < 16) (hi : i < pc4 m_) : Met l yX2_setBit (Cond.code yX2_setBit cX2_setBit 4 (some .int) :: WL) ({ frames := 0, cells := 0, slots := 0, locals := 0 } : Room) (va_Pc [.int (nI (m_)), .int (nI (i))] (PR D cI cO ([]))) (vp_Si (fun r => r = nI (sb4 m_ i))) 0 0 (fun _ => False) := by
  refine rd_int (by decide) (Nat.le_of_ble_eq_true rfl) ?_
  intro p e s m args below meth c Q ls F hP hC hret hl
  have hx := F.1
  have hb := F.2.1
  have hml := F.2.2.1
  have hown := F.2.2.2.1
  have hts := F.2.2.2.2
  replace hl : lv_has ls 4 [(0, .int (nI (m_))), (1, .int (nI (i)))] := hl
  have hp4 := (pc4_le m_ hm).1
  refine lv_iload_n hx hb dX2_setBit_0 rfl (lv_at hl 1 rfl) ?_
  refine lv_istore_n (lv' := [(2, .int (nI (i))), (0, .int (nI (m_))), (1, .int (nI (i)))]) hx hb dX2_setBit_1 rfl hl (by decide) rfl (fun ls hl => ?_)
  refine lv_iconst (v := (nI (0))) hx hb dX2_setBit_2 (by decide) ?_
  refine lv_istore_n (lv' := [(3, .int (nI (0))), (2, .int (nI (i))), (0, .int (nI (m_))), (1, .int (nI (i)))]) hx hb dX2_setBit_3 rfl hl (by decide) rfl (fun ls hl => ?_)
  have lp_4 : ∀ (fu : Nat) (q : Nat) (lf : Nat) (ls : Array Slot), 4 - q < fu → q ≤ 3 → cb m_ q ≤ i → lf = i - cb m_ q → lv_has ls 4 [(3, .int (nI (q))), (2, .int (nI (lf))), (0, .int (nI (m_))), (1, .int (nI (i)))] → W p l e ({ frames := 0, cells := 0, slots := 0, locals := 0 } : Room) s m args below meth c s.heap [] 0 0 Q (F0 m 4 ls []) := by
    intro fu
    induction fu with
    | zero => intro q lf ls hmu; exact absurd hmu (Nat.not_lt_zero _)
    | succ fu ih =>
      intro q lf ls hmu hq hc1 hlf hl
      refine lv_iload_n hx hb dX2_setBit_4 rfl (lv_at hl 0 rfl) ?_
      refine lv_iconst (v := (nI (3))) hx hb dX2_setBit_5 (by decide) ?_
      refine n_icmp_ge (tgt := 33) hx hb dX2_setBit_6 (by decide) (by omega) (by omega) (fun c_6 => ?_) (fun c_6 => ?_)
      · refine lv_iconst (v := (nI (3))) hx hb dX2_setBit_33 (by decide) ?_
        exact hret _ _ ls (by rw [sb4_end m_ hm i (by omega) hi (by rw [show 3 = q by omega]; exact hc1)]) dX2_setBit_34
      · have ht01 := tb_01 m_ q
        refine lv_iload_n hx hb dX2_setBit_9 rfl (lv_at hl 2 rfl) ?_
        refine lv_iload_n hx hb dX2_setBit_10 rfl (lv_at hl 0 rfl) ?_
        refine lv_ishr hx hb dX2_setBit_11 ?_
        refine lv_iconst (v := (nI (1))) hx hb dX2_setBit_12 (by decide) ?_
        refine lv_iand hx hb dX2_setBit_13 ?_
        refine w_cv (y := (nI (tb m_ q))) (shr1 _ hm q (by omega)) ?_
        refine lv_iconst (v := (nI (1))) hx hb dX2_setBit_14 (by decide) ?_
        refine n_icmp_ne (tgt := 27) hx hb dX2_setBit_15 (by decide) (by omega) (by omega) (fun c_15 => ?_) (fun c_15 => ?_)
        · refine n_iinc (a := q) (b := 1) (lv' := [(3, .int (nI (q + 1))), (2, .int (nI (lf))), (0, .int (nI (m_))), (1, .int (nI (i)))]) hx hb dX2_setBit_27 hl (k := 0) rfl rfl (by decide) rfl (fun ls hl => ?_)
          refine lv_goto (tgt := 4) hx hb dX2_setBit_30 (by decide) ?_
          exact ih (q + 1) (lf) ls (by omega) (by omega) (by simp only [cb]; omega) (by simp only [cb]; omega) (lv_sub hl [0, 1, 2, 3] rfl)
        · refine lv_iload_n hx hb dX2_setBit_18 rfl (lv_at hl 1 rfl) ?_
          refine n_if_ne (tgt := 24) hx hb dX2_setBit_19 (by decide) (by omega) (fun c_19 => ?_) (fun c_19 => ?_)
          · refine lv_iinc (v := (nI (lf - 1))) (lv' := [(2, .int (nI (lf - 1))), (3, .int (nI (q))), (0, .int (nI (m_))), (1, .int (nI (i)))]) hx hb dX2_setBit_24 hl (k := 1) rfl (by rw [show Int32.ofInt (-1) = -1 from by decide]; exact sb_m1 (by omega)) (by decide) rfl (fun ls hl => ?_)
            refine n_iinc (a := q) (b := 1) (lv' := [(3, .int (nI (q + 1))), (2, .int (nI (lf - 1))), (0, .int (nI (m_))), (1, .int (nI (i)))]) hx hb dX2_setBit_27 hl (k := 1) rfl rfl (by decide) rfl (fun ls hl => ?_)
            refine lv_goto (tgt := 4) hx hb dX2_setBit_30 (by decide) ?_
            exact ih (q + 1) (lf - 1) ls (by omega) (by omega) (by simp only [cb]; omega) (by simp only [cb]; omega) (lv_sub hl [0, 1, 2, 3] rfl)
          · refine lv_iload_n hx hb dX2_setBit_22 rfl (lv_at hl 0 rfl) ?_
            exact hret _ _ ls (by rw [sb4_at m_ hm i (by omega) q (by omega) c_15 (by omega)]) dX2_setBit_23
  exact lp_4 _ (0) (i) ls (Nat.lt_succ_self _) (by omega) (by simp [cb]) (by simp [cb]) (lv_sub hl [0, 1, 2, 3] rfl)

set_option maxHeartbeats 4000000 in
set_option maxRecDepth 100000 in
theorem c_X0_linkOver (l : Launch) (D : va_G) (cI cO : ClassId) (h : Nat) (a : Nat → Nat) (S : Nat → Nat → Int32) (w : Nat → Int32) (c0 : Nat) (hR : RC c0 S w) (m_ k : Nat) (hm : m_ < 16) (hk : k < 16) (hmt : ∀ i, i < 4 → tb m_ i = 1 → ¬ am w i = 0) : Met l yX0_linkOver (Cond.code yX0_linkOver cX0_linkOver 6 (some .int) :: WL) ({ frames := 1, cells := 0, slots := 0, locals := 23 } : Room) (va_Pc [.ref (h), .int (nI (m_)), .int (nI (k))] (PR D cI cO (stW cI h a S))) (vp_Si (fun r => r = lkm w m_ k)) 0 0 (fun _ => False) := by
  refine rd_int (by decide) (Nat.le_of_ble_eq_true rfl) ?_
  intro p e s m args below meth c Q ls F hP hC hret hl
  have hx := F.1
  have hb := F.2.1
  have hml := F.2.2.1
  have hown := F.2.2.2.1
  have hts := F.2.2.2.2
  replace hl : lv_has ls 6 [(0, .ref (h)), (1, .int (nI (m_))), (2, .int (nI (k)))] := hl
  have hn4 := hR.wf.n.2
  have hp4 := pc4_le m_ hm
  refine lv_iload_n hx hb dX0_linkOver_0 rfl (lv_at hl 1 rfl) ?_
  refine goR (kS (As := [.int (nI (m_))]) (rest := []) F (c_J6_bitCount_0f7a4 l D cI cO (m_) (by omega)) ywJ6_bitCount_0f7a4 qw227 qw228  ⟨rfl, rfl⟩ ⟨Nat.le_of_ble_eq_true rfl, Nat.le_of_ble_eq_true rfl⟩ (preR (fun k q h => by simp at h) hC) rfl hl.1 rfl (Nat.le_of_ble_eq_true rfl) dX0_linkOver_1 ⟨Nat.zero_le _, Nat.zero_le _⟩) (fun r_1 h_1 => ?_)
  subst h_1
  refine lv_istore_n (lv' := [(3, .int (nI (pc4 m_))), (0, .ref (h)), (1, .int (nI (m_))), (2, .int (nI (k)))]) hx hb dX0_linkOver_4 rfl hl (by decide) rfl (fun ls hl => ?_)
  refine lv_iload_n hx hb dX0_linkOver_5 rfl (lv_at hl 0 rfl) ?_
  refine n_if_ne (tgt := 11) hx hb dX0_linkOver_6 (by decide) (by omega) (fun c_6 => ?_) (fun c_6 => ?_)
  · refine lv_iload_n hx hb dX0_linkOver_11 rfl (lv_at hl 2 rfl) ?_
    refine lv_iload_n hx hb dX0_linkOver_12 rfl (lv_at hl 3 rfl) ?_
    refine lv_iload_n hx hb dX0_linkOver_13 rfl (lv_at hl 0 rfl) ?_
    refine n_irem hx hb dX0_linkOver_14 (by omega) (by omega) (by omega) ?_
    refine goR (kSN (As := [.int (nI (m_)), .int (nI (k % (pc4 m_)))]) (rest := []) F (c_X2_setBit l D cI cO (m_) (k % (pc4 m_)) (by omega) (Nat.mod_lt _ (by omega))) ywX2_setBit (hC.2.2 _ (List.mem_of_getElem? (i := 12) rfl)) qw234  ⟨rfl, rfl⟩ ⟨Nat.le_of_ble_eq_true rfl, Nat.le_of_ble_eq_true rfl⟩ (preR (fun k q h => by simp at h) hC) rfl hl.1 rfl (Nat.le_of_ble_eq_true rfl) dX0_linkOver_15 ⟨Nat.zero_le _, Nat.zero_le _⟩) (fun r_15 h_15 => ?_)
    subst h_15
    refine w_cv (y := (nI (lks w m_ k))) rfl ?_
    obtain ⟨hs1, hs2, -⟩ := sb4_tb m_ hm (k % pc4 m_) (by have := Nat.mod_lt k (show 0 < pc4 m_ by omega); omega) (Nat.mod_lt _ (by omega))
    replace hs2 : lks w m_ k < 4 := hs2
    have hs3 : ¬ am w (lks w m_ k) = 0 := hmt _ hs2 hs1
    have ham := am_lt hR.wf hs2
    have hpa := pc4_le _ ham
    refine lv_istore (lv' := [(4, .int (nI (lks w m_ k))), (3, .int (nI (pc4 m_))), (0, .ref (h)), (1, .int (nI (m_))), (2, .int (nI (k)))]) hx hb dX0_linkOver_18 hl (by decide) rfl (fun ls hl => ?_)
    refine lv_aload_n hx hb dX0_linkOver_20 rfl (lv_at hl 2 rfl) ?_
    refine gt0 hx hb hts hown hC.1 hP 0 rfl 11 (by decide) qw46 rfl dX0_linkOver_21 ?_
    refine lv_iload hx hb dX0_linkOver_24 (lv_at hl 0 rfl) ?_
    refine n_iald hx hb hC.1 hP 2 0 rfl rfl (by omega) (by decide) dX0_linkOver_26 ?_
    refine w_cv (y := (nI (am w (lks w m_ k)))) (hR.a _ hs2) ?_
    refine goR (kS (As := [.int (nI (am w (lks w m_ k)))]) (rest := []) F (c_J6_bitCount_0f7a4 l D cI cO (am w (lks w m_ k)) (by omega)) ywJ6_bitCount_0f7a4 qw227 qw228  ⟨rfl, rfl⟩ ⟨Nat.le_of_ble_eq_true rfl, Nat.le_of_ble_eq_true rfl⟩ (preR (fun k q h => by simp at h) hC) rfl hl.1 rfl (Nat.le_of_ble_eq_true rfl) dX0_linkOver_27 ⟨Nat.zero_le _, Nat.zero_le _⟩) (fun r_27 h_27 => ?_)
    subst h_27
    refine lv_istore (lv' := [(5, .int (nI (pc4 (am w (lks w m_ k))))), (4, .int (nI (lks w m_ k))), (3, .int (nI (pc4 m_))), (0, .ref (h)), (1, .int (nI (m_))), (2, .int (nI (k)))]) hx hb dX0_linkOver_30 hl (by decide) rfl (fun ls hl => ?_)
    refine lv_iload hx hb dX0_linkOver_32 (lv_at hl 0 rfl) ?_
    refine n_if_ne (tgt := 39) hx hb dX0_linkOver_34 (by decide) (by omega) (fun c_34 => ?_) (fun c_34 => ?_)
    · refine lv_iload hx hb dX0_linkOver_39 (lv_at hl 1 rfl) ?_
      refine lv_aload_n hx hb dX0_linkOver_41 rfl (lv_at hl 3 rfl) ?_
      refine gt0 hx hb hts hown hC.1 hP 0 rfl 11 (by decide) qw46 rfl dX0_linkOver_42 ?_
      refine lv_iload hx hb dX0_linkOver_45 (lv_at hl 1 rfl) ?_
      refine n_iald hx hb hC.1 hP 2 0 rfl rfl (by omega) (by decide) dX0_linkOver_47 ?_
      refine w_cv (y := (nI (am w (lks w m_ k)))) (hR.a _ hs2) ?_
      refine lv_iload_n hx hb dX0_linkOver_48 rfl (lv_at hl 5 rfl) ?_
      refine lv_iload_n hx hb dX0_linkOver_49 rfl (lv_at hl 2 rfl) ?_
      refine n_idiv hx hb dX0_linkOver_50 (by omega) (by omega) (by omega) ?_
      refine lv_iload hx hb dX0_linkOver_51 (lv_at hl 0 rfl) ?_
      refine n_irem hx hb dX0_linkOver_53 (by have := Nat.div_le_self k (pc4 m_); omega) (by omega) (by omega) ?_
      refine goR (kSN (As := [.int (nI (am w (lks w m_ k))), .int (nI ((k / (pc4 m_)) % (pc4 (am w (lks w m_ k)))))]) (rest := [.int (nI (lks w m_ k))]) F (c_X2_setBit l D cI cO (am w (lks w m_ k)) ((k / (pc4 m_)) % (pc4 (am w (lks w m_ k)))) (by omega) (Nat.mod_lt _ (by omega))) ywX2_setBit (hC.2.2 _ (List.mem_of_getElem? (i := 12) rfl)) qw234  ⟨rfl, rfl⟩ ⟨Nat.le_of_ble_eq_true rfl, Nat.le_of_ble_eq_true rfl⟩ (preR (fun k q h => by simp at h) hC) rfl hl.1 rfl (Nat.le_of_ble_eq_true rfl) dX0_linkOver_54 ⟨Nat.zero_le _, Nat.zero_le _⟩) (fun r_54 h_54 => ?_)
      subst h_54
      refine goR (kSN (As := [.int (nI (lks w m_ k)), .int (nI (sb4 (am w (lks w m_ k)) ((k / (pc4 m_)) % (pc4 (am w (lks w m_ k))))))]) (rest := []) F (c_X2_linkPlace l D cI cO (lks w m_ k) (sb4 (am w (lks w m_ k)) ((k / (pc4 m_)) % (pc4 (am w (lks w m_ k)))))) ywX2_linkPlace (hC.2.2 _ (List.mem_of_getElem? (i := 9) rfl)) qw196  ⟨rfl, rfl⟩ ⟨Nat.le_of_ble_eq_true rfl, Nat.le_of_ble_eq_true rfl⟩ (preR (fun k q h => by simp at h) hC) rfl hl.1 rfl (Nat.le_of_ble_eq_true rfl) dX0_linkOver_57 ⟨Nat.zero_le _, Nat.zero_le _⟩) (fun r_57 h_57 => ?_)
      subst h_57
      exact hret _ _ ls (by unfold lkm; rw [if_neg (by omega)]; rfl) dX0_linkOver_60
    · exact absurd c_34 (by omega)
  · refine lv_iconst (v := (-1)) hx hb dX0_linkOver_9 (by decide) ?_
    exact hret _ _ ls (by unfold lkm; rw [if_pos (by omega)]) dX0_linkOver_10

set_option maxHeartbeats 4000000 in
set_option maxRecDepth 100000 in
theorem c_X0_linkOfStream (l : Launch) (D : va_G) (cI cO : ClassId) (h : Nat) (a : Nat → Nat) (S : Nat → Nat → Int32) (w : Nat → Int32) (c0 : Nat) (hR : RC c0 S w) (k : Nat) (hk : k < 96) : Met l yX0_linkOfStream (Cond.code yX0_linkOfStream cX0_linkOfStream 2 (some .int) :: WL) ({ frames := 3, cells := 0, slots := 0, locals := 69 } : Room) (va_Pc [.ref (h), .int (nI (k))] (PR D cI cO (stW cI h a S))) (vp_Si (fun r => r = lk w k)) 0 0 (fun _ => False) := by
  refine rd_int (by decide) (Nat.le_of_ble_eq_true rfl) ?_
  intro p e s m args below meth c Q ls F hP hC hret hl
  have hx := F.1
  have hb := F.2.1
  have hml := F.2.2.1
  have hown := F.2.2.2.1
  have hts := F.2.2.2.2
  replace hl : lv_has ls 2 [(0, .ref (h)), (1, .int (nI (k)))] := hl
  have hn4 := hR.wf.n.2
  refine lv_aload_n hx hb dX0_linkOfStream_0 rfl (lv_at hl 0 rfl) ?_
  refine lv_aload_n hx hb dX0_linkOfStream_1 rfl (lv_at hl 0 rfl) ?_
  refine lv_iload_n hx hb dX0_linkOfStream_2 rfl (lv_at hl 1 rfl) ?_
  refine lv_bipush (v := (nI (16))) hx hb dX0_linkOfStream_3 (by decide) ?_
  refine n_idiv hx hb dX0_linkOfStream_5 (by omega) (by omega) (by omega) ?_
  refine goR (kV (As := [.int (nI (k / 16))]) (rest := [.ref (h)]) F (c_X0_routesTo l D cI cO h a S w c0 hR (k / 16) (by omega)) ywX0_routesTo qw212 qw214 qs12 ⟨rfl, rfl⟩ ⟨Nat.le_of_ble_eq_true rfl, Nat.le_of_ble_eq_true rfl⟩ (preV (preR hP hC) hC hP (ci := 0) (q0 := 0) rfl rfl rfl) rfl hl.1 rfl (Nat.le_of_ble_eq_true rfl) dX0_linkOfStream_6 ⟨Nat.zero_le _, Nat.zero_le _⟩) (fun r_6 h_6 => ?_)
  subst h_6
  refine lv_iload_n hx hb dX0_linkOfStream_9 rfl (lv_at hl 1 rfl) ?_
  refine lv_bipush (v := (nI (16))) hx hb dX0_linkOfStream_10 (by decide) ?_
  refine n_irem hx hb dX0_linkOfStream_12 (by omega) (by omega) (by omega) ?_
  refine goR (kV (As := [.int (nI (rts w (k / 16))), .int (nI (k % 16))]) (rest := []) F (c_X0_linkOver l D cI cO h a S w c0 hR (rts w (k / 16)) (k % 16) (rts_lt hR.wf _) (by omega) (fun i hi ht => (rts_tb hR.wf hi ht).2)) ywX0_linkOver qw223 qw225 qs14 ⟨rfl, rfl⟩ ⟨Nat.le_of_ble_eq_true rfl, Nat.le_of_ble_eq_true rfl⟩ (preV (preR hP hC) hC hP (ci := 0) (q0 := 0) rfl rfl rfl) rfl hl.1 rfl (Nat.le_of_ble_eq_true rfl) dX0_linkOfStream_13 ⟨Nat.zero_le _, Nat.zero_le _⟩) (fun r_13 h_13 => ?_)
  subst h_13
  exact hret _ _ ls (rfl) dX0_linkOfStream_16
end
section
theorem sup_ne {f : Nat → Nat → Int32} {k j : Nat} {v : Nat → Int32} (h : j ≠ k) : va_up f k v j = f j := if_neg h
theorem sup_eq {f : Nat → Nat → Int32} {k : Nat} {v : Nat → Int32} : va_up f k v k = v := if_pos rfl
theorem upd_eq {f : Nat → Int32} {k : Nat} {x : Int32} : upd f k x k = x := if_pos rfl
theorem RC.m0 {c : Nat} {S : Nat → Nat → Int32} {w : Nat → Int32} (h : RC c S w) : ∀ i, i < 4 → S 10 i = w (1 + i) := h.2.2.1
theorem RC.l0 {c : Nat} {S : Nat → Nat → Int32} {w : Nat → Int32} (h : RC c S w) : ∀ p, p < 16 → S 12 p = w (21 + p) := h.2.2.2.2.1
theorem okM_mono {x : Int32} {s s' : Nat} (h : okM x s) (hs : s ≤ s') : okM x s' := by
  obtain ⟨a, k, h1, h2, h3⟩ := h
  exact ⟨a, k, by omega, h2, h3⟩
theorem nI_ok {n : Nat} (h : n < 2 ^ 31) : nI n = nI (nv (nI n)) := by rw [nv_nI h]
theorem trm_ok {a k : Nat} (ha : a < 1000) (hk : k < 96) : trm (nI (128 * a + k)) = nI (a * 96 + k) := by
  unfold trm
  rw [nv_nI (by omega), show (128 * a + k) / 128 = a by omega, show (128 * a + k) % 128 = k by omega]
theorem trg_ok {a k : Nat} (ha : a < 1000) (hk : k < 96) : trg (nI (128 * a + k)) = nI a := by
  unfold trg
  rw [if_neg (m1_ne (by omega)), nv_nI (by omega), show (128 * a + k) / 128 = a by omega]
theorem WF.mono {c c' : Nat} {w : Nat → Int32} (h : WF c w) (hc : c ≤ c') : WF c' w := ⟨h.n, h.m, h.a, h.a0, h.l, h.l0, h.q, h.s, h.p, fun k hk => ⟨(h.u k hk).1, Nat.le_trans (h.u k hk).2.1 (by omega), (h.u k hk).2.2⟩, h.h, h.b, h.g, ⟨h.t.1, Nat.le_trans h.t.2 hc⟩, h.d, h.e.1, Nat.le_trans h.e.2 hc⟩
theorem RC.mono {c c' : Nat} {S : Nat → Nat → Int32} {w : Nat → Int32} (h : RC c S w) (hc : c ≤ c') : RC c' S w := ⟨h.wf.mono hc, h.2⟩
set_option maxHeartbeats 1000000 in
theorem RC_inc3 {c : Nat} {S : Nat → Nat → Int32} {w : Nat → Int32}  (hR : RC c S w) : RC (c) (va_up S 3 (fun _ => S 3 0 + nI 1)) (upd w 465 (w 465 + nI 1)) := by
  have h := hR.wf
  refine ⟨⟨(by
      try simp (disch := omega) only [nn, mn, ac, le, pq, un, he, tm, hd, sn, am, pk_un, sup_ne] at ⊢
      exact h.n ),
    (fun i hi => by
      try simp (disch := omega) only [nn, mn, ac, le, pq, un, he, tm, hd, sn, am, pk_un, sup_ne] at ⊢
      exact h.m i hi),
    (fun p hp => by
      try simp (disch := omega) only [nn, mn, ac, le, pq, un, he, tm, hd, sn, am, pk_un, sup_ne] at ⊢
      exact h.a p hp),
    (fun i hi j hj hij => by
      try simp (disch := omega) only [nn, mn, ac, le, pq, un, he, tm, hd, sn, am, pk_un, sup_ne] at hij ⊢
      exact h.a0 i hi j hj hij),
    (fun p hp => by
      try simp (disch := omega) only [nn, mn, ac, le, pq, un, he, tm, hd, sn, am, pk_un, sup_ne] at ⊢
      exact h.l p hp),
    (fun p hp hn0 => by
      try simp (disch := omega) only [nn, mn, ac, le, pq, un, he, tm, hd, sn, am, pk_un, sup_ne] at hn0 ⊢
      exact h.l0 p hp hn0),
    (fun p hp j hj => by
      have hb10 : nv (w (21 + p)) ≤ 10 := (h.l p hp).2
      try simp (disch := omega) only [nn, mn, ac, le, pq, un, he, tm, hd, sn, am, pk_un, sup_ne] at hj
      try simp (disch := omega) only [nn, mn, ac, le, pq, un, he, tm, hd, sn, am, pk_un, sup_ne]
      exact h.q p hp j hj),
    (fun d hd6 i hi => by
      try simp (disch := omega) only [nn, mn, ac, le, pq, un, he, tm, hd, sn, am, pk_un, sup_ne] at ⊢
      exact h.s d hd6 i hi),
    (fun d hd6 i hi hne => by
      try simp (disch := omega) only [nn, mn, ac, le, pq, un, he, tm, hd, sn, am, pk_un, sup_ne] at hne ⊢
      exact h.p d hd6 i hi hne),
    (fun k hk => by
      try simp (disch := omega) only [nn, mn, ac, le, pq, un, he, tm, hd, sn, am, pk_un, sup_ne] at ⊢
      exact h.u k hk),
    (by
      try simp (disch := omega) only [nn, mn, ac, le, pq, un, he, tm, hd, sn, am, pk_un, sup_ne] at ⊢
      exact h.h ),
    (fun j hj => by
      have hb24 : nv (w 341) ≤ 24 := h.h.2
      try simp (disch := omega) only [nn, mn, ac, le, pq, un, he, tm, hd, sn, am, pk_un, sup_ne] at hj
      try simp (disch := omega) only [nn, mn, ac, le, pq, un, he, tm, hd, sn, am, pk_un, sup_ne]
      exact h.b j hj),
    (fun k hk => by
      try simp (disch := omega) only [nn, mn, ac, le, pq, un, he, tm, hd, sn, am, pk_un, sup_ne] at ⊢
      exact h.g k hk),
    (by
      try simp (disch := omega) only [nn, mn, ac, le, pq, un, he, tm, hd, sn, am, pk_un, sup_ne] at ⊢
      exact h.t ),
    (by
      try simp (disch := omega) only [nn, mn, ac, le, pq, un, he, tm, hd, sn, am, pk_un, sup_ne] at ⊢
      exact h.d ),
    (by
      try simp (disch := omega) only [nn, mn, ac, le, pq, un, he, tm, hd, sn, am, pk_un, sup_ne] at ⊢
      exact h.e )⟩,
    ⟨(by rw [sup_ne (by decide), pk_un (by decide)]; exact hR.i.1), (by rw [sup_ne (by decide), pk_un (by decide)]; exact hR.i.2.1), (by rw [sup_ne (by decide), pk_un (by decide)]; exact hR.i.2.2.1), (by rw [sup_eq, upd_eq, hR.i.2.2.2.1]), (by rw [sup_ne (by decide), pk_un (by decide)]; exact hR.i.2.2.2.2.1), (by rw [sup_ne (by decide), pk_un (by decide)]; exact hR.i.2.2.2.2.2.1), (by rw [sup_ne (by decide), pk_un (by decide)]; exact hR.i.2.2.2.2.2.2.1), (by rw [sup_ne (by decide), pk_un (by decide)]; exact hR.i.2.2.2.2.2.2.2.1), (by rw [sup_ne (by decide), pk_un (by decide)]; exact hR.i.2.2.2.2.2.2.2.2.1), (by rw [sup_ne (by decide), pk_un (by decide)]; exact hR.i.2.2.2.2.2.2.2.2.2)⟩,
    (fun i hi => by
      try simp (disch := omega) only [nn, mn, ac, le, pq, un, he, tm, hd, sn, am, pk_un, sup_ne] at ⊢
      exact hR.m0 i hi),
    (fun i hi => by
      try simp (disch := omega) only [nn, mn, ac, le, pq, un, he, tm, hd, sn, am, pk_un, sup_ne] at ⊢
      exact hR.a i hi),
    (fun p hp => by
      try simp (disch := omega) only [nn, mn, ac, le, pq, un, he, tm, hd, sn, am, pk_un, sup_ne] at ⊢
      exact hR.l0 p hp),
    (fun p hp j hj => by
      have hb10 : nv (w (21 + p)) ≤ 10 := (h.l p hp).2
      try simp (disch := omega) only [nn, mn, ac, le, pq, un, he, tm, hd, sn, am, pk_un, sup_ne] at hj
      try simp (disch := omega) only [nn, mn, ac, le, pq, un, he, tm, hd, sn, am, pk_un, sup_ne]
      exact hR.q p hp j hj),
    (fun d hd6 i hi => by
      try simp (disch := omega) only [nn, mn, ac, le, pq, un, he, tm, hd, sn, am, pk_un, sup_ne] at ⊢
      exact hR.s d hd6 i hi),
    (fun d hd6 i hi => by
      try simp (disch := omega) only [nn, mn, ac, le, pq, un, he, tm, hd, sn, am, pk_un, sup_ne] at ⊢
      exact hR.p d hd6 i hi),
    (fun k hk => by
      try simp (disch := omega) only [nn, mn, ac, le, pq, un, he, tm, hd, sn, am, pk_un, sup_ne] at ⊢
      exact hR.u k hk),
    (fun k hk => by
      try simp (disch := omega) only [nn, mn, ac, le, pq, un, he, tm, hd, sn, am, pk_un, sup_ne] at ⊢
      exact hR.g k hk),
    (fun j hj => by
      have hb24 : nv (w 341) ≤ 24 := h.h.2
      try simp (disch := omega) only [nn, mn, ac, le, pq, un, he, tm, hd, sn, am, pk_un, sup_ne] at hj
      try simp (disch := omega) only [nn, mn, ac, le, pq, un, he, tm, hd, sn, am, pk_un, sup_ne]
      exact hR.b j hj)⟩

set_option maxHeartbeats 1000000 in
theorem RC_inc4 {c : Nat} {S : Nat → Nat → Int32} {w : Nat → Int32}  (hR : RC c S w) : RC (c) (va_up S 4 (fun _ => S 4 0 + nI 1)) (upd w 466 (w 466 + nI 1)) := by
  have h := hR.wf
  refine ⟨⟨(by
      try simp (disch := omega) only [nn, mn, ac, le, pq, un, he, tm, hd, sn, am, pk_un, sup_ne] at ⊢
      exact h.n ),
    (fun i hi => by
      try simp (disch := omega) only [nn, mn, ac, le, pq, un, he, tm, hd, sn, am, pk_un, sup_ne] at ⊢
      exact h.m i hi),
    (fun p hp => by
      try simp (disch := omega) only [nn, mn, ac, le, pq, un, he, tm, hd, sn, am, pk_un, sup_ne] at ⊢
      exact h.a p hp),
    (fun i hi j hj hij => by
      try simp (disch := omega) only [nn, mn, ac, le, pq, un, he, tm, hd, sn, am, pk_un, sup_ne] at hij ⊢
      exact h.a0 i hi j hj hij),
    (fun p hp => by
      try simp (disch := omega) only [nn, mn, ac, le, pq, un, he, tm, hd, sn, am, pk_un, sup_ne] at ⊢
      exact h.l p hp),
    (fun p hp hn0 => by
      try simp (disch := omega) only [nn, mn, ac, le, pq, un, he, tm, hd, sn, am, pk_un, sup_ne] at hn0 ⊢
      exact h.l0 p hp hn0),
    (fun p hp j hj => by
      have hb10 : nv (w (21 + p)) ≤ 10 := (h.l p hp).2
      try simp (disch := omega) only [nn, mn, ac, le, pq, un, he, tm, hd, sn, am, pk_un, sup_ne] at hj
      try simp (disch := omega) only [nn, mn, ac, le, pq, un, he, tm, hd, sn, am, pk_un, sup_ne]
      exact h.q p hp j hj),
    (fun d hd6 i hi => by
      try simp (disch := omega) only [nn, mn, ac, le, pq, un, he, tm, hd, sn, am, pk_un, sup_ne] at ⊢
      exact h.s d hd6 i hi),
    (fun d hd6 i hi hne => by
      try simp (disch := omega) only [nn, mn, ac, le, pq, un, he, tm, hd, sn, am, pk_un, sup_ne] at hne ⊢
      exact h.p d hd6 i hi hne),
    (fun k hk => by
      try simp (disch := omega) only [nn, mn, ac, le, pq, un, he, tm, hd, sn, am, pk_un, sup_ne] at ⊢
      exact h.u k hk),
    (by
      try simp (disch := omega) only [nn, mn, ac, le, pq, un, he, tm, hd, sn, am, pk_un, sup_ne] at ⊢
      exact h.h ),
    (fun j hj => by
      have hb24 : nv (w 341) ≤ 24 := h.h.2
      try simp (disch := omega) only [nn, mn, ac, le, pq, un, he, tm, hd, sn, am, pk_un, sup_ne] at hj
      try simp (disch := omega) only [nn, mn, ac, le, pq, un, he, tm, hd, sn, am, pk_un, sup_ne]
      exact h.b j hj),
    (fun k hk => by
      try simp (disch := omega) only [nn, mn, ac, le, pq, un, he, tm, hd, sn, am, pk_un, sup_ne] at ⊢
      exact h.g k hk),
    (by
      try simp (disch := omega) only [nn, mn, ac, le, pq, un, he, tm, hd, sn, am, pk_un, sup_ne] at ⊢
      exact h.t ),
    (by
      try simp (disch := omega) only [nn, mn, ac, le, pq, un, he, tm, hd, sn, am, pk_un, sup_ne] at ⊢
      exact h.d ),
    (by
      try simp (disch := omega) only [nn, mn, ac, le, pq, un, he, tm, hd, sn, am, pk_un, sup_ne] at ⊢
      exact h.e )⟩,
    ⟨(by rw [sup_ne (by decide), pk_un (by decide)]; exact hR.i.1), (by rw [sup_ne (by decide), pk_un (by decide)]; exact hR.i.2.1), (by rw [sup_ne (by decide), pk_un (by decide)]; exact hR.i.2.2.1), (by rw [sup_ne (by decide), pk_un (by decide)]; exact hR.i.2.2.2.1), (by rw [sup_eq, upd_eq, hR.i.2.2.2.2.1]), (by rw [sup_ne (by decide), pk_un (by decide)]; exact hR.i.2.2.2.2.2.1), (by rw [sup_ne (by decide), pk_un (by decide)]; exact hR.i.2.2.2.2.2.2.1), (by rw [sup_ne (by decide), pk_un (by decide)]; exact hR.i.2.2.2.2.2.2.2.1), (by rw [sup_ne (by decide), pk_un (by decide)]; exact hR.i.2.2.2.2.2.2.2.2.1), (by rw [sup_ne (by decide), pk_un (by decide)]; exact hR.i.2.2.2.2.2.2.2.2.2)⟩,
    (fun i hi => by
      try simp (disch := omega) only [nn, mn, ac, le, pq, un, he, tm, hd, sn, am, pk_un, sup_ne] at ⊢
      exact hR.m0 i hi),
    (fun i hi => by
      try simp (disch := omega) only [nn, mn, ac, le, pq, un, he, tm, hd, sn, am, pk_un, sup_ne] at ⊢
      exact hR.a i hi),
    (fun p hp => by
      try simp (disch := omega) only [nn, mn, ac, le, pq, un, he, tm, hd, sn, am, pk_un, sup_ne] at ⊢
      exact hR.l0 p hp),
    (fun p hp j hj => by
      have hb10 : nv (w (21 + p)) ≤ 10 := (h.l p hp).2
      try simp (disch := omega) only [nn, mn, ac, le, pq, un, he, tm, hd, sn, am, pk_un, sup_ne] at hj
      try simp (disch := omega) only [nn, mn, ac, le, pq, un, he, tm, hd, sn, am, pk_un, sup_ne]
      exact hR.q p hp j hj),
    (fun d hd6 i hi => by
      try simp (disch := omega) only [nn, mn, ac, le, pq, un, he, tm, hd, sn, am, pk_un, sup_ne] at ⊢
      exact hR.s d hd6 i hi),
    (fun d hd6 i hi => by
      try simp (disch := omega) only [nn, mn, ac, le, pq, un, he, tm, hd, sn, am, pk_un, sup_ne] at ⊢
      exact hR.p d hd6 i hi),
    (fun k hk => by
      try simp (disch := omega) only [nn, mn, ac, le, pq, un, he, tm, hd, sn, am, pk_un, sup_ne] at ⊢
      exact hR.u k hk),
    (fun k hk => by
      try simp (disch := omega) only [nn, mn, ac, le, pq, un, he, tm, hd, sn, am, pk_un, sup_ne] at ⊢
      exact hR.g k hk),
    (fun j hj => by
      have hb24 : nv (w 341) ≤ 24 := h.h.2
      try simp (disch := omega) only [nn, mn, ac, le, pq, un, he, tm, hd, sn, am, pk_un, sup_ne] at hj
      try simp (disch := omega) only [nn, mn, ac, le, pq, un, he, tm, hd, sn, am, pk_un, sup_ne]
      exact hR.b j hj)⟩

set_option maxHeartbeats 1000000 in
theorem RC_inc5 {c : Nat} {S : Nat → Nat → Int32} {w : Nat → Int32}  (hR : RC c S w) : RC (c) (va_up S 5 (fun _ => S 5 0 + nI 1)) (upd w 467 (w 467 + nI 1)) := by
  have h := hR.wf
  refine ⟨⟨(by
      try simp (disch := omega) only [nn, mn, ac, le, pq, un, he, tm, hd, sn, am, pk_un, sup_ne] at ⊢
      exact h.n ),
    (fun i hi => by
      try simp (disch := omega) only [nn, mn, ac, le, pq, un, he, tm, hd, sn, am, pk_un, sup_ne] at ⊢
      exact h.m i hi),
    (fun p hp => by
      try simp (disch := omega) only [nn, mn, ac, le, pq, un, he, tm, hd, sn, am, pk_un, sup_ne] at ⊢
      exact h.a p hp),
    (fun i hi j hj hij => by
      try simp (disch := omega) only [nn, mn, ac, le, pq, un, he, tm, hd, sn, am, pk_un, sup_ne] at hij ⊢
      exact h.a0 i hi j hj hij),
    (fun p hp => by
      try simp (disch := omega) only [nn, mn, ac, le, pq, un, he, tm, hd, sn, am, pk_un, sup_ne] at ⊢
      exact h.l p hp),
    (fun p hp hn0 => by
      try simp (disch := omega) only [nn, mn, ac, le, pq, un, he, tm, hd, sn, am, pk_un, sup_ne] at hn0 ⊢
      exact h.l0 p hp hn0),
    (fun p hp j hj => by
      have hb10 : nv (w (21 + p)) ≤ 10 := (h.l p hp).2
      try simp (disch := omega) only [nn, mn, ac, le, pq, un, he, tm, hd, sn, am, pk_un, sup_ne] at hj
      try simp (disch := omega) only [nn, mn, ac, le, pq, un, he, tm, hd, sn, am, pk_un, sup_ne]
      exact h.q p hp j hj),
    (fun d hd6 i hi => by
      try simp (disch := omega) only [nn, mn, ac, le, pq, un, he, tm, hd, sn, am, pk_un, sup_ne] at ⊢
      exact h.s d hd6 i hi),
    (fun d hd6 i hi hne => by
      try simp (disch := omega) only [nn, mn, ac, le, pq, un, he, tm, hd, sn, am, pk_un, sup_ne] at hne ⊢
      exact h.p d hd6 i hi hne),
    (fun k hk => by
      try simp (disch := omega) only [nn, mn, ac, le, pq, un, he, tm, hd, sn, am, pk_un, sup_ne] at ⊢
      exact h.u k hk),
    (by
      try simp (disch := omega) only [nn, mn, ac, le, pq, un, he, tm, hd, sn, am, pk_un, sup_ne] at ⊢
      exact h.h ),
    (fun j hj => by
      have hb24 : nv (w 341) ≤ 24 := h.h.2
      try simp (disch := omega) only [nn, mn, ac, le, pq, un, he, tm, hd, sn, am, pk_un, sup_ne] at hj
      try simp (disch := omega) only [nn, mn, ac, le, pq, un, he, tm, hd, sn, am, pk_un, sup_ne]
      exact h.b j hj),
    (fun k hk => by
      try simp (disch := omega) only [nn, mn, ac, le, pq, un, he, tm, hd, sn, am, pk_un, sup_ne] at ⊢
      exact h.g k hk),
    (by
      try simp (disch := omega) only [nn, mn, ac, le, pq, un, he, tm, hd, sn, am, pk_un, sup_ne] at ⊢
      exact h.t ),
    (by
      try simp (disch := omega) only [nn, mn, ac, le, pq, un, he, tm, hd, sn, am, pk_un, sup_ne] at ⊢
      exact h.d ),
    (by
      try simp (disch := omega) only [nn, mn, ac, le, pq, un, he, tm, hd, sn, am, pk_un, sup_ne] at ⊢
      exact h.e )⟩,
    ⟨(by rw [sup_ne (by decide), pk_un (by decide)]; exact hR.i.1), (by rw [sup_ne (by decide), pk_un (by decide)]; exact hR.i.2.1), (by rw [sup_ne (by decide), pk_un (by decide)]; exact hR.i.2.2.1), (by rw [sup_ne (by decide), pk_un (by decide)]; exact hR.i.2.2.2.1), (by rw [sup_ne (by decide), pk_un (by decide)]; exact hR.i.2.2.2.2.1), (by rw [sup_eq, upd_eq, hR.i.2.2.2.2.2.1]), (by rw [sup_ne (by decide), pk_un (by decide)]; exact hR.i.2.2.2.2.2.2.1), (by rw [sup_ne (by decide), pk_un (by decide)]; exact hR.i.2.2.2.2.2.2.2.1), (by rw [sup_ne (by decide), pk_un (by decide)]; exact hR.i.2.2.2.2.2.2.2.2.1), (by rw [sup_ne (by decide), pk_un (by decide)]; exact hR.i.2.2.2.2.2.2.2.2.2)⟩,
    (fun i hi => by
      try simp (disch := omega) only [nn, mn, ac, le, pq, un, he, tm, hd, sn, am, pk_un, sup_ne] at ⊢
      exact hR.m0 i hi),
    (fun i hi => by
      try simp (disch := omega) only [nn, mn, ac, le, pq, un, he, tm, hd, sn, am, pk_un, sup_ne] at ⊢
      exact hR.a i hi),
    (fun p hp => by
      try simp (disch := omega) only [nn, mn, ac, le, pq, un, he, tm, hd, sn, am, pk_un, sup_ne] at ⊢
      exact hR.l0 p hp),
    (fun p hp j hj => by
      have hb10 : nv (w (21 + p)) ≤ 10 := (h.l p hp).2
      try simp (disch := omega) only [nn, mn, ac, le, pq, un, he, tm, hd, sn, am, pk_un, sup_ne] at hj
      try simp (disch := omega) only [nn, mn, ac, le, pq, un, he, tm, hd, sn, am, pk_un, sup_ne]
      exact hR.q p hp j hj),
    (fun d hd6 i hi => by
      try simp (disch := omega) only [nn, mn, ac, le, pq, un, he, tm, hd, sn, am, pk_un, sup_ne] at ⊢
      exact hR.s d hd6 i hi),
    (fun d hd6 i hi => by
      try simp (disch := omega) only [nn, mn, ac, le, pq, un, he, tm, hd, sn, am, pk_un, sup_ne] at ⊢
      exact hR.p d hd6 i hi),
    (fun k hk => by
      try simp (disch := omega) only [nn, mn, ac, le, pq, un, he, tm, hd, sn, am, pk_un, sup_ne] at ⊢
      exact hR.u k hk),
    (fun k hk => by
      try simp (disch := omega) only [nn, mn, ac, le, pq, un, he, tm, hd, sn, am, pk_un, sup_ne] at ⊢
      exact hR.g k hk),
    (fun j hj => by
      have hb24 : nv (w 341) ≤ 24 := h.h.2
      try simp (disch := omega) only [nn, mn, ac, le, pq, un, he, tm, hd, sn, am, pk_un, sup_ne] at hj
      try simp (disch := omega) only [nn, mn, ac, le, pq, un, he, tm, hd, sn, am, pk_un, sup_ne]
      exact hR.b j hj)⟩

set_option maxHeartbeats 1000000 in
theorem RC_inc6 {c : Nat} {S : Nat → Nat → Int32} {w : Nat → Int32}  (hR : RC c S w) : RC (c) (va_up S 6 (fun _ => S 6 0 + nI 1)) (upd w 468 (w 468 + nI 1)) := by
  have h := hR.wf
  refine ⟨⟨(by
      try simp (disch := omega) only [nn, mn, ac, le, pq, un, he, tm, hd, sn, am, pk_un, sup_ne] at ⊢
      exact h.n ),
    (fun i hi => by
      try simp (disch := omega) only [nn, mn, ac, le, pq, un, he, tm, hd, sn, am, pk_un, sup_ne] at ⊢
      exact h.m i hi),
    (fun p hp => by
      try simp (disch := omega) only [nn, mn, ac, le, pq, un, he, tm, hd, sn, am, pk_un, sup_ne] at ⊢
      exact h.a p hp),
    (fun i hi j hj hij => by
      try simp (disch := omega) only [nn, mn, ac, le, pq, un, he, tm, hd, sn, am, pk_un, sup_ne] at hij ⊢
      exact h.a0 i hi j hj hij),
    (fun p hp => by
      try simp (disch := omega) only [nn, mn, ac, le, pq, un, he, tm, hd, sn, am, pk_un, sup_ne] at ⊢
      exact h.l p hp),
    (fun p hp hn0 => by
      try simp (disch := omega) only [nn, mn, ac, le, pq, un, he, tm, hd, sn, am, pk_un, sup_ne] at hn0 ⊢
      exact h.l0 p hp hn0),
    (fun p hp j hj => by
      have hb10 : nv (w (21 + p)) ≤ 10 := (h.l p hp).2
      try simp (disch := omega) only [nn, mn, ac, le, pq, un, he, tm, hd, sn, am, pk_un, sup_ne] at hj
      try simp (disch := omega) only [nn, mn, ac, le, pq, un, he, tm, hd, sn, am, pk_un, sup_ne]
      exact h.q p hp j hj),
    (fun d hd6 i hi => by
      try simp (disch := omega) only [nn, mn, ac, le, pq, un, he, tm, hd, sn, am, pk_un, sup_ne] at ⊢
      exact h.s d hd6 i hi),
    (fun d hd6 i hi hne => by
      try simp (disch := omega) only [nn, mn, ac, le, pq, un, he, tm, hd, sn, am, pk_un, sup_ne] at hne ⊢
      exact h.p d hd6 i hi hne),
    (fun k hk => by
      try simp (disch := omega) only [nn, mn, ac, le, pq, un, he, tm, hd, sn, am, pk_un, sup_ne] at ⊢
      exact h.u k hk),
    (by
      try simp (disch := omega) only [nn, mn, ac, le, pq, un, he, tm, hd, sn, am, pk_un, sup_ne] at ⊢
      exact h.h ),
    (fun j hj => by
      have hb24 : nv (w 341) ≤ 24 := h.h.2
      try simp (disch := omega) only [nn, mn, ac, le, pq, un, he, tm, hd, sn, am, pk_un, sup_ne] at hj
      try simp (disch := omega) only [nn, mn, ac, le, pq, un, he, tm, hd, sn, am, pk_un, sup_ne]
      exact h.b j hj),
    (fun k hk => by
      try simp (disch := omega) only [nn, mn, ac, le, pq, un, he, tm, hd, sn, am, pk_un, sup_ne] at ⊢
      exact h.g k hk),
    (by
      try simp (disch := omega) only [nn, mn, ac, le, pq, un, he, tm, hd, sn, am, pk_un, sup_ne] at ⊢
      exact h.t ),
    (by
      try simp (disch := omega) only [nn, mn, ac, le, pq, un, he, tm, hd, sn, am, pk_un, sup_ne] at ⊢
      exact h.d ),
    (by
      try simp (disch := omega) only [nn, mn, ac, le, pq, un, he, tm, hd, sn, am, pk_un, sup_ne] at ⊢
      exact h.e )⟩,
    ⟨(by rw [sup_ne (by decide), pk_un (by decide)]; exact hR.i.1), (by rw [sup_ne (by decide), pk_un (by decide)]; exact hR.i.2.1), (by rw [sup_ne (by decide), pk_un (by decide)]; exact hR.i.2.2.1), (by rw [sup_ne (by decide), pk_un (by decide)]; exact hR.i.2.2.2.1), (by rw [sup_ne (by decide), pk_un (by decide)]; exact hR.i.2.2.2.2.1), (by rw [sup_ne (by decide), pk_un (by decide)]; exact hR.i.2.2.2.2.2.1), (by rw [sup_eq, upd_eq, hR.i.2.2.2.2.2.2.1]), (by rw [sup_ne (by decide), pk_un (by decide)]; exact hR.i.2.2.2.2.2.2.2.1), (by rw [sup_ne (by decide), pk_un (by decide)]; exact hR.i.2.2.2.2.2.2.2.2.1), (by rw [sup_ne (by decide), pk_un (by decide)]; exact hR.i.2.2.2.2.2.2.2.2.2)⟩,
    (fun i hi => by
      try simp (disch := omega) only [nn, mn, ac, le, pq, un, he, tm, hd, sn, am, pk_un, sup_ne] at ⊢
      exact hR.m0 i hi),
    (fun i hi => by
      try simp (disch := omega) only [nn, mn, ac, le, pq, un, he, tm, hd, sn, am, pk_un, sup_ne] at ⊢
      exact hR.a i hi),
    (fun p hp => by
      try simp (disch := omega) only [nn, mn, ac, le, pq, un, he, tm, hd, sn, am, pk_un, sup_ne] at ⊢
      exact hR.l0 p hp),
    (fun p hp j hj => by
      have hb10 : nv (w (21 + p)) ≤ 10 := (h.l p hp).2
      try simp (disch := omega) only [nn, mn, ac, le, pq, un, he, tm, hd, sn, am, pk_un, sup_ne] at hj
      try simp (disch := omega) only [nn, mn, ac, le, pq, un, he, tm, hd, sn, am, pk_un, sup_ne]
      exact hR.q p hp j hj),
    (fun d hd6 i hi => by
      try simp (disch := omega) only [nn, mn, ac, le, pq, un, he, tm, hd, sn, am, pk_un, sup_ne] at ⊢
      exact hR.s d hd6 i hi),
    (fun d hd6 i hi => by
      try simp (disch := omega) only [nn, mn, ac, le, pq, un, he, tm, hd, sn, am, pk_un, sup_ne] at ⊢
      exact hR.p d hd6 i hi),
    (fun k hk => by
      try simp (disch := omega) only [nn, mn, ac, le, pq, un, he, tm, hd, sn, am, pk_un, sup_ne] at ⊢
      exact hR.u k hk),
    (fun k hk => by
      try simp (disch := omega) only [nn, mn, ac, le, pq, un, he, tm, hd, sn, am, pk_un, sup_ne] at ⊢
      exact hR.g k hk),
    (fun j hj => by
      have hb24 : nv (w 341) ≤ 24 := h.h.2
      try simp (disch := omega) only [nn, mn, ac, le, pq, un, he, tm, hd, sn, am, pk_un, sup_ne] at hj
      try simp (disch := omega) only [nn, mn, ac, le, pq, un, he, tm, hd, sn, am, pk_un, sup_ne]
      exact hR.b j hj)⟩

set_option maxHeartbeats 1000000 in
theorem RC_inc7 {c : Nat} {S : Nat → Nat → Int32} {w : Nat → Int32}  (hR : RC c S w) : RC (c) (va_up S 7 (fun _ => S 7 0 + nI 1)) (upd w 469 (w 469 + nI 1)) := by
  have h := hR.wf
  refine ⟨⟨(by
      try simp (disch := omega) only [nn, mn, ac, le, pq, un, he, tm, hd, sn, am, pk_un, sup_ne] at ⊢
      exact h.n ),
    (fun i hi => by
      try simp (disch := omega) only [nn, mn, ac, le, pq, un, he, tm, hd, sn, am, pk_un, sup_ne] at ⊢
      exact h.m i hi),
    (fun p hp => by
      try simp (disch := omega) only [nn, mn, ac, le, pq, un, he, tm, hd, sn, am, pk_un, sup_ne] at ⊢
      exact h.a p hp),
    (fun i hi j hj hij => by
      try simp (disch := omega) only [nn, mn, ac, le, pq, un, he, tm, hd, sn, am, pk_un, sup_ne] at hij ⊢
      exact h.a0 i hi j hj hij),
    (fun p hp => by
      try simp (disch := omega) only [nn, mn, ac, le, pq, un, he, tm, hd, sn, am, pk_un, sup_ne] at ⊢
      exact h.l p hp),
    (fun p hp hn0 => by
      try simp (disch := omega) only [nn, mn, ac, le, pq, un, he, tm, hd, sn, am, pk_un, sup_ne] at hn0 ⊢
      exact h.l0 p hp hn0),
    (fun p hp j hj => by
      have hb10 : nv (w (21 + p)) ≤ 10 := (h.l p hp).2
      try simp (disch := omega) only [nn, mn, ac, le, pq, un, he, tm, hd, sn, am, pk_un, sup_ne] at hj
      try simp (disch := omega) only [nn, mn, ac, le, pq, un, he, tm, hd, sn, am, pk_un, sup_ne]
      exact h.q p hp j hj),
    (fun d hd6 i hi => by
      try simp (disch := omega) only [nn, mn, ac, le, pq, un, he, tm, hd, sn, am, pk_un, sup_ne] at ⊢
      exact h.s d hd6 i hi),
    (fun d hd6 i hi hne => by
      try simp (disch := omega) only [nn, mn, ac, le, pq, un, he, tm, hd, sn, am, pk_un, sup_ne] at hne ⊢
      exact h.p d hd6 i hi hne),
    (fun k hk => by
      try simp (disch := omega) only [nn, mn, ac, le, pq, un, he, tm, hd, sn, am, pk_un, sup_ne] at ⊢
      exact h.u k hk),
    (by
      try simp (disch := omega) only [nn, mn, ac, le, pq, un, he, tm, hd, sn, am, pk_un, sup_ne] at ⊢
      exact h.h ),
    (fun j hj => by
      have hb24 : nv (w 341) ≤ 24 := h.h.2
      try simp (disch := omega) only [nn, mn, ac, le, pq, un, he, tm, hd, sn, am, pk_un, sup_ne] at hj
      try simp (disch := omega) only [nn, mn, ac, le, pq, un, he, tm, hd, sn, am, pk_un, sup_ne]
      exact h.b j hj),
    (fun k hk => by
      try simp (disch := omega) only [nn, mn, ac, le, pq, un, he, tm, hd, sn, am, pk_un, sup_ne] at ⊢
      exact h.g k hk),
    (by
      try simp (disch := omega) only [nn, mn, ac, le, pq, un, he, tm, hd, sn, am, pk_un, sup_ne] at ⊢
      exact h.t ),
    (by
      try simp (disch := omega) only [nn, mn, ac, le, pq, un, he, tm, hd, sn, am, pk_un, sup_ne] at ⊢
      exact h.d ),
    (by
      try simp (disch := omega) only [nn, mn, ac, le, pq, un, he, tm, hd, sn, am, pk_un, sup_ne] at ⊢
      exact h.e )⟩,
    ⟨(by rw [sup_ne (by decide), pk_un (by decide)]; exact hR.i.1), (by rw [sup_ne (by decide), pk_un (by decide)]; exact hR.i.2.1), (by rw [sup_ne (by decide), pk_un (by decide)]; exact hR.i.2.2.1), (by rw [sup_ne (by decide), pk_un (by decide)]; exact hR.i.2.2.2.1), (by rw [sup_ne (by decide), pk_un (by decide)]; exact hR.i.2.2.2.2.1), (by rw [sup_ne (by decide), pk_un (by decide)]; exact hR.i.2.2.2.2.2.1), (by rw [sup_ne (by decide), pk_un (by decide)]; exact hR.i.2.2.2.2.2.2.1), (by rw [sup_eq, upd_eq, hR.i.2.2.2.2.2.2.2.1]), (by rw [sup_ne (by decide), pk_un (by decide)]; exact hR.i.2.2.2.2.2.2.2.2.1), (by rw [sup_ne (by decide), pk_un (by decide)]; exact hR.i.2.2.2.2.2.2.2.2.2)⟩,
    (fun i hi => by
      try simp (disch := omega) only [nn, mn, ac, le, pq, un, he, tm, hd, sn, am, pk_un, sup_ne] at ⊢
      exact hR.m0 i hi),
    (fun i hi => by
      try simp (disch := omega) only [nn, mn, ac, le, pq, un, he, tm, hd, sn, am, pk_un, sup_ne] at ⊢
      exact hR.a i hi),
    (fun p hp => by
      try simp (disch := omega) only [nn, mn, ac, le, pq, un, he, tm, hd, sn, am, pk_un, sup_ne] at ⊢
      exact hR.l0 p hp),
    (fun p hp j hj => by
      have hb10 : nv (w (21 + p)) ≤ 10 := (h.l p hp).2
      try simp (disch := omega) only [nn, mn, ac, le, pq, un, he, tm, hd, sn, am, pk_un, sup_ne] at hj
      try simp (disch := omega) only [nn, mn, ac, le, pq, un, he, tm, hd, sn, am, pk_un, sup_ne]
      exact hR.q p hp j hj),
    (fun d hd6 i hi => by
      try simp (disch := omega) only [nn, mn, ac, le, pq, un, he, tm, hd, sn, am, pk_un, sup_ne] at ⊢
      exact hR.s d hd6 i hi),
    (fun d hd6 i hi => by
      try simp (disch := omega) only [nn, mn, ac, le, pq, un, he, tm, hd, sn, am, pk_un, sup_ne] at ⊢
      exact hR.p d hd6 i hi),
    (fun k hk => by
      try simp (disch := omega) only [nn, mn, ac, le, pq, un, he, tm, hd, sn, am, pk_un, sup_ne] at ⊢
      exact hR.u k hk),
    (fun k hk => by
      try simp (disch := omega) only [nn, mn, ac, le, pq, un, he, tm, hd, sn, am, pk_un, sup_ne] at ⊢
      exact hR.g k hk),
    (fun j hj => by
      have hb24 : nv (w 341) ≤ 24 := h.h.2
      try simp (disch := omega) only [nn, mn, ac, le, pq, un, he, tm, hd, sn, am, pk_un, sup_ne] at hj
      try simp (disch := omega) only [nn, mn, ac, le, pq, un, he, tm, hd, sn, am, pk_un, sup_ne]
      exact hR.b j hj)⟩

set_option maxHeartbeats 1000000 in
theorem RC_app {c : Nat} {S : Nat → Nat → Int32} {w : Nat → Int32} {p0 a k0 : Nat} (hp0 : p0 < 16) (hpn : p0 < 4 * nn w) (hl : le w p0 < 10) (ha : a < sn w) (hk0 : k0 < 96) (hc : c < 1000) (hR : RC c S w) : RC (c) (va_up (va_up S 13 (upd (S 13) (p0 * 10 + le w p0) (nI (a * 96 + k0)))) 12 (upd (va_up S 13 (upd (S 13) (p0 * 10 + le w p0) (nI (a * 96 + k0))) 12) p0 (nI (le w p0 + 1)))) (upd (upd w (37 + 10 * p0 + le w p0) (nI (128 * a + k0))) (21 + p0) (nI (le w p0 + 1))) := by
  have h := hR.wf
  have hsn := h.e.2
  have hlx : nv (w (21 + p0)) < 10 := hl
  have hle : ∀ p, p < 16 → le (upd (upd w (37 + 10 * p0 + le w p0) (nI (128 * a + k0))) (21 + p0) (nI (le w p0 + 1))) p = if p = p0 then le w p0 + 1 else le w p := fun p hp => by
    unfold le
    by_cases e : p = p0
    · subst e; rw [upd_eq, if_pos rfl, nv_nI (by unfold le at hl; omega)]
    · rw [if_neg e, pk_un (by omega), pk_un (by omega)]
  refine ⟨⟨(by
      try simp (disch := omega) only [nn, mn, ac, le, pq, un, he, tm, hd, sn, am, pk_un, sup_ne] at ⊢
      exact h.n ),
    (fun i hi => by
      try simp (disch := omega) only [nn, mn, ac, le, pq, un, he, tm, hd, sn, am, pk_un, sup_ne] at ⊢
      exact h.m i hi),
    (fun p hp => by
      try simp (disch := omega) only [nn, mn, ac, le, pq, un, he, tm, hd, sn, am, pk_un, sup_ne] at ⊢
      exact h.a p hp),
    (fun i hi j hj hij => by
      try simp (disch := omega) only [nn, mn, ac, le, pq, un, he, tm, hd, sn, am, pk_un, sup_ne] at hij ⊢
      exact h.a0 i hi j hj hij),
    (fun p hp => by
      by_cases e : p = p0
      · subst e; rw [hle p hp, if_pos rfl, upd_eq]; exact ⟨rfl, by omega⟩
      · rw [hle p hp, if_neg e, pk_un (by omega), pk_un (by omega)]; exact h.l p hp),
    (fun p hp hn0 => by
      have e : p ≠ p0 := by simp (disch := omega) only [nn, pk_un] at hn0; unfold nn at hpn; omega
      rw [hle p hp, if_neg e]; exact h.l0 p hp (by simp (disch := omega) only [nn, pk_un] at hn0; exact hn0)),
    (fun p hp j hj => by
      have hs2 : sn (upd (upd w (37 + 10 * p0 + le w p0) (nI (128 * a + k0))) (21 + p0) (nI (le w p0 + 1))) = sn w := by unfold sn; rw [pk_un (by omega), pk_un (by omega)]
      rw [hs2, pk_un (by omega)]
      rw [hle p hp] at hj
      by_cases e : 37 + 10 * p + j = 37 + 10 * p0 + le w p0
      · rw [e, upd_eq]; exact ⟨a, k0, ha, hk0, rfl⟩
      · rw [pk_un e]; refine h.q p hp j ?_
        by_cases e2 : p = p0
        · subst e2; rw [if_pos rfl] at hj; omega
        · rw [if_neg e2] at hj; exact hj),
    (fun d hd6 i hi => by
      try simp (disch := omega) only [nn, mn, ac, le, pq, un, he, tm, hd, sn, am, pk_un, sup_ne] at ⊢
      exact h.s d hd6 i hi),
    (fun d hd6 i hi hne => by
      try simp (disch := omega) only [nn, mn, ac, le, pq, un, he, tm, hd, sn, am, pk_un, sup_ne] at hne ⊢
      exact h.p d hd6 i hi hne),
    (fun k hk => by
      try simp (disch := omega) only [nn, mn, ac, le, pq, un, he, tm, hd, sn, am, pk_un, sup_ne] at ⊢
      exact h.u k hk),
    (by
      try simp (disch := omega) only [nn, mn, ac, le, pq, un, he, tm, hd, sn, am, pk_un, sup_ne] at ⊢
      exact h.h ),
    (fun j hj => by
      have hb24 : nv (w 341) ≤ 24 := h.h.2
      try simp (disch := omega) only [nn, mn, ac, le, pq, un, he, tm, hd, sn, am, pk_un, sup_ne] at hj
      try simp (disch := omega) only [nn, mn, ac, le, pq, un, he, tm, hd, sn, am, pk_un, sup_ne]
      exact h.b j hj),
    (fun k hk => by
      try simp (disch := omega) only [nn, mn, ac, le, pq, un, he, tm, hd, sn, am, pk_un, sup_ne] at ⊢
      exact h.g k hk),
    (by
      try simp (disch := omega) only [nn, mn, ac, le, pq, un, he, tm, hd, sn, am, pk_un, sup_ne] at ⊢
      exact h.t ),
    (by
      try simp (disch := omega) only [nn, mn, ac, le, pq, un, he, tm, hd, sn, am, pk_un, sup_ne] at ⊢
      exact h.d ),
    (by
      try simp (disch := omega) only [nn, mn, ac, le, pq, un, he, tm, hd, sn, am, pk_un, sup_ne] at ⊢
      exact h.e )⟩,
    (by
      try simp (disch := omega) only [nn, mn, ac, le, pq, un, he, tm, hd, sn, am, pk_un, sup_ne] at ⊢
      exact hR.i ),
    (fun i hi => by
      try simp (disch := omega) only [nn, mn, ac, le, pq, un, he, tm, hd, sn, am, pk_un, sup_ne] at ⊢
      exact hR.m0 i hi),
    (fun i hi => by
      try simp (disch := omega) only [nn, mn, ac, le, pq, un, he, tm, hd, sn, am, pk_un, sup_ne] at ⊢
      exact hR.a i hi),
    (fun p hp => by
      rw [sup_eq, sup_ne (by decide)]
      by_cases e : p = p0
      · subst e; rw [upd_eq, upd_eq]
      · rw [pk_un e, pk_un (by omega), pk_un (by omega)]; exact hR.l0 p hp),
    (fun p hp j hj => by
      rw [hle p hp] at hj
      rw [sup_ne (by decide), sup_eq, pk_un (f := upd w _ _) (by omega)]
      have hl1 := (h.l p hp).2
      by_cases e : 37 + 10 * p + j = 37 + 10 * p0 + le w p0
      · have e2 : p * 10 + j = p0 * 10 + le w p0 := by omega
        rw [e, e2, upd_eq, upd_eq, trm_ok (by omega) hk0]
      · rw [pk_un e, pk_un (by omega)]; refine hR.q p hp j ?_
        by_cases e2 : p = p0
        · subst e2; rw [if_pos rfl] at hj; omega
        · rw [if_neg e2] at hj; exact hj),
    (fun d hd6 i hi => by
      try simp (disch := omega) only [nn, mn, ac, le, pq, un, he, tm, hd, sn, am, pk_un, sup_ne] at ⊢
      exact hR.s d hd6 i hi),
    (fun d hd6 i hi => by
      try simp (disch := omega) only [nn, mn, ac, le, pq, un, he, tm, hd, sn, am, pk_un, sup_ne] at ⊢
      exact hR.p d hd6 i hi),
    (fun k hk => by
      try simp (disch := omega) only [nn, mn, ac, le, pq, un, he, tm, hd, sn, am, pk_un, sup_ne] at ⊢
      exact hR.u k hk),
    (fun k hk => by
      try simp (disch := omega) only [nn, mn, ac, le, pq, un, he, tm, hd, sn, am, pk_un, sup_ne] at ⊢
      exact hR.g k hk),
    (fun j hj => by
      have hb24 : nv (w 341) ≤ 24 := h.h.2
      try simp (disch := omega) only [nn, mn, ac, le, pq, un, he, tm, hd, sn, am, pk_un, sup_ne] at hj
      try simp (disch := omega) only [nn, mn, ac, le, pq, un, he, tm, hd, sn, am, pk_un, sup_ne]
      exact hR.b j hj)⟩
end
section
set_option maxHeartbeats 1000000 in
theorem RC_grt {c : Nat} {S : Nat → Nat → Int32} {w : Nat → Int32} {a k0 : Nat} (ha : a < sn w) (hk0 : k0 < 96) (hc : c < 1000) (hR : RC c S w) : RC (c) (va_up S 17 (upd (S 17) k0 (nI a))) (upd w (366 + k0) (nI (128 * a + k0))) := by
  have h := hR.wf
  have hsn := h.e.2
  have hs2 : sn (upd w (366 + k0) (nI (128 * a + k0))) = sn w := by unfold sn; rw [pk_un (by omega)]
  refine ⟨⟨(by
      try simp (disch := omega) only [nn, mn, ac, le, pq, un, he, tm, hd, sn, am, pk_un, sup_ne] at ⊢
      exact h.n ),
    (fun i hi => by
      try simp (disch := omega) only [nn, mn, ac, le, pq, un, he, tm, hd, sn, am, pk_un, sup_ne] at ⊢
      exact h.m i hi),
    (fun p hp => by
      try simp (disch := omega) only [nn, mn, ac, le, pq, un, he, tm, hd, sn, am, pk_un, sup_ne] at ⊢
      exact h.a p hp),
    (fun i hi j hj hij => by
      try simp (disch := omega) only [nn, mn, ac, le, pq, un, he, tm, hd, sn, am, pk_un, sup_ne] at hij ⊢
      exact h.a0 i hi j hj hij),
    (fun p hp => by
      try simp (disch := omega) only [nn, mn, ac, le, pq, un, he, tm, hd, sn, am, pk_un, sup_ne] at ⊢
      exact h.l p hp),
    (fun p hp hn0 => by
      try simp (disch := omega) only [nn, mn, ac, le, pq, un, he, tm, hd, sn, am, pk_un, sup_ne] at hn0 ⊢
      exact h.l0 p hp hn0),
    (fun p hp j hj => by
      have hb10 : nv (w (21 + p)) ≤ 10 := (h.l p hp).2
      try simp (disch := omega) only [nn, mn, ac, le, pq, un, he, tm, hd, sn, am, pk_un, sup_ne] at hj
      try simp (disch := omega) only [nn, mn, ac, le, pq, un, he, tm, hd, sn, am, pk_un, sup_ne]
      exact h.q p hp j hj),
    (fun d hd6 i hi => by
      try simp (disch := omega) only [nn, mn, ac, le, pq, un, he, tm, hd, sn, am, pk_un, sup_ne] at ⊢
      exact h.s d hd6 i hi),
    (fun d hd6 i hi hne => by
      try simp (disch := omega) only [nn, mn, ac, le, pq, un, he, tm, hd, sn, am, pk_un, sup_ne] at hne ⊢
      exact h.p d hd6 i hi hne),
    (fun k hk => by
      try simp (disch := omega) only [nn, mn, ac, le, pq, un, he, tm, hd, sn, am, pk_un, sup_ne] at ⊢
      exact h.u k hk),
    (by
      try simp (disch := omega) only [nn, mn, ac, le, pq, un, he, tm, hd, sn, am, pk_un, sup_ne] at ⊢
      exact h.h ),
    (fun j hj => by
      have hb24 : nv (w 341) ≤ 24 := h.h.2
      try simp (disch := omega) only [nn, mn, ac, le, pq, un, he, tm, hd, sn, am, pk_un, sup_ne] at hj
      try simp (disch := omega) only [nn, mn, ac, le, pq, un, he, tm, hd, sn, am, pk_un, sup_ne]
      exact h.b j hj),
    (fun k hk => by
      rw [hs2]
      by_cases e : k = k0
      · subst e; rw [upd_eq]; exact Or.inr ⟨a, ha, rfl⟩
      · rw [pk_un (by omega)]; exact h.g k hk),
    (by
      try simp (disch := omega) only [nn, mn, ac, le, pq, un, he, tm, hd, sn, am, pk_un, sup_ne] at ⊢
      exact h.t ),
    (by
      try simp (disch := omega) only [nn, mn, ac, le, pq, un, he, tm, hd, sn, am, pk_un, sup_ne] at ⊢
      exact h.d ),
    (by
      try simp (disch := omega) only [nn, mn, ac, le, pq, un, he, tm, hd, sn, am, pk_un, sup_ne] at ⊢
      exact h.e )⟩,
    (by
      try simp (disch := omega) only [nn, mn, ac, le, pq, un, he, tm, hd, sn, am, pk_un, sup_ne] at ⊢
      exact hR.i ),
    (fun i hi => by
      try simp (disch := omega) only [nn, mn, ac, le, pq, un, he, tm, hd, sn, am, pk_un, sup_ne] at ⊢
      exact hR.m0 i hi),
    (fun i hi => by
      try simp (disch := omega) only [nn, mn, ac, le, pq, un, he, tm, hd, sn, am, pk_un, sup_ne] at ⊢
      exact hR.a i hi),
    (fun p hp => by
      try simp (disch := omega) only [nn, mn, ac, le, pq, un, he, tm, hd, sn, am, pk_un, sup_ne] at ⊢
      exact hR.l0 p hp),
    (fun p hp j hj => by
      have hb10 : nv (w (21 + p)) ≤ 10 := (h.l p hp).2
      try simp (disch := omega) only [nn, mn, ac, le, pq, un, he, tm, hd, sn, am, pk_un, sup_ne] at hj
      try simp (disch := omega) only [nn, mn, ac, le, pq, un, he, tm, hd, sn, am, pk_un, sup_ne]
      exact hR.q p hp j hj),
    (fun d hd6 i hi => by
      try simp (disch := omega) only [nn, mn, ac, le, pq, un, he, tm, hd, sn, am, pk_un, sup_ne] at ⊢
      exact hR.s d hd6 i hi),
    (fun d hd6 i hi => by
      try simp (disch := omega) only [nn, mn, ac, le, pq, un, he, tm, hd, sn, am, pk_un, sup_ne] at ⊢
      exact hR.p d hd6 i hi),
    (fun k hk => by
      try simp (disch := omega) only [nn, mn, ac, le, pq, un, he, tm, hd, sn, am, pk_un, sup_ne] at ⊢
      exact hR.u k hk),
    (fun k hk => by
      rw [sup_eq]
      by_cases e : k = k0
      · subst e; rw [upd_eq, upd_eq, trg_ok (by omega) hk]
      · rw [pk_un e, pk_un (by omega)]; exact hR.g k hk),
    (fun j hj => by
      have hb24 : nv (w 341) ≤ 24 := h.h.2
      try simp (disch := omega) only [nn, mn, ac, le, pq, un, he, tm, hd, sn, am, pk_un, sup_ne] at hj
      try simp (disch := omega) only [nn, mn, ac, le, pq, un, he, tm, hd, sn, am, pk_un, sup_ne]
      exact hR.b j hj)⟩

set_option maxHeartbeats 1000000 in
theorem RC_hold {c : Nat} {S : Nat → Nat → Int32} {w : Nat → Int32} {a k0 : Nat} (hh : he w < 24) (ha : a < sn w) (hk0 : k0 < 96) (hc : c < 1000) (hR : RC c S w) : RC (c) (va_up (va_up S 18 (upd (S 18) (he w) (nI (a * 96 + k0)))) 9 (fun _ => nI (he w + 1))) (upd (upd w (342 + he w) (nI (128 * a + k0))) 341 (nI (he w + 1))) := by
  have h := hR.wf
  have hsn := h.e.2
  have hhx : nv (w 341) < 24 := hh
  have hs2 : sn (upd (upd w (342 + he w) (nI (128 * a + k0))) 341 (nI (he w + 1))) = sn w := by unfold sn; rw [pk_un (by omega), pk_un (by omega)]
  have hh2 : he (upd (upd w (342 + he w) (nI (128 * a + k0))) 341 (nI (he w + 1))) = he w + 1 := by unfold he at hh ⊢; rw [upd_eq, nv_nI (by omega)]
  refine ⟨⟨(by
      try simp (disch := omega) only [nn, mn, ac, le, pq, un, he, tm, hd, sn, am, pk_un, sup_ne] at ⊢
      exact h.n ),
    (fun i hi => by
      try simp (disch := omega) only [nn, mn, ac, le, pq, un, he, tm, hd, sn, am, pk_un, sup_ne] at ⊢
      exact h.m i hi),
    (fun p hp => by
      try simp (disch := omega) only [nn, mn, ac, le, pq, un, he, tm, hd, sn, am, pk_un, sup_ne] at ⊢
      exact h.a p hp),
    (fun i hi j hj hij => by
      try simp (disch := omega) only [nn, mn, ac, le, pq, un, he, tm, hd, sn, am, pk_un, sup_ne] at hij ⊢
      exact h.a0 i hi j hj hij),
    (fun p hp => by
      try simp (disch := omega) only [nn, mn, ac, le, pq, un, he, tm, hd, sn, am, pk_un, sup_ne] at ⊢
      exact h.l p hp),
    (fun p hp hn0 => by
      try simp (disch := omega) only [nn, mn, ac, le, pq, un, he, tm, hd, sn, am, pk_un, sup_ne] at hn0 ⊢
      exact h.l0 p hp hn0),
    (fun p hp j hj => by
      have hb10 : nv (w (21 + p)) ≤ 10 := (h.l p hp).2
      try simp (disch := omega) only [nn, mn, ac, le, pq, un, he, tm, hd, sn, am, pk_un, sup_ne] at hj
      try simp (disch := omega) only [nn, mn, ac, le, pq, un, he, tm, hd, sn, am, pk_un, sup_ne]
      exact h.q p hp j hj),
    (fun d hd6 i hi => by
      try simp (disch := omega) only [nn, mn, ac, le, pq, un, he, tm, hd, sn, am, pk_un, sup_ne] at ⊢
      exact h.s d hd6 i hi),
    (fun d hd6 i hi hne => by
      try simp (disch := omega) only [nn, mn, ac, le, pq, un, he, tm, hd, sn, am, pk_un, sup_ne] at hne ⊢
      exact h.p d hd6 i hi hne),
    (fun k hk => by
      try simp (disch := omega) only [nn, mn, ac, le, pq, un, he, tm, hd, sn, am, pk_un, sup_ne] at ⊢
      exact h.u k hk),
    (by rw [hh2, upd_eq]; exact ⟨rfl, by omega⟩),
    (fun j hj => by
      rw [hh2] at hj
      rw [hs2, pk_un (by omega)]
      by_cases e : j = he w
      · subst e; rw [upd_eq]; exact ⟨a, k0, ha, hk0, rfl⟩
      · rw [pk_un (by omega)]; exact h.b j (by omega)),
    (fun k hk => by
      try simp (disch := omega) only [nn, mn, ac, le, pq, un, he, tm, hd, sn, am, pk_un, sup_ne] at ⊢
      exact h.g k hk),
    (by
      try simp (disch := omega) only [nn, mn, ac, le, pq, un, he, tm, hd, sn, am, pk_un, sup_ne] at ⊢
      exact h.t ),
    (by
      try simp (disch := omega) only [nn, mn, ac, le, pq, un, he, tm, hd, sn, am, pk_un, sup_ne] at ⊢
      exact h.d ),
    (by
      try simp (disch := omega) only [nn, mn, ac, le, pq, un, he, tm, hd, sn, am, pk_un, sup_ne] at ⊢
      exact h.e )⟩,
    ⟨(by (try simp (disch := omega) only [pk_un, sup_ne]); exact hR.i.1), (by (try simp (disch := omega) only [pk_un, sup_ne]); exact hR.i.2.1), (by (try simp (disch := omega) only [pk_un, sup_ne]); exact hR.i.2.2.1), (by (try simp (disch := omega) only [pk_un, sup_ne]); exact hR.i.2.2.2.1), (by (try simp (disch := omega) only [pk_un, sup_ne]); exact hR.i.2.2.2.2.1), (by (try simp (disch := omega) only [pk_un, sup_ne]); exact hR.i.2.2.2.2.2.1), (by (try simp (disch := omega) only [pk_un, sup_ne]); exact hR.i.2.2.2.2.2.2.1), (by (try simp (disch := omega) only [pk_un, sup_ne]); exact hR.i.2.2.2.2.2.2.2.1), (by (try simp (disch := omega) only [pk_un, sup_ne]); exact hR.i.2.2.2.2.2.2.2.2.1), (by rw [sup_eq, upd_eq])⟩,
    (fun i hi => by
      try simp (disch := omega) only [nn, mn, ac, le, pq, un, he, tm, hd, sn, am, pk_un, sup_ne] at ⊢
      exact hR.m0 i hi),
    (fun i hi => by
      try simp (disch := omega) only [nn, mn, ac, le, pq, un, he, tm, hd, sn, am, pk_un, sup_ne] at ⊢
      exact hR.a i hi),
    (fun p hp => by
      try simp (disch := omega) only [nn, mn, ac, le, pq, un, he, tm, hd, sn, am, pk_un, sup_ne] at ⊢
      exact hR.l0 p hp),
    (fun p hp j hj => by
      have hb10 : nv (w (21 + p)) ≤ 10 := (h.l p hp).2
      try simp (disch := omega) only [nn, mn, ac, le, pq, un, he, tm, hd, sn, am, pk_un, sup_ne] at hj
      try simp (disch := omega) only [nn, mn, ac, le, pq, un, he, tm, hd, sn, am, pk_un, sup_ne]
      exact hR.q p hp j hj),
    (fun d hd6 i hi => by
      try simp (disch := omega) only [nn, mn, ac, le, pq, un, he, tm, hd, sn, am, pk_un, sup_ne] at ⊢
      exact hR.s d hd6 i hi),
    (fun d hd6 i hi => by
      try simp (disch := omega) only [nn, mn, ac, le, pq, un, he, tm, hd, sn, am, pk_un, sup_ne] at ⊢
      exact hR.p d hd6 i hi),
    (fun k hk => by
      try simp (disch := omega) only [nn, mn, ac, le, pq, un, he, tm, hd, sn, am, pk_un, sup_ne] at ⊢
      exact hR.u k hk),
    (fun k hk => by
      try simp (disch := omega) only [nn, mn, ac, le, pq, un, he, tm, hd, sn, am, pk_un, sup_ne] at ⊢
      exact hR.g k hk),
    (fun j hj => by
      rw [hh2] at hj
      rw [sup_ne (by decide), sup_eq, pk_un (f := upd w _ _) (by omega)]
      by_cases e : j = he w
      · subst e; rw [upd_eq, upd_eq, trm_ok (by omega) hk0]
      · rw [pk_un e, pk_un (by omega)]; exact hR.b j (by omega))⟩

set_option maxHeartbeats 1000000 in
theorem RC_buf {c : Nat} {S : Nat → Nat → Int32} {w : Nat → Int32} {a k0 j0 : Nat} (hj0 : j0 < he w) (ha : a < sn w) (hk0 : k0 < 96) (hc : c < 1000) (hR : RC c S w) : RC (c) (va_up S 18 (upd (S 18) j0 (nI (a * 96 + k0)))) (upd w (342 + j0) (nI (128 * a + k0))) := by
  have h := hR.wf
  have hsn := h.e.2
  have hhx := h.h.2
  have hs2 : sn (upd w (342 + j0) (nI (128 * a + k0))) = sn w := by unfold sn; rw [pk_un (by omega)]
  have hh2 : he (upd w (342 + j0) (nI (128 * a + k0))) = he w := by unfold he; rw [pk_un (by omega)]
  refine ⟨⟨(by
      try simp (disch := omega) only [nn, mn, ac, le, pq, un, he, tm, hd, sn, am, pk_un, sup_ne] at ⊢
      exact h.n ),
    (fun i hi => by
      try simp (disch := omega) only [nn, mn, ac, le, pq, un, he, tm, hd, sn, am, pk_un, sup_ne] at ⊢
      exact h.m i hi),
    (fun p hp => by
      try simp (disch := omega) only [nn, mn, ac, le, pq, un, he, tm, hd, sn, am, pk_un, sup_ne] at ⊢
      exact h.a p hp),
    (fun i hi j hj hij => by
      try simp (disch := omega) only [nn, mn, ac, le, pq, un, he, tm, hd, sn, am, pk_un, sup_ne] at hij ⊢
      exact h.a0 i hi j hj hij),
    (fun p hp => by
      try simp (disch := omega) only [nn, mn, ac, le, pq, un, he, tm, hd, sn, am, pk_un, sup_ne] at ⊢
      exact h.l p hp),
    (fun p hp hn0 => by
      try simp (disch := omega) only [nn, mn, ac, le, pq, un, he, tm, hd, sn, am, pk_un, sup_ne] at hn0 ⊢
      exact h.l0 p hp hn0),
    (fun p hp j hj => by
      have hb10 : nv (w (21 + p)) ≤ 10 := (h.l p hp).2
      try simp (disch := omega) only [nn, mn, ac, le, pq, un, he, tm, hd, sn, am, pk_un, sup_ne] at hj
      try simp (disch := omega) only [nn, mn, ac, le, pq, un, he, tm, hd, sn, am, pk_un, sup_ne]
      exact h.q p hp j hj),
    (fun d hd6 i hi => by
      try simp (disch := omega) only [nn, mn, ac, le, pq, un, he, tm, hd, sn, am, pk_un, sup_ne] at ⊢
      exact h.s d hd6 i hi),
    (fun d hd6 i hi hne => by
      try simp (disch := omega) only [nn, mn, ac, le, pq, un, he, tm, hd, sn, am, pk_un, sup_ne] at hne ⊢
      exact h.p d hd6 i hi hne),
    (fun k hk => by
      try simp (disch := omega) only [nn, mn, ac, le, pq, un, he, tm, hd, sn, am, pk_un, sup_ne] at ⊢
      exact h.u k hk),
    (by
      try simp (disch := omega) only [nn, mn, ac, le, pq, un, he, tm, hd, sn, am, pk_un, sup_ne] at ⊢
      exact h.h ),
    (fun j hj => by
      rw [hh2] at hj
      rw [hs2]
      by_cases e : j = j0
      · subst e; rw [upd_eq]; exact ⟨a, k0, ha, hk0, rfl⟩
      · rw [pk_un (by omega)]; exact h.b j (by omega)),
    (fun k hk => by
      try simp (disch := omega) only [nn, mn, ac, le, pq, un, he, tm, hd, sn, am, pk_un, sup_ne] at ⊢
      exact h.g k hk),
    (by
      try simp (disch := omega) only [nn, mn, ac, le, pq, un, he, tm, hd, sn, am, pk_un, sup_ne] at ⊢
      exact h.t ),
    (by
      try simp (disch := omega) only [nn, mn, ac, le, pq, un, he, tm, hd, sn, am, pk_un, sup_ne] at ⊢
      exact h.d ),
    (by
      try simp (disch := omega) only [nn, mn, ac, le, pq, un, he, tm, hd, sn, am, pk_un, sup_ne] at ⊢
      exact h.e )⟩,
    (by
      try simp (disch := omega) only [nn, mn, ac, le, pq, un, he, tm, hd, sn, am, pk_un, sup_ne] at ⊢
      exact hR.i ),
    (fun i hi => by
      try simp (disch := omega) only [nn, mn, ac, le, pq, un, he, tm, hd, sn, am, pk_un, sup_ne] at ⊢
      exact hR.m0 i hi),
    (fun i hi => by
      try simp (disch := omega) only [nn, mn, ac, le, pq, un, he, tm, hd, sn, am, pk_un, sup_ne] at ⊢
      exact hR.a i hi),
    (fun p hp => by
      try simp (disch := omega) only [nn, mn, ac, le, pq, un, he, tm, hd, sn, am, pk_un, sup_ne] at ⊢
      exact hR.l0 p hp),
    (fun p hp j hj => by
      have hb10 : nv (w (21 + p)) ≤ 10 := (h.l p hp).2
      try simp (disch := omega) only [nn, mn, ac, le, pq, un, he, tm, hd, sn, am, pk_un, sup_ne] at hj
      try simp (disch := omega) only [nn, mn, ac, le, pq, un, he, tm, hd, sn, am, pk_un, sup_ne]
      exact hR.q p hp j hj),
    (fun d hd6 i hi => by
      try simp (disch := omega) only [nn, mn, ac, le, pq, un, he, tm, hd, sn, am, pk_un, sup_ne] at ⊢
      exact hR.s d hd6 i hi),
    (fun d hd6 i hi => by
      try simp (disch := omega) only [nn, mn, ac, le, pq, un, he, tm, hd, sn, am, pk_un, sup_ne] at ⊢
      exact hR.p d hd6 i hi),
    (fun k hk => by
      try simp (disch := omega) only [nn, mn, ac, le, pq, un, he, tm, hd, sn, am, pk_un, sup_ne] at ⊢
      exact hR.u k hk),
    (fun k hk => by
      try simp (disch := omega) only [nn, mn, ac, le, pq, un, he, tm, hd, sn, am, pk_un, sup_ne] at ⊢
      exact hR.g k hk),
    (fun j hj => by
      rw [hh2] at hj
      rw [sup_eq]
      by_cases e : j = j0
      · subst e; rw [upd_eq, upd_eq, trm_ok (by omega) hk0]
      · rw [pk_un e, pk_un (by omega)]; exact hR.b j (by omega))⟩

set_option maxHeartbeats 1000000 in
theorem RC_cut {c : Nat} {S : Nat → Nat → Int32} {w : Nat → Int32} {q0 : Nat} (hq0 : q0 ≤ he w) (hR : RC c S w) : RC (c) (va_up S 9 (fun _ => nI q0)) (upd w 341 (nI q0)) := by
  have h := hR.wf
  have hhx := h.h.2
  have hh2 : he (upd w 341 (nI q0)) = q0 := by unfold he; rw [upd_eq, nv_nI (by omega)]
  refine ⟨⟨(by
      try simp (disch := omega) only [nn, mn, ac, le, pq, un, he, tm, hd, sn, am, pk_un, sup_ne] at ⊢
      exact h.n ),
    (fun i hi => by
      try simp (disch := omega) only [nn, mn, ac, le, pq, un, he, tm, hd, sn, am, pk_un, sup_ne] at ⊢
      exact h.m i hi),
    (fun p hp => by
      try simp (disch := omega) only [nn, mn, ac, le, pq, un, he, tm, hd, sn, am, pk_un, sup_ne] at ⊢
      exact h.a p hp),
    (fun i hi j hj hij => by
      try simp (disch := omega) only [nn, mn, ac, le, pq, un, he, tm, hd, sn, am, pk_un, sup_ne] at hij ⊢
      exact h.a0 i hi j hj hij),
    (fun p hp => by
      try simp (disch := omega) only [nn, mn, ac, le, pq, un, he, tm, hd, sn, am, pk_un, sup_ne] at ⊢
      exact h.l p hp),
    (fun p hp hn0 => by
      try simp (disch := omega) only [nn, mn, ac, le, pq, un, he, tm, hd, sn, am, pk_un, sup_ne] at hn0 ⊢
      exact h.l0 p hp hn0),
    (fun p hp j hj => by
      have hb10 : nv (w (21 + p)) ≤ 10 := (h.l p hp).2
      try simp (disch := omega) only [nn, mn, ac, le, pq, un, he, tm, hd, sn, am, pk_un, sup_ne] at hj
      try simp (disch := omega) only [nn, mn, ac, le, pq, un, he, tm, hd, sn, am, pk_un, sup_ne]
      exact h.q p hp j hj),
    (fun d hd6 i hi => by
      try simp (disch := omega) only [nn, mn, ac, le, pq, un, he, tm, hd, sn, am, pk_un, sup_ne] at ⊢
      exact h.s d hd6 i hi),
    (fun d hd6 i hi hne => by
      try simp (disch := omega) only [nn, mn, ac, le, pq, un, he, tm, hd, sn, am, pk_un, sup_ne] at hne ⊢
      exact h.p d hd6 i hi hne),
    (fun k hk => by
      try simp (disch := omega) only [nn, mn, ac, le, pq, un, he, tm, hd, sn, am, pk_un, sup_ne] at ⊢
      exact h.u k hk),
    (by rw [hh2, upd_eq]; exact ⟨rfl, by omega⟩),
    (fun j hj => by
      rw [hh2] at hj
      rw [pk_un (by omega), show sn (upd w 341 (nI q0)) = sn w by unfold sn; rw [pk_un (by omega)]]; exact h.b j (by omega)),
    (fun k hk => by
      try simp (disch := omega) only [nn, mn, ac, le, pq, un, he, tm, hd, sn, am, pk_un, sup_ne] at ⊢
      exact h.g k hk),
    (by
      try simp (disch := omega) only [nn, mn, ac, le, pq, un, he, tm, hd, sn, am, pk_un, sup_ne] at ⊢
      exact h.t ),
    (by
      try simp (disch := omega) only [nn, mn, ac, le, pq, un, he, tm, hd, sn, am, pk_un, sup_ne] at ⊢
      exact h.d ),
    (by
      try simp (disch := omega) only [nn, mn, ac, le, pq, un, he, tm, hd, sn, am, pk_un, sup_ne] at ⊢
      exact h.e )⟩,
    ⟨(by (try simp (disch := omega) only [pk_un, sup_ne]); exact hR.i.1), (by (try simp (disch := omega) only [pk_un, sup_ne]); exact hR.i.2.1), (by (try simp (disch := omega) only [pk_un, sup_ne]); exact hR.i.2.2.1), (by (try simp (disch := omega) only [pk_un, sup_ne]); exact hR.i.2.2.2.1), (by (try simp (disch := omega) only [pk_un, sup_ne]); exact hR.i.2.2.2.2.1), (by (try simp (disch := omega) only [pk_un, sup_ne]); exact hR.i.2.2.2.2.2.1), (by (try simp (disch := omega) only [pk_un, sup_ne]); exact hR.i.2.2.2.2.2.2.1), (by (try simp (disch := omega) only [pk_un, sup_ne]); exact hR.i.2.2.2.2.2.2.2.1), (by (try simp (disch := omega) only [pk_un, sup_ne]); exact hR.i.2.2.2.2.2.2.2.2.1), (by rw [sup_eq, upd_eq])⟩,
    (fun i hi => by
      try simp (disch := omega) only [nn, mn, ac, le, pq, un, he, tm, hd, sn, am, pk_un, sup_ne] at ⊢
      exact hR.m0 i hi),
    (fun i hi => by
      try simp (disch := omega) only [nn, mn, ac, le, pq, un, he, tm, hd, sn, am, pk_un, sup_ne] at ⊢
      exact hR.a i hi),
    (fun p hp => by
      try simp (disch := omega) only [nn, mn, ac, le, pq, un, he, tm, hd, sn, am, pk_un, sup_ne] at ⊢
      exact hR.l0 p hp),
    (fun p hp j hj => by
      have hb10 : nv (w (21 + p)) ≤ 10 := (h.l p hp).2
      try simp (disch := omega) only [nn, mn, ac, le, pq, un, he, tm, hd, sn, am, pk_un, sup_ne] at hj
      try simp (disch := omega) only [nn, mn, ac, le, pq, un, he, tm, hd, sn, am, pk_un, sup_ne]
      exact hR.q p hp j hj),
    (fun d hd6 i hi => by
      try simp (disch := omega) only [nn, mn, ac, le, pq, un, he, tm, hd, sn, am, pk_un, sup_ne] at ⊢
      exact hR.s d hd6 i hi),
    (fun d hd6 i hi => by
      try simp (disch := omega) only [nn, mn, ac, le, pq, un, he, tm, hd, sn, am, pk_un, sup_ne] at ⊢
      exact hR.p d hd6 i hi),
    (fun k hk => by
      try simp (disch := omega) only [nn, mn, ac, le, pq, un, he, tm, hd, sn, am, pk_un, sup_ne] at ⊢
      exact hR.u k hk),
    (fun k hk => by
      try simp (disch := omega) only [nn, mn, ac, le, pq, un, he, tm, hd, sn, am, pk_un, sup_ne] at ⊢
      exact hR.g k hk),
    (fun j hj => by
      rw [hh2] at hj
      rw [sup_ne (by decide), pk_un (by omega)]; exact hR.b j (by omega))⟩

set_option maxHeartbeats 1000000 in
theorem RC_sent {c : Nat} {S : Nat → Nat → Int32} {w : Nat → Int32} (hc : c < 1000) (hR : RC c S w) : RC (c + 1) (va_up S 2 (fun _ => nI (sn w + 1))) (upd w 464 (nI (sn w + 1))) := by
  have h := hR.wf
  have hsn := h.e.2
  have hs2 : sn (upd w 464 (nI (sn w + 1))) = sn w + 1 := by unfold sn at hsn ⊢; rw [upd_eq, nv_nI (by omega)]
  refine ⟨⟨(by
      try simp (disch := omega) only [nn, mn, ac, le, pq, un, he, tm, hd, sn, am, pk_un, sup_ne] at ⊢
      exact h.n ),
    (fun i hi => by
      try simp (disch := omega) only [nn, mn, ac, le, pq, un, he, tm, hd, sn, am, pk_un, sup_ne] at ⊢
      exact h.m i hi),
    (fun p hp => by
      try simp (disch := omega) only [nn, mn, ac, le, pq, un, he, tm, hd, sn, am, pk_un, sup_ne] at ⊢
      exact h.a p hp),
    (fun i hi j hj hij => by
      try simp (disch := omega) only [nn, mn, ac, le, pq, un, he, tm, hd, sn, am, pk_un, sup_ne] at hij ⊢
      exact h.a0 i hi j hj hij),
    (fun p hp => by
      try simp (disch := omega) only [nn, mn, ac, le, pq, un, he, tm, hd, sn, am, pk_un, sup_ne] at ⊢
      exact h.l p hp),
    (fun p hp hn0 => by
      try simp (disch := omega) only [nn, mn, ac, le, pq, un, he, tm, hd, sn, am, pk_un, sup_ne] at hn0 ⊢
      exact h.l0 p hp hn0),
    (fun p hp j hj => by
      have hb10 : nv (w (21 + p)) ≤ 10 := (h.l p hp).2
      simp (disch := omega) only [le, pk_un] at hj
      rw [hs2, pk_un (by omega)]; exact okM_mono (h.q p hp j hj) (by omega)),
    (fun d hd6 i hi => by
      try simp (disch := omega) only [nn, mn, ac, le, pq, un, he, tm, hd, sn, am, pk_un, sup_ne] at ⊢
      exact h.s d hd6 i hi),
    (fun d hd6 i hi hne => by
      try simp (disch := omega) only [nn, mn, ac, le, pq, un, he, tm, hd, sn, am, pk_un, sup_ne] at hne ⊢
      exact h.p d hd6 i hi hne),
    (fun k hk => by simp (disch := omega) only [un, tm, pk_un]; exact ⟨(h.u k hk).1, Nat.le_trans (h.u k hk).2.1 (by omega), (h.u k hk).2.2⟩),
    (by
      try simp (disch := omega) only [nn, mn, ac, le, pq, un, he, tm, hd, sn, am, pk_un, sup_ne] at ⊢
      exact h.h ),
    (fun j hj => by
      have hb24 : nv (w 341) ≤ 24 := h.h.2
      simp (disch := omega) only [he, pk_un] at hj
      rw [hs2, pk_un (by omega)]; exact okM_mono (h.b j hj) (by omega)),
    (fun k hk => by
      rw [hs2, pk_un (by omega)]
      rcases h.g k hk with e | ⟨a, ha, e⟩
      · exact Or.inl e
      · exact Or.inr ⟨a, by omega, e⟩),
    (by simp (disch := omega) only [tm, pk_un]; exact ⟨h.t.1, Nat.le_succ_of_le h.t.2⟩),
    (by
      try simp (disch := omega) only [nn, mn, ac, le, pq, un, he, tm, hd, sn, am, pk_un, sup_ne] at ⊢
      exact h.d ),
    (by rw [hs2, upd_eq]; exact ⟨rfl, by omega⟩)⟩,
    ⟨(by (try simp (disch := omega) only [pk_un, sup_ne]); exact hR.i.1), (by (try simp (disch := omega) only [pk_un, sup_ne]); exact hR.i.2.1), (by rw [sup_eq, upd_eq]), (by (try simp (disch := omega) only [pk_un, sup_ne]); exact hR.i.2.2.2.1), (by (try simp (disch := omega) only [pk_un, sup_ne]); exact hR.i.2.2.2.2.1), (by (try simp (disch := omega) only [pk_un, sup_ne]); exact hR.i.2.2.2.2.2.1), (by (try simp (disch := omega) only [pk_un, sup_ne]); exact hR.i.2.2.2.2.2.2.1), (by (try simp (disch := omega) only [pk_un, sup_ne]); exact hR.i.2.2.2.2.2.2.2.1), (by (try simp (disch := omega) only [pk_un, sup_ne]); exact hR.i.2.2.2.2.2.2.2.2.1), (by (try simp (disch := omega) only [pk_un, sup_ne]); exact hR.i.2.2.2.2.2.2.2.2.2)⟩,
    (fun i hi => by
      try simp (disch := omega) only [nn, mn, ac, le, pq, un, he, tm, hd, sn, am, pk_un, sup_ne] at ⊢
      exact hR.m0 i hi),
    (fun i hi => by
      try simp (disch := omega) only [nn, mn, ac, le, pq, un, he, tm, hd, sn, am, pk_un, sup_ne] at ⊢
      exact hR.a i hi),
    (fun p hp => by
      try simp (disch := omega) only [nn, mn, ac, le, pq, un, he, tm, hd, sn, am, pk_un, sup_ne] at ⊢
      exact hR.l0 p hp),
    (fun p hp j hj => by
      have hb10 : nv (w (21 + p)) ≤ 10 := (h.l p hp).2
      try simp (disch := omega) only [nn, mn, ac, le, pq, un, he, tm, hd, sn, am, pk_un, sup_ne] at hj
      try simp (disch := omega) only [nn, mn, ac, le, pq, un, he, tm, hd, sn, am, pk_un, sup_ne]
      exact hR.q p hp j hj),
    (fun d hd6 i hi => by
      try simp (disch := omega) only [nn, mn, ac, le, pq, un, he, tm, hd, sn, am, pk_un, sup_ne] at ⊢
      exact hR.s d hd6 i hi),
    (fun d hd6 i hi => by
      try simp (disch := omega) only [nn, mn, ac, le, pq, un, he, tm, hd, sn, am, pk_un, sup_ne] at ⊢
      exact hR.p d hd6 i hi),
    (fun k hk => by
      try simp (disch := omega) only [nn, mn, ac, le, pq, un, he, tm, hd, sn, am, pk_un, sup_ne] at ⊢
      exact hR.u k hk),
    (fun k hk => by
      try simp (disch := omega) only [nn, mn, ac, le, pq, un, he, tm, hd, sn, am, pk_un, sup_ne] at ⊢
      exact hR.g k hk),
    (fun j hj => by
      have hb24 : nv (w 341) ≤ 24 := h.h.2
      try simp (disch := omega) only [nn, mn, ac, le, pq, un, he, tm, hd, sn, am, pk_un, sup_ne] at hj
      try simp (disch := omega) only [nn, mn, ac, le, pq, un, he, tm, hd, sn, am, pk_un, sup_ne]
      exact hR.b j hj)⟩

set_option maxHeartbeats 1000000 in
theorem RC_until {c : Nat} {S : Nat → Nat → Int32} {w : Nat → Int32} {k0 : Nat} (hk0 : k0 < 96) (hh : ¬ hd w = 0) (hc : c < 1000) (hR : RC c S w) : RC (c) (va_up S 16 (upd (S 16) k0 (nI (tm w + hd w)))) (upd w (245 + k0) (nI (tm w + hd w))) := by
  have h := hR.wf
  have ht := h.t.2
  have hd9 := h.d.2
  have ht2 : tm (upd w (245 + k0) (nI (tm w + hd w))) = tm w := by unfold tm; rw [pk_un (by omega)]
  have hu : ∀ k, k < 96 → un (upd w (245 + k0) (nI (tm w + hd w))) k = if k = k0 then tm w + hd w else un w k := fun k hk => by
    unfold un
    by_cases e : k = k0
    · subst e; rw [upd_eq, if_pos rfl, nv_nI (by omega)]
    · rw [if_neg e, pk_un (by omega)]
  refine ⟨⟨(by
      try simp (disch := omega) only [nn, mn, ac, le, pq, un, he, tm, hd, sn, am, pk_un, sup_ne] at ⊢
      exact h.n ),
    (fun i hi => by
      try simp (disch := omega) only [nn, mn, ac, le, pq, un, he, tm, hd, sn, am, pk_un, sup_ne] at ⊢
      exact h.m i hi),
    (fun p hp => by
      try simp (disch := omega) only [nn, mn, ac, le, pq, un, he, tm, hd, sn, am, pk_un, sup_ne] at ⊢
      exact h.a p hp),
    (fun i hi j hj hij => by
      try simp (disch := omega) only [nn, mn, ac, le, pq, un, he, tm, hd, sn, am, pk_un, sup_ne] at hij ⊢
      exact h.a0 i hi j hj hij),
    (fun p hp => by
      try simp (disch := omega) only [nn, mn, ac, le, pq, un, he, tm, hd, sn, am, pk_un, sup_ne] at ⊢
      exact h.l p hp),
    (fun p hp hn0 => by
      try simp (disch := omega) only [nn, mn, ac, le, pq, un, he, tm, hd, sn, am, pk_un, sup_ne] at hn0 ⊢
      exact h.l0 p hp hn0),
    (fun p hp j hj => by
      have hb10 : nv (w (21 + p)) ≤ 10 := (h.l p hp).2
      try simp (disch := omega) only [nn, mn, ac, le, pq, un, he, tm, hd, sn, am, pk_un, sup_ne] at hj
      try simp (disch := omega) only [nn, mn, ac, le, pq, un, he, tm, hd, sn, am, pk_un, sup_ne]
      exact h.q p hp j hj),
    (fun d hd6 i hi => by
      try simp (disch := omega) only [nn, mn, ac, le, pq, un, he, tm, hd, sn, am, pk_un, sup_ne] at ⊢
      exact h.s d hd6 i hi),
    (fun d hd6 i hi hne => by
      try simp (disch := omega) only [nn, mn, ac, le, pq, un, he, tm, hd, sn, am, pk_un, sup_ne] at hne ⊢
      exact h.p d hd6 i hi hne),
    (fun k hk => by
      rw [hu k hk, ht2]
      by_cases e : k = k0
      · subst e; rw [if_pos rfl, upd_eq]; exact ⟨rfl, by omega, by omega⟩
      · rw [if_neg e, pk_un (by omega)]; exact h.u k hk),
    (by
      try simp (disch := omega) only [nn, mn, ac, le, pq, un, he, tm, hd, sn, am, pk_un, sup_ne] at ⊢
      exact h.h ),
    (fun j hj => by
      have hb24 : nv (w 341) ≤ 24 := h.h.2
      try simp (disch := omega) only [nn, mn, ac, le, pq, un, he, tm, hd, sn, am, pk_un, sup_ne] at hj
      try simp (disch := omega) only [nn, mn, ac, le, pq, un, he, tm, hd, sn, am, pk_un, sup_ne]
      exact h.b j hj),
    (fun k hk => by
      try simp (disch := omega) only [nn, mn, ac, le, pq, un, he, tm, hd, sn, am, pk_un, sup_ne] at ⊢
      exact h.g k hk),
    (by
      try simp (disch := omega) only [nn, mn, ac, le, pq, un, he, tm, hd, sn, am, pk_un, sup_ne] at ⊢
      exact h.t ),
    (by
      try simp (disch := omega) only [nn, mn, ac, le, pq, un, he, tm, hd, sn, am, pk_un, sup_ne] at ⊢
      exact h.d ),
    (by
      try simp (disch := omega) only [nn, mn, ac, le, pq, un, he, tm, hd, sn, am, pk_un, sup_ne] at ⊢
      exact h.e )⟩,
    (by
      try simp (disch := omega) only [nn, mn, ac, le, pq, un, he, tm, hd, sn, am, pk_un, sup_ne] at ⊢
      exact hR.i ),
    (fun i hi => by
      try simp (disch := omega) only [nn, mn, ac, le, pq, un, he, tm, hd, sn, am, pk_un, sup_ne] at ⊢
      exact hR.m0 i hi),
    (fun i hi => by
      try simp (disch := omega) only [nn, mn, ac, le, pq, un, he, tm, hd, sn, am, pk_un, sup_ne] at ⊢
      exact hR.a i hi),
    (fun p hp => by
      try simp (disch := omega) only [nn, mn, ac, le, pq, un, he, tm, hd, sn, am, pk_un, sup_ne] at ⊢
      exact hR.l0 p hp),
    (fun p hp j hj => by
      have hb10 : nv (w (21 + p)) ≤ 10 := (h.l p hp).2
      try simp (disch := omega) only [nn, mn, ac, le, pq, un, he, tm, hd, sn, am, pk_un, sup_ne] at hj
      try simp (disch := omega) only [nn, mn, ac, le, pq, un, he, tm, hd, sn, am, pk_un, sup_ne]
      exact hR.q p hp j hj),
    (fun d hd6 i hi => by
      try simp (disch := omega) only [nn, mn, ac, le, pq, un, he, tm, hd, sn, am, pk_un, sup_ne] at ⊢
      exact hR.s d hd6 i hi),
    (fun d hd6 i hi => by
      try simp (disch := omega) only [nn, mn, ac, le, pq, un, he, tm, hd, sn, am, pk_un, sup_ne] at ⊢
      exact hR.p d hd6 i hi),
    (fun k hk => by
      rw [hu k hk, ht2, sup_eq]
      by_cases e : k = k0
      · subst e; rw [if_pos rfl, upd_eq, upd_eq]; exact ⟨fun e => absurd e (by omega), fun _ => rfl⟩
      · rw [if_neg e, pk_un e, pk_un (by omega)]; exact hR.u k hk),
    (fun k hk => by
      try simp (disch := omega) only [nn, mn, ac, le, pq, un, he, tm, hd, sn, am, pk_un, sup_ne] at ⊢
      exact hR.g k hk),
    (fun j hj => by
      have hb24 : nv (w 341) ≤ 24 := h.h.2
      try simp (disch := omega) only [nn, mn, ac, le, pq, un, he, tm, hd, sn, am, pk_un, sup_ne] at hj
      try simp (disch := omega) only [nn, mn, ac, le, pq, un, he, tm, hd, sn, am, pk_un, sup_ne]
      exact hR.b j hj)⟩

set_option maxHeartbeats 1000000 in
theorem RC_ht {c : Nat} {S : Nat → Nat → Int32} {w : Nat → Int32} {q0 : Nat} (hq0 : q0 ≤ 9) (hR : RC c S w) : RC (c) (va_up S 1 (fun _ => nI q0)) (upd w 463 (nI q0)) := by
  have h := hR.wf
  have hh2 : hd (upd w 463 (nI q0)) = q0 := by unfold hd; rw [upd_eq, nv_nI (by omega)]
  refine ⟨⟨(by
      try simp (disch := omega) only [nn, mn, ac, le, pq, un, he, tm, hd, sn, am, pk_un, sup_ne] at ⊢
      exact h.n ),
    (fun i hi => by
      try simp (disch := omega) only [nn, mn, ac, le, pq, un, he, tm, hd, sn, am, pk_un, sup_ne] at ⊢
      exact h.m i hi),
    (fun p hp => by
      try simp (disch := omega) only [nn, mn, ac, le, pq, un, he, tm, hd, sn, am, pk_un, sup_ne] at ⊢
      exact h.a p hp),
    (fun i hi j hj hij => by
      try simp (disch := omega) only [nn, mn, ac, le, pq, un, he, tm, hd, sn, am, pk_un, sup_ne] at hij ⊢
      exact h.a0 i hi j hj hij),
    (fun p hp => by
      try simp (disch := omega) only [nn, mn, ac, le, pq, un, he, tm, hd, sn, am, pk_un, sup_ne] at ⊢
      exact h.l p hp),
    (fun p hp hn0 => by
      try simp (disch := omega) only [nn, mn, ac, le, pq, un, he, tm, hd, sn, am, pk_un, sup_ne] at hn0 ⊢
      exact h.l0 p hp hn0),
    (fun p hp j hj => by
      have hb10 : nv (w (21 + p)) ≤ 10 := (h.l p hp).2
      try simp (disch := omega) only [nn, mn, ac, le, pq, un, he, tm, hd, sn, am, pk_un, sup_ne] at hj
      try simp (disch := omega) only [nn, mn, ac, le, pq, un, he, tm, hd, sn, am, pk_un, sup_ne]
      exact h.q p hp j hj),
    (fun d hd6 i hi => by
      try simp (disch := omega) only [nn, mn, ac, le, pq, un, he, tm, hd, sn, am, pk_un, sup_ne] at ⊢
      exact h.s d hd6 i hi),
    (fun d hd6 i hi hne => by
      try simp (disch := omega) only [nn, mn, ac, le, pq, un, he, tm, hd, sn, am, pk_un, sup_ne] at hne ⊢
      exact h.p d hd6 i hi hne),
    (fun k hk => by
      try simp (disch := omega) only [nn, mn, ac, le, pq, un, he, tm, hd, sn, am, pk_un, sup_ne] at ⊢
      exact h.u k hk),
    (by
      try simp (disch := omega) only [nn, mn, ac, le, pq, un, he, tm, hd, sn, am, pk_un, sup_ne] at ⊢
      exact h.h ),
    (fun j hj => by
      have hb24 : nv (w 341) ≤ 24 := h.h.2
      try simp (disch := omega) only [nn, mn, ac, le, pq, un, he, tm, hd, sn, am, pk_un, sup_ne] at hj
      try simp (disch := omega) only [nn, mn, ac, le, pq, un, he, tm, hd, sn, am, pk_un, sup_ne]
      exact h.b j hj),
    (fun k hk => by
      try simp (disch := omega) only [nn, mn, ac, le, pq, un, he, tm, hd, sn, am, pk_un, sup_ne] at ⊢
      exact h.g k hk),
    (by
      try simp (disch := omega) only [nn, mn, ac, le, pq, un, he, tm, hd, sn, am, pk_un, sup_ne] at ⊢
      exact h.t ),
    (by rw [hh2, upd_eq]; exact ⟨rfl, hq0⟩),
    (by
      try simp (disch := omega) only [nn, mn, ac, le, pq, un, he, tm, hd, sn, am, pk_un, sup_ne] at ⊢
      exact h.e )⟩,
    ⟨(by (try simp (disch := omega) only [pk_un, sup_ne]); exact hR.i.1), (by rw [sup_eq, upd_eq]), (by (try simp (disch := omega) only [pk_un, sup_ne]); exact hR.i.2.2.1), (by (try simp (disch := omega) only [pk_un, sup_ne]); exact hR.i.2.2.2.1), (by (try simp (disch := omega) only [pk_un, sup_ne]); exact hR.i.2.2.2.2.1), (by (try simp (disch := omega) only [pk_un, sup_ne]); exact hR.i.2.2.2.2.2.1), (by (try simp (disch := omega) only [pk_un, sup_ne]); exact hR.i.2.2.2.2.2.2.1), (by (try simp (disch := omega) only [pk_un, sup_ne]); exact hR.i.2.2.2.2.2.2.2.1), (by (try simp (disch := omega) only [pk_un, sup_ne]); exact hR.i.2.2.2.2.2.2.2.2.1), (by (try simp (disch := omega) only [pk_un, sup_ne]); exact hR.i.2.2.2.2.2.2.2.2.2)⟩,
    (fun i hi => by
      try simp (disch := omega) only [nn, mn, ac, le, pq, un, he, tm, hd, sn, am, pk_un, sup_ne] at ⊢
      exact hR.m0 i hi),
    (fun i hi => by
      try simp (disch := omega) only [nn, mn, ac, le, pq, un, he, tm, hd, sn, am, pk_un, sup_ne] at ⊢
      exact hR.a i hi),
    (fun p hp => by
      try simp (disch := omega) only [nn, mn, ac, le, pq, un, he, tm, hd, sn, am, pk_un, sup_ne] at ⊢
      exact hR.l0 p hp),
    (fun p hp j hj => by
      have hb10 : nv (w (21 + p)) ≤ 10 := (h.l p hp).2
      try simp (disch := omega) only [nn, mn, ac, le, pq, un, he, tm, hd, sn, am, pk_un, sup_ne] at hj
      try simp (disch := omega) only [nn, mn, ac, le, pq, un, he, tm, hd, sn, am, pk_un, sup_ne]
      exact hR.q p hp j hj),
    (fun d hd6 i hi => by
      try simp (disch := omega) only [nn, mn, ac, le, pq, un, he, tm, hd, sn, am, pk_un, sup_ne] at ⊢
      exact hR.s d hd6 i hi),
    (fun d hd6 i hi => by
      try simp (disch := omega) only [nn, mn, ac, le, pq, un, he, tm, hd, sn, am, pk_un, sup_ne] at ⊢
      exact hR.p d hd6 i hi),
    (fun k hk => by
      try simp (disch := omega) only [nn, mn, ac, le, pq, un, he, tm, hd, sn, am, pk_un, sup_ne] at ⊢
      exact hR.u k hk),
    (fun k hk => by
      try simp (disch := omega) only [nn, mn, ac, le, pq, un, he, tm, hd, sn, am, pk_un, sup_ne] at ⊢
      exact hR.g k hk),
    (fun j hj => by
      have hb24 : nv (w 341) ≤ 24 := h.h.2
      try simp (disch := omega) only [nn, mn, ac, le, pq, un, he, tm, hd, sn, am, pk_un, sup_ne] at hj
      try simp (disch := omega) only [nn, mn, ac, le, pq, un, he, tm, hd, sn, am, pk_un, sup_ne]
      exact hR.b j hj)⟩

set_option maxHeartbeats 1000000 in
theorem RC_mv {c : Nat} {S : Nat → Nat → Int32} {w : Nat → Int32} {p0 j0 j1 : Nat} (hp0 : p0 < 16) (hj0 : j0 < le w p0) (hj1 : j1 < le w p0) (hR : RC c S w) : RC (c) (va_up S 13 (upd (S 13) (p0 * 10 + j0) (S 13 (p0 * 10 + j1)))) (upd w (37 + 10 * p0 + j0) (w (37 + 10 * p0 + j1))) := by
  have h := hR.wf
  have hl10 := (h.l p0 hp0).2
  refine ⟨⟨(by
      try simp (disch := omega) only [nn, mn, ac, le, pq, un, he, tm, hd, sn, am, pk_un, sup_ne] at ⊢
      exact h.n ),
    (fun i hi => by
      try simp (disch := omega) only [nn, mn, ac, le, pq, un, he, tm, hd, sn, am, pk_un, sup_ne] at ⊢
      exact h.m i hi),
    (fun p hp => by
      try simp (disch := omega) only [nn, mn, ac, le, pq, un, he, tm, hd, sn, am, pk_un, sup_ne] at ⊢
      exact h.a p hp),
    (fun i hi j hj hij => by
      try simp (disch := omega) only [nn, mn, ac, le, pq, un, he, tm, hd, sn, am, pk_un, sup_ne] at hij ⊢
      exact h.a0 i hi j hj hij),
    (fun p hp => by
      try simp (disch := omega) only [nn, mn, ac, le, pq, un, he, tm, hd, sn, am, pk_un, sup_ne] at ⊢
      exact h.l p hp),
    (fun p hp hn0 => by
      try simp (disch := omega) only [nn, mn, ac, le, pq, un, he, tm, hd, sn, am, pk_un, sup_ne] at hn0 ⊢
      exact h.l0 p hp hn0),
    (fun p hp j hj => by
      have hl1 := (h.l p hp).2
      have hs2 : sn (upd w (37 + 10 * p0 + j0) (w (37 + 10 * p0 + j1))) = sn w := by unfold sn; rw [pk_un (by omega)]
      have hj2 : j < le w p := by simp (disch := omega) only [le, pk_un] at hj; exact hj
      rw [hs2]
      by_cases e : 37 + 10 * p + j = 37 + 10 * p0 + j0
      · rw [e, upd_eq]; exact h.q p0 hp0 j1 hj1
      · rw [pk_un e]; exact h.q p hp j hj2),
    (fun d hd6 i hi => by
      try simp (disch := omega) only [nn, mn, ac, le, pq, un, he, tm, hd, sn, am, pk_un, sup_ne] at ⊢
      exact h.s d hd6 i hi),
    (fun d hd6 i hi hne => by
      try simp (disch := omega) only [nn, mn, ac, le, pq, un, he, tm, hd, sn, am, pk_un, sup_ne] at hne ⊢
      exact h.p d hd6 i hi hne),
    (fun k hk => by
      try simp (disch := omega) only [nn, mn, ac, le, pq, un, he, tm, hd, sn, am, pk_un, sup_ne] at ⊢
      exact h.u k hk),
    (by
      try simp (disch := omega) only [nn, mn, ac, le, pq, un, he, tm, hd, sn, am, pk_un, sup_ne] at ⊢
      exact h.h ),
    (fun j hj => by
      have hb24 : nv (w 341) ≤ 24 := h.h.2
      try simp (disch := omega) only [nn, mn, ac, le, pq, un, he, tm, hd, sn, am, pk_un, sup_ne] at hj
      try simp (disch := omega) only [nn, mn, ac, le, pq, un, he, tm, hd, sn, am, pk_un, sup_ne]
      exact h.b j hj),
    (fun k hk => by
      try simp (disch := omega) only [nn, mn, ac, le, pq, un, he, tm, hd, sn, am, pk_un, sup_ne] at ⊢
      exact h.g k hk),
    (by
      try simp (disch := omega) only [nn, mn, ac, le, pq, un, he, tm, hd, sn, am, pk_un, sup_ne] at ⊢
      exact h.t ),
    (by
      try simp (disch := omega) only [nn, mn, ac, le, pq, un, he, tm, hd, sn, am, pk_un, sup_ne] at ⊢
      exact h.d ),
    (by
      try simp (disch := omega) only [nn, mn, ac, le, pq, un, he, tm, hd, sn, am, pk_un, sup_ne] at ⊢
      exact h.e )⟩,
    (by
      try simp (disch := omega) only [nn, mn, ac, le, pq, un, he, tm, hd, sn, am, pk_un, sup_ne] at ⊢
      exact hR.i ),
    (fun i hi => by
      try simp (disch := omega) only [nn, mn, ac, le, pq, un, he, tm, hd, sn, am, pk_un, sup_ne] at ⊢
      exact hR.m0 i hi),
    (fun i hi => by
      try simp (disch := omega) only [nn, mn, ac, le, pq, un, he, tm, hd, sn, am, pk_un, sup_ne] at ⊢
      exact hR.a i hi),
    (fun p hp => by
      try simp (disch := omega) only [nn, mn, ac, le, pq, un, he, tm, hd, sn, am, pk_un, sup_ne] at ⊢
      exact hR.l0 p hp),
    (fun p hp j hj => by
      have hl1 := (h.l p hp).2
      have hj2 : j < le w p := by simp (disch := omega) only [le, pk_un] at hj; exact hj
      rw [sup_eq]
      by_cases e : 37 + 10 * p + j = 37 + 10 * p0 + j0
      · rw [e, show p * 10 + j = p0 * 10 + j0 by omega, upd_eq, upd_eq]; exact hR.q p0 hp0 j1 hj1
      · rw [pk_un e, pk_un (by omega)]; exact hR.q p hp j hj2),
    (fun d hd6 i hi => by
      try simp (disch := omega) only [nn, mn, ac, le, pq, un, he, tm, hd, sn, am, pk_un, sup_ne] at ⊢
      exact hR.s d hd6 i hi),
    (fun d hd6 i hi => by
      try simp (disch := omega) only [nn, mn, ac, le, pq, un, he, tm, hd, sn, am, pk_un, sup_ne] at ⊢
      exact hR.p d hd6 i hi),
    (fun k hk => by
      try simp (disch := omega) only [nn, mn, ac, le, pq, un, he, tm, hd, sn, am, pk_un, sup_ne] at ⊢
      exact hR.u k hk),
    (fun k hk => by
      try simp (disch := omega) only [nn, mn, ac, le, pq, un, he, tm, hd, sn, am, pk_un, sup_ne] at ⊢
      exact hR.g k hk),
    (fun j hj => by
      have hb24 : nv (w 341) ≤ 24 := h.h.2
      try simp (disch := omega) only [nn, mn, ac, le, pq, un, he, tm, hd, sn, am, pk_un, sup_ne] at hj
      try simp (disch := omega) only [nn, mn, ac, le, pq, un, he, tm, hd, sn, am, pk_un, sup_ne]
      exact hR.b j hj)⟩

set_option maxHeartbeats 1000000 in
theorem RC_len {c : Nat} {S : Nat → Nat → Int32} {w : Nat → Int32} {p0 q0 : Nat} (hp0 : p0 < 16) (hq0 : q0 ≤ le w p0) (hR : RC c S w) : RC (c) (va_up S 12 (upd (S 12) p0 (nI q0))) (upd w (21 + p0) (nI q0)) := by
  have h := hR.wf
  have hl10 := (h.l p0 hp0).2
  have hle : ∀ p, p < 16 → le (upd w (21 + p0) (nI q0)) p = if p = p0 then q0 else le w p := fun p hp => by
    unfold le at hl10 hq0 ⊢
    by_cases e : p = p0
    · subst e; rw [upd_eq, if_pos rfl, nv_nI (by omega)]
    · rw [if_neg e, pk_un (by omega)]
  refine ⟨⟨(by
      try simp (disch := omega) only [nn, mn, ac, le, pq, un, he, tm, hd, sn, am, pk_un, sup_ne] at ⊢
      exact h.n ),
    (fun i hi => by
      try simp (disch := omega) only [nn, mn, ac, le, pq, un, he, tm, hd, sn, am, pk_un, sup_ne] at ⊢
      exact h.m i hi),
    (fun p hp => by
      try simp (disch := omega) only [nn, mn, ac, le, pq, un, he, tm, hd, sn, am, pk_un, sup_ne] at ⊢
      exact h.a p hp),
    (fun i hi j hj hij => by
      try simp (disch := omega) only [nn, mn, ac, le, pq, un, he, tm, hd, sn, am, pk_un, sup_ne] at hij ⊢
      exact h.a0 i hi j hj hij),
    (fun p hp => by
      by_cases e : p = p0
      · subst e; rw [hle p hp, if_pos rfl, upd_eq]; exact ⟨rfl, by omega⟩
      · rw [hle p hp, if_neg e, pk_un (by omega)]; exact h.l p hp),
    (fun p hp hn0 => by
      have hz := h.l0 p hp (by simp (disch := omega) only [nn, pk_un] at hn0; exact hn0)
      rw [hle p hp]
      by_cases e : p = p0
      · subst e; rw [if_pos rfl]; omega
      · rw [if_neg e]; exact hz),
    (fun p hp j hj => by
      have hl1 := (h.l p hp).2
      have hj2 : j < le w p := by
        rw [hle p hp] at hj
        by_cases e : p = p0
        · subst e; rw [if_pos rfl] at hj; omega
        · rw [if_neg e] at hj; exact hj
      rw [show sn (upd w (21 + p0) (nI q0)) = sn w by unfold sn; rw [pk_un (by omega)], pk_un (by omega)]; exact h.q p hp j hj2),
    (fun d hd6 i hi => by
      try simp (disch := omega) only [nn, mn, ac, le, pq, un, he, tm, hd, sn, am, pk_un, sup_ne] at ⊢
      exact h.s d hd6 i hi),
    (fun d hd6 i hi hne => by
      try simp (disch := omega) only [nn, mn, ac, le, pq, un, he, tm, hd, sn, am, pk_un, sup_ne] at hne ⊢
      exact h.p d hd6 i hi hne),
    (fun k hk => by
      try simp (disch := omega) only [nn, mn, ac, le, pq, un, he, tm, hd, sn, am, pk_un, sup_ne] at ⊢
      exact h.u k hk),
    (by
      try simp (disch := omega) only [nn, mn, ac, le, pq, un, he, tm, hd, sn, am, pk_un, sup_ne] at ⊢
      exact h.h ),
    (fun j hj => by
      have hb24 : nv (w 341) ≤ 24 := h.h.2
      try simp (disch := omega) only [nn, mn, ac, le, pq, un, he, tm, hd, sn, am, pk_un, sup_ne] at hj
      try simp (disch := omega) only [nn, mn, ac, le, pq, un, he, tm, hd, sn, am, pk_un, sup_ne]
      exact h.b j hj),
    (fun k hk => by
      try simp (disch := omega) only [nn, mn, ac, le, pq, un, he, tm, hd, sn, am, pk_un, sup_ne] at ⊢
      exact h.g k hk),
    (by
      try simp (disch := omega) only [nn, mn, ac, le, pq, un, he, tm, hd, sn, am, pk_un, sup_ne] at ⊢
      exact h.t ),
    (by
      try simp (disch := omega) only [nn, mn, ac, le, pq, un, he, tm, hd, sn, am, pk_un, sup_ne] at ⊢
      exact h.d ),
    (by
      try simp (disch := omega) only [nn, mn, ac, le, pq, un, he, tm, hd, sn, am, pk_un, sup_ne] at ⊢
      exact h.e )⟩,
    (by
      try simp (disch := omega) only [nn, mn, ac, le, pq, un, he, tm, hd, sn, am, pk_un, sup_ne] at ⊢
      exact hR.i ),
    (fun i hi => by
      try simp (disch := omega) only [nn, mn, ac, le, pq, un, he, tm, hd, sn, am, pk_un, sup_ne] at ⊢
      exact hR.m0 i hi),
    (fun i hi => by
      try simp (disch := omega) only [nn, mn, ac, le, pq, un, he, tm, hd, sn, am, pk_un, sup_ne] at ⊢
      exact hR.a i hi),
    (fun p hp => by
      rw [sup_eq]
      by_cases e : p = p0
      · subst e; rw [upd_eq, upd_eq]
      · rw [pk_un e, pk_un (by omega)]; exact hR.l0 p hp),
    (fun p hp j hj => by
      have hl1 := (h.l p hp).2
      have hj2 : j < le w p := by
        rw [hle p hp] at hj
        by_cases e : p = p0
        · subst e; rw [if_pos rfl] at hj; omega
        · rw [if_neg e] at hj; exact hj
      rw [sup_ne (by decide), pk_un (by omega)]; exact hR.q p hp j hj2),
    (fun d hd6 i hi => by
      try simp (disch := omega) only [nn, mn, ac, le, pq, un, he, tm, hd, sn, am, pk_un, sup_ne] at ⊢
      exact hR.s d hd6 i hi),
    (fun d hd6 i hi => by
      try simp (disch := omega) only [nn, mn, ac, le, pq, un, he, tm, hd, sn, am, pk_un, sup_ne] at ⊢
      exact hR.p d hd6 i hi),
    (fun k hk => by
      try simp (disch := omega) only [nn, mn, ac, le, pq, un, he, tm, hd, sn, am, pk_un, sup_ne] at ⊢
      exact hR.u k hk),
    (fun k hk => by
      try simp (disch := omega) only [nn, mn, ac, le, pq, un, he, tm, hd, sn, am, pk_un, sup_ne] at ⊢
      exact hR.g k hk),
    (fun j hj => by
      have hb24 : nv (w 341) ≤ 24 := h.h.2
      try simp (disch := omega) only [nn, mn, ac, le, pq, un, he, tm, hd, sn, am, pk_un, sup_ne] at hj
      try simp (disch := omega) only [nn, mn, ac, le, pq, un, he, tm, hd, sn, am, pk_un, sup_ne]
      exact hR.b j hj)⟩

set_option maxHeartbeats 1000000 in
theorem RC_flag {c : Nat} {S : Nat → Nat → Int32} {w : Nat → Int32} {i0 l0 v0 : Nat} (hi0 : i0 < 4) (hl0 : l0 < mn w i0) (hv : v0 ≤ 1) (hR : RC c S w) : RC (c) (va_up S 11 (upd (S 11) i0 (nI (am w i0 + v0 * 2 ^ l0 - ac w (4 * i0 + l0) * 2 ^ l0)))) (upd w (5 + (4 * i0 + l0)) (nI v0)) := by
  have h := hR.wf
  have hm4 := (h.m i0 hi0).2
  have hac : ∀ p, p < 16 → ac (upd w (5 + (4 * i0 + l0)) (nI v0)) p = if p = 4 * i0 + l0 then v0 else ac w p := fun p hp => by
    unfold ac
    by_cases e : p = 4 * i0 + l0
    · rw [if_pos e, e, upd_eq, nv_nI (by omega)]
    · rw [if_neg e, pk_un (by omega)]
  have hmm : ∀ i, i < 4 → mn (upd w (5 + (4 * i0 + l0)) (nI v0)) i = mn w i := fun i hi => by unfold mn; rw [pk_un (by omega)]
  have ham : ∀ i, i < 4 → am (upd w (5 + (4 * i0 + l0)) (nI v0)) i = if i = i0 then am w i0 + v0 * 2 ^ l0 - ac w (4 * i0 + l0) * 2 ^ l0 else am w i := fun i hi => by
    have a0 := (h.a (4 * i) (by omega)).2
    have a1 := (h.a (4 * i + 1) (by omega)).2
    have a2 := (h.a (4 * i + 2) (by omega)).2
    have a3 := (h.a (4 * i + 3) (by omega)).2
    unfold am
    rw [hac _ (by omega), hac _ (by omega), hac _ (by omega), hac _ (by omega)]
    by_cases e : i = i0
    · subst e
      rcases (show l0 = 0 ∨ l0 = 1 ∨ l0 = 2 ∨ l0 = 3 by omega) with rfl | rfl | rfl | rfl <;> simp <;> omega
    · rw [if_neg (by omega), if_neg (by omega), if_neg (by omega), if_neg (by omega), if_neg e]
  refine ⟨⟨(by
      try simp (disch := omega) only [nn, mn, ac, le, pq, un, he, tm, hd, sn, am, pk_un, sup_ne] at ⊢
      exact h.n ),
    (fun i hi => by
      try simp (disch := omega) only [nn, mn, ac, le, pq, un, he, tm, hd, sn, am, pk_un, sup_ne] at ⊢
      exact h.m i hi),
    (fun p hp => by
      rw [hac p hp]
      by_cases e : p = 4 * i0 + l0
      · rw [if_pos e, e, upd_eq]; exact ⟨rfl, hv⟩
      · rw [if_neg e, pk_un (by omega)]; exact h.a p hp),
    (fun i hi j hj hij => by
      rw [hmm i hi] at hij
      rw [hac _ (by omega), if_neg (fun e => by
        have e1 : i = i0 := by omega
        subst e1
        omega)]
      exact h.a0 i hi j hj hij),
    (fun p hp => by
      try simp (disch := omega) only [nn, mn, ac, le, pq, un, he, tm, hd, sn, am, pk_un, sup_ne] at ⊢
      exact h.l p hp),
    (fun p hp hn0 => by
      try simp (disch := omega) only [nn, mn, ac, le, pq, un, he, tm, hd, sn, am, pk_un, sup_ne] at hn0 ⊢
      exact h.l0 p hp hn0),
    (fun p hp j hj => by
      have hb10 : nv (w (21 + p)) ≤ 10 := (h.l p hp).2
      try simp (disch := omega) only [nn, mn, ac, le, pq, un, he, tm, hd, sn, am, pk_un, sup_ne] at hj
      try simp (disch := omega) only [nn, mn, ac, le, pq, un, he, tm, hd, sn, am, pk_un, sup_ne]
      exact h.q p hp j hj),
    (fun d hd6 i hi => by
      try simp (disch := omega) only [nn, mn, ac, le, pq, un, he, tm, hd, sn, am, pk_un, sup_ne] at ⊢
      exact h.s d hd6 i hi),
    (fun d hd6 i hi hne => by
      try simp (disch := omega) only [nn, mn, ac, le, pq, un, he, tm, hd, sn, am, pk_un, sup_ne] at hne ⊢
      exact h.p d hd6 i hi hne),
    (fun k hk => by
      try simp (disch := omega) only [nn, mn, ac, le, pq, un, he, tm, hd, sn, am, pk_un, sup_ne] at ⊢
      exact h.u k hk),
    (by
      try simp (disch := omega) only [nn, mn, ac, le, pq, un, he, tm, hd, sn, am, pk_un, sup_ne] at ⊢
      exact h.h ),
    (fun j hj => by
      have hb24 : nv (w 341) ≤ 24 := h.h.2
      try simp (disch := omega) only [nn, mn, ac, le, pq, un, he, tm, hd, sn, am, pk_un, sup_ne] at hj
      try simp (disch := omega) only [nn, mn, ac, le, pq, un, he, tm, hd, sn, am, pk_un, sup_ne]
      exact h.b j hj),
    (fun k hk => by
      try simp (disch := omega) only [nn, mn, ac, le, pq, un, he, tm, hd, sn, am, pk_un, sup_ne] at ⊢
      exact h.g k hk),
    (by
      try simp (disch := omega) only [nn, mn, ac, le, pq, un, he, tm, hd, sn, am, pk_un, sup_ne] at ⊢
      exact h.t ),
    (by
      try simp (disch := omega) only [nn, mn, ac, le, pq, un, he, tm, hd, sn, am, pk_un, sup_ne] at ⊢
      exact h.d ),
    (by
      try simp (disch := omega) only [nn, mn, ac, le, pq, un, he, tm, hd, sn, am, pk_un, sup_ne] at ⊢
      exact h.e )⟩,
    (by
      try simp (disch := omega) only [nn, mn, ac, le, pq, un, he, tm, hd, sn, am, pk_un, sup_ne] at ⊢
      exact hR.i ),
    (fun i hi => by
      try simp (disch := omega) only [nn, mn, ac, le, pq, un, he, tm, hd, sn, am, pk_un, sup_ne] at ⊢
      exact hR.m0 i hi),
    (fun i hi => by
      rw [ham i hi, sup_eq]
      by_cases e : i = i0
      · subst e; rw [upd_eq, if_pos rfl]
      · rw [pk_un e, if_neg e]; exact hR.a i hi),
    (fun p hp => by
      try simp (disch := omega) only [nn, mn, ac, le, pq, un, he, tm, hd, sn, am, pk_un, sup_ne] at ⊢
      exact hR.l0 p hp),
    (fun p hp j hj => by
      have hb10 : nv (w (21 + p)) ≤ 10 := (h.l p hp).2
      try simp (disch := omega) only [nn, mn, ac, le, pq, un, he, tm, hd, sn, am, pk_un, sup_ne] at hj
      try simp (disch := omega) only [nn, mn, ac, le, pq, un, he, tm, hd, sn, am, pk_un, sup_ne]
      exact hR.q p hp j hj),
    (fun d hd6 i hi => by
      try simp (disch := omega) only [nn, mn, ac, le, pq, un, he, tm, hd, sn, am, pk_un, sup_ne] at ⊢
      exact hR.s d hd6 i hi),
    (fun d hd6 i hi => by
      try simp (disch := omega) only [nn, mn, ac, le, pq, un, he, tm, hd, sn, am, pk_un, sup_ne] at ⊢
      exact hR.p d hd6 i hi),
    (fun k hk => by
      try simp (disch := omega) only [nn, mn, ac, le, pq, un, he, tm, hd, sn, am, pk_un, sup_ne] at ⊢
      exact hR.u k hk),
    (fun k hk => by
      try simp (disch := omega) only [nn, mn, ac, le, pq, un, he, tm, hd, sn, am, pk_un, sup_ne] at ⊢
      exact hR.g k hk),
    (fun j hj => by
      have hb24 : nv (w 341) ≤ 24 := h.h.2
      try simp (disch := omega) only [nn, mn, ac, le, pq, un, he, tm, hd, sn, am, pk_un, sup_ne] at hj
      try simp (disch := omega) only [nn, mn, ac, le, pq, un, he, tm, hd, sn, am, pk_un, sup_ne]
      exact hR.b j hj)⟩

set_option maxHeartbeats 1000000 in
theorem RC_rst {c : Nat} {S : Nat → Nat → Int32} {w : Nat → Int32} {d0 i0 : Nat} {x : Int32} (hd0 : d0 < 6) (hi0 : i0 < 4) (hx : okS x) (hpr : ¬ x = -1 → w (221 + 4 * d0 + i0) = nI (pq w d0 i0) ∧ pq w d0 i0 ≤ 2) (hR : RC c S w) : RC (c) (va_up S 14 (upd (S 14) (d0 * 4 + i0) x)) (upd w (197 + 4 * d0 + i0) x) := by
  have h := hR.wf
  refine ⟨⟨(by
      try simp (disch := omega) only [nn, mn, ac, le, pq, un, he, tm, hd, sn, am, pk_un, sup_ne] at ⊢
      exact h.n ),
    (fun i hi => by
      try simp (disch := omega) only [nn, mn, ac, le, pq, un, he, tm, hd, sn, am, pk_un, sup_ne] at ⊢
      exact h.m i hi),
    (fun p hp => by
      try simp (disch := omega) only [nn, mn, ac, le, pq, un, he, tm, hd, sn, am, pk_un, sup_ne] at ⊢
      exact h.a p hp),
    (fun i hi j hj hij => by
      try simp (disch := omega) only [nn, mn, ac, le, pq, un, he, tm, hd, sn, am, pk_un, sup_ne] at hij ⊢
      exact h.a0 i hi j hj hij),
    (fun p hp => by
      try simp (disch := omega) only [nn, mn, ac, le, pq, un, he, tm, hd, sn, am, pk_un, sup_ne] at ⊢
      exact h.l p hp),
    (fun p hp hn0 => by
      try simp (disch := omega) only [nn, mn, ac, le, pq, un, he, tm, hd, sn, am, pk_un, sup_ne] at hn0 ⊢
      exact h.l0 p hp hn0),
    (fun p hp j hj => by
      have hb10 : nv (w (21 + p)) ≤ 10 := (h.l p hp).2
      try simp (disch := omega) only [nn, mn, ac, le, pq, un, he, tm, hd, sn, am, pk_un, sup_ne] at hj
      try simp (disch := omega) only [nn, mn, ac, le, pq, un, he, tm, hd, sn, am, pk_un, sup_ne]
      exact h.q p hp j hj),
    (fun d hd6 i hi => by
      by_cases e : 197 + 4 * d + i = 197 + 4 * d0 + i0
      · rw [e, upd_eq]; exact hx
      · rw [pk_un e]; exact h.s d hd6 i hi),
    (fun d hd6 i hi hne => by
      have hq : pq (upd w (197 + 4 * d0 + i0) x) d i = pq w d i := by unfold pq; rw [pk_un (by omega)]
      rw [hq, pk_un (show 221 + 4 * d + i ≠ 197 + 4 * d0 + i0 by omega)]
      by_cases e : 197 + 4 * d + i = 197 + 4 * d0 + i0
      · rw [e, upd_eq] at hne
        have e1 : d = d0 := by omega
        have e2 : i = i0 := by omega
        subst e1 e2; exact hpr hne
      · rw [pk_un e] at hne; exact h.p d hd6 i hi hne),
    (fun k hk => by
      try simp (disch := omega) only [nn, mn, ac, le, pq, un, he, tm, hd, sn, am, pk_un, sup_ne] at ⊢
      exact h.u k hk),
    (by
      try simp (disch := omega) only [nn, mn, ac, le, pq, un, he, tm, hd, sn, am, pk_un, sup_ne] at ⊢
      exact h.h ),
    (fun j hj => by
      have hb24 : nv (w 341) ≤ 24 := h.h.2
      try simp (disch := omega) only [nn, mn, ac, le, pq, un, he, tm, hd, sn, am, pk_un, sup_ne] at hj
      try simp (disch := omega) only [nn, mn, ac, le, pq, un, he, tm, hd, sn, am, pk_un, sup_ne]
      exact h.b j hj),
    (fun k hk => by
      try simp (disch := omega) only [nn, mn, ac, le, pq, un, he, tm, hd, sn, am, pk_un, sup_ne] at ⊢
      exact h.g k hk),
    (by
      try simp (disch := omega) only [nn, mn, ac, le, pq, un, he, tm, hd, sn, am, pk_un, sup_ne] at ⊢
      exact h.t ),
    (by
      try simp (disch := omega) only [nn, mn, ac, le, pq, un, he, tm, hd, sn, am, pk_un, sup_ne] at ⊢
      exact h.d ),
    (by
      try simp (disch := omega) only [nn, mn, ac, le, pq, un, he, tm, hd, sn, am, pk_un, sup_ne] at ⊢
      exact h.e )⟩,
    (by
      try simp (disch := omega) only [nn, mn, ac, le, pq, un, he, tm, hd, sn, am, pk_un, sup_ne] at ⊢
      exact hR.i ),
    (fun i hi => by
      try simp (disch := omega) only [nn, mn, ac, le, pq, un, he, tm, hd, sn, am, pk_un, sup_ne] at ⊢
      exact hR.m0 i hi),
    (fun i hi => by
      try simp (disch := omega) only [nn, mn, ac, le, pq, un, he, tm, hd, sn, am, pk_un, sup_ne] at ⊢
      exact hR.a i hi),
    (fun p hp => by
      try simp (disch := omega) only [nn, mn, ac, le, pq, un, he, tm, hd, sn, am, pk_un, sup_ne] at ⊢
      exact hR.l0 p hp),
    (fun p hp j hj => by
      have hb10 : nv (w (21 + p)) ≤ 10 := (h.l p hp).2
      try simp (disch := omega) only [nn, mn, ac, le, pq, un, he, tm, hd, sn, am, pk_un, sup_ne] at hj
      try simp (disch := omega) only [nn, mn, ac, le, pq, un, he, tm, hd, sn, am, pk_un, sup_ne]
      exact hR.q p hp j hj),
    (fun d hd6 i hi => by
      rw [sup_eq]
      by_cases e : 197 + 4 * d + i = 197 + 4 * d0 + i0
      · rw [e, show d * 4 + i = d0 * 4 + i0 by omega, upd_eq, upd_eq]
      · rw [pk_un e, pk_un (by omega)]; exact hR.s d hd6 i hi),
    (fun d hd6 i hi => by
      try simp (disch := omega) only [nn, mn, ac, le, pq, un, he, tm, hd, sn, am, pk_un, sup_ne] at ⊢
      exact hR.p d hd6 i hi),
    (fun k hk => by
      try simp (disch := omega) only [nn, mn, ac, le, pq, un, he, tm, hd, sn, am, pk_un, sup_ne] at ⊢
      exact hR.u k hk),
    (fun k hk => by
      try simp (disch := omega) only [nn, mn, ac, le, pq, un, he, tm, hd, sn, am, pk_un, sup_ne] at ⊢
      exact hR.g k hk),
    (fun j hj => by
      have hb24 : nv (w 341) ≤ 24 := h.h.2
      try simp (disch := omega) only [nn, mn, ac, le, pq, un, he, tm, hd, sn, am, pk_un, sup_ne] at hj
      try simp (disch := omega) only [nn, mn, ac, le, pq, un, he, tm, hd, sn, am, pk_un, sup_ne]
      exact hR.b j hj)⟩

set_option maxHeartbeats 1000000 in
theorem RC_rpr {c : Nat} {S : Nat → Nat → Int32} {w : Nat → Int32} {d0 i0 : Nat} {x : Int32} (hd0 : d0 < 6) (hi0 : i0 < 4) (hx : ¬ w (197 + 4 * d0 + i0) = -1 → ∃ q, q ≤ 2 ∧ x = nI q) (hR : RC c S w) : RC (c) (va_up S 15 (upd (S 15) (d0 * 4 + i0) x)) (upd w (221 + 4 * d0 + i0) x) := by
  have h := hR.wf
  refine ⟨⟨(by
      try simp (disch := omega) only [nn, mn, ac, le, pq, un, he, tm, hd, sn, am, pk_un, sup_ne] at ⊢
      exact h.n ),
    (fun i hi => by
      try simp (disch := omega) only [nn, mn, ac, le, pq, un, he, tm, hd, sn, am, pk_un, sup_ne] at ⊢
      exact h.m i hi),
    (fun p hp => by
      try simp (disch := omega) only [nn, mn, ac, le, pq, un, he, tm, hd, sn, am, pk_un, sup_ne] at ⊢
      exact h.a p hp),
    (fun i hi j hj hij => by
      try simp (disch := omega) only [nn, mn, ac, le, pq, un, he, tm, hd, sn, am, pk_un, sup_ne] at hij ⊢
      exact h.a0 i hi j hj hij),
    (fun p hp => by
      try simp (disch := omega) only [nn, mn, ac, le, pq, un, he, tm, hd, sn, am, pk_un, sup_ne] at ⊢
      exact h.l p hp),
    (fun p hp hn0 => by
      try simp (disch := omega) only [nn, mn, ac, le, pq, un, he, tm, hd, sn, am, pk_un, sup_ne] at hn0 ⊢
      exact h.l0 p hp hn0),
    (fun p hp j hj => by
      have hb10 : nv (w (21 + p)) ≤ 10 := (h.l p hp).2
      try simp (disch := omega) only [nn, mn, ac, le, pq, un, he, tm, hd, sn, am, pk_un, sup_ne] at hj
      try simp (disch := omega) only [nn, mn, ac, le, pq, un, he, tm, hd, sn, am, pk_un, sup_ne]
      exact h.q p hp j hj),
    (fun d hd6 i hi => by
      try simp (disch := omega) only [nn, mn, ac, le, pq, un, he, tm, hd, sn, am, pk_un, sup_ne] at ⊢
      exact h.s d hd6 i hi),
    (fun d hd6 i hi hne => by
      rw [pk_un (by omega)] at hne
      unfold pq
      by_cases e : 221 + 4 * d + i = 221 + 4 * d0 + i0
      · have e1 : d = d0 := by omega
        have e2 : i = i0 := by omega
        subst e1 e2
        obtain ⟨q, hq, rfl⟩ := hx hne
        rw [upd_eq, nv_nI (by omega)]; exact ⟨rfl, hq⟩
      · rw [pk_un e]; exact h.p d hd6 i hi hne),
    (fun k hk => by
      try simp (disch := omega) only [nn, mn, ac, le, pq, un, he, tm, hd, sn, am, pk_un, sup_ne] at ⊢
      exact h.u k hk),
    (by
      try simp (disch := omega) only [nn, mn, ac, le, pq, un, he, tm, hd, sn, am, pk_un, sup_ne] at ⊢
      exact h.h ),
    (fun j hj => by
      have hb24 : nv (w 341) ≤ 24 := h.h.2
      try simp (disch := omega) only [nn, mn, ac, le, pq, un, he, tm, hd, sn, am, pk_un, sup_ne] at hj
      try simp (disch := omega) only [nn, mn, ac, le, pq, un, he, tm, hd, sn, am, pk_un, sup_ne]
      exact h.b j hj),
    (fun k hk => by
      try simp (disch := omega) only [nn, mn, ac, le, pq, un, he, tm, hd, sn, am, pk_un, sup_ne] at ⊢
      exact h.g k hk),
    (by
      try simp (disch := omega) only [nn, mn, ac, le, pq, un, he, tm, hd, sn, am, pk_un, sup_ne] at ⊢
      exact h.t ),
    (by
      try simp (disch := omega) only [nn, mn, ac, le, pq, un, he, tm, hd, sn, am, pk_un, sup_ne] at ⊢
      exact h.d ),
    (by
      try simp (disch := omega) only [nn, mn, ac, le, pq, un, he, tm, hd, sn, am, pk_un, sup_ne] at ⊢
      exact h.e )⟩,
    (by
      try simp (disch := omega) only [nn, mn, ac, le, pq, un, he, tm, hd, sn, am, pk_un, sup_ne] at ⊢
      exact hR.i ),
    (fun i hi => by
      try simp (disch := omega) only [nn, mn, ac, le, pq, un, he, tm, hd, sn, am, pk_un, sup_ne] at ⊢
      exact hR.m0 i hi),
    (fun i hi => by
      try simp (disch := omega) only [nn, mn, ac, le, pq, un, he, tm, hd, sn, am, pk_un, sup_ne] at ⊢
      exact hR.a i hi),
    (fun p hp => by
      try simp (disch := omega) only [nn, mn, ac, le, pq, un, he, tm, hd, sn, am, pk_un, sup_ne] at ⊢
      exact hR.l0 p hp),
    (fun p hp j hj => by
      have hb10 : nv (w (21 + p)) ≤ 10 := (h.l p hp).2
      try simp (disch := omega) only [nn, mn, ac, le, pq, un, he, tm, hd, sn, am, pk_un, sup_ne] at hj
      try simp (disch := omega) only [nn, mn, ac, le, pq, un, he, tm, hd, sn, am, pk_un, sup_ne]
      exact hR.q p hp j hj),
    (fun d hd6 i hi => by
      try simp (disch := omega) only [nn, mn, ac, le, pq, un, he, tm, hd, sn, am, pk_un, sup_ne] at ⊢
      exact hR.s d hd6 i hi),
    (fun d hd6 i hi => by
      rw [sup_eq]
      by_cases e : 221 + 4 * d + i = 221 + 4 * d0 + i0
      · rw [e, show d * 4 + i = d0 * 4 + i0 by omega, upd_eq, upd_eq]
      · rw [pk_un e, pk_un (by omega)]; exact hR.p d hd6 i hi),
    (fun k hk => by
      try simp (disch := omega) only [nn, mn, ac, le, pq, un, he, tm, hd, sn, am, pk_un, sup_ne] at ⊢
      exact hR.u k hk),
    (fun k hk => by
      try simp (disch := omega) only [nn, mn, ac, le, pq, un, he, tm, hd, sn, am, pk_un, sup_ne] at ⊢
      exact hR.g k hk),
    (fun j hj => by
      have hb24 : nv (w 341) ≤ 24 := h.h.2
      try simp (disch := omega) only [nn, mn, ac, le, pq, un, he, tm, hd, sn, am, pk_un, sup_ne] at hj
      try simp (disch := omega) only [nn, mn, ac, le, pq, un, he, tm, hd, sn, am, pk_un, sup_ne]
      exact hR.b j hj)⟩

def tkU (w : Nat → Int32) : Nat → Int32 := fun j => if 245 ≤ j ∧ j < 341 then (if tm w + 1 < un w (j - 245) then w j else nI 0) else if j = 462 then nI (tm w + 1) else w j
theorem tkU_ne {w : Nat → Int32} {j : Nat} (h : ¬ (245 ≤ j ∧ j < 341)) (h2 : j ≠ 462) : tkU w j = w j := by unfold tkU; rw [if_neg h, if_neg h2]
theorem tkU_t {w : Nat → Int32} : tkU w 462 = nI (tm w + 1) := by unfold tkU; rw [if_neg (by omega), if_pos rfl]
theorem tkU_u {w : Nat → Int32} {k : Nat} (hk : k < 96) : tkU w (245 + k) = if tm w + 1 < un w k then w (245 + k) else nI 0 := by unfold tkU; rw [if_pos (by omega), show 245 + k - 245 = k by omega]
set_option maxHeartbeats 1000000 in
theorem RC_tick {c : Nat} {S : Nat → Nat → Int32} {w : Nat → Int32} (hc : c < 1000) (hR : RC c S w) : RC (c + 1) (va_up S 0 (fun _ => nI (tm w + 1))) (tkU w) := by
  have h := hR.wf
  have ht := h.t.2
  have ht2 : tm (tkU w) = tm w + 1 := by show nv (tkU w 462) = _; rw [tkU_t, nv_nI (by omega)]
  have hu : ∀ k, k < 96 → un (tkU w) k = if tm w + 1 < un w k then un w k else 0 := fun k hk => by
    show nv (tkU w (245 + k)) = _
    rw [tkU_u hk]
    by_cases e : tm w + 1 < un w k
    · rw [if_pos e, if_pos e]; rfl
    · rw [if_neg e, if_neg e]; exact nv_nI (by decide)
  refine ⟨⟨(by
      try simp (disch := omega) only [nn, mn, ac, le, pq, un, he, tm, hd, sn, am, pk_un, sup_ne, tkU_ne] at ⊢
      exact h.n ),
    (fun i hi => by
      try simp (disch := omega) only [nn, mn, ac, le, pq, un, he, tm, hd, sn, am, pk_un, sup_ne, tkU_ne] at ⊢
      exact h.m i hi),
    (fun p hp => by
      try simp (disch := omega) only [nn, mn, ac, le, pq, un, he, tm, hd, sn, am, pk_un, sup_ne, tkU_ne] at ⊢
      exact h.a p hp),
    (fun i hi j hj hij => by
      try simp (disch := omega) only [nn, mn, ac, le, pq, un, he, tm, hd, sn, am, pk_un, sup_ne, tkU_ne] at hij ⊢
      exact h.a0 i hi j hj hij),
    (fun p hp => by
      try simp (disch := omega) only [nn, mn, ac, le, pq, un, he, tm, hd, sn, am, pk_un, sup_ne, tkU_ne] at ⊢
      exact h.l p hp),
    (fun p hp hn0 => by
      try simp (disch := omega) only [nn, mn, ac, le, pq, un, he, tm, hd, sn, am, pk_un, sup_ne, tkU_ne] at hn0 ⊢
      exact h.l0 p hp hn0),
    (fun p hp j hj => by
      have hb10 : nv (w (21 + p)) ≤ 10 := (h.l p hp).2
      try simp (disch := omega) only [nn, mn, ac, le, pq, un, he, tm, hd, sn, am, pk_un, sup_ne, tkU_ne] at hj
      try simp (disch := omega) only [nn, mn, ac, le, pq, un, he, tm, hd, sn, am, pk_un, sup_ne, tkU_ne]
      exact h.q p hp j hj),
    (fun d hd6 i hi => by
      try simp (disch := omega) only [nn, mn, ac, le, pq, un, he, tm, hd, sn, am, pk_un, sup_ne, tkU_ne] at ⊢
      exact h.s d hd6 i hi),
    (fun d hd6 i hi hne => by
      try simp (disch := omega) only [nn, mn, ac, le, pq, un, he, tm, hd, sn, am, pk_un, sup_ne, tkU_ne] at hne ⊢
      exact h.p d hd6 i hi hne),
    (fun k hk => by
      have h1 := h.u k hk
      rw [hu k hk, ht2, tkU_u hk]
      by_cases e : tm w + 1 < un w k
      · rw [if_pos e, if_pos e]; exact ⟨h1.1, by omega, by omega⟩
      · rw [if_neg e, if_neg e]; exact ⟨rfl, by omega, Or.inl rfl⟩),
    (by
      try simp (disch := omega) only [nn, mn, ac, le, pq, un, he, tm, hd, sn, am, pk_un, sup_ne, tkU_ne] at ⊢
      exact h.h ),
    (fun j hj => by
      have hb24 : nv (w 341) ≤ 24 := h.h.2
      try simp (disch := omega) only [nn, mn, ac, le, pq, un, he, tm, hd, sn, am, pk_un, sup_ne, tkU_ne] at hj
      try simp (disch := omega) only [nn, mn, ac, le, pq, un, he, tm, hd, sn, am, pk_un, sup_ne, tkU_ne]
      exact h.b j hj),
    (fun k hk => by
      try simp (disch := omega) only [nn, mn, ac, le, pq, un, he, tm, hd, sn, am, pk_un, sup_ne, tkU_ne] at ⊢
      exact h.g k hk),
    (by rw [ht2, tkU_t]; exact ⟨rfl, by omega⟩),
    (by
      try simp (disch := omega) only [nn, mn, ac, le, pq, un, he, tm, hd, sn, am, pk_un, sup_ne, tkU_ne] at ⊢
      exact h.d ),
    (by simp (disch := omega) only [sn, tkU_ne]; exact ⟨h.e.1, Nat.le_succ_of_le h.e.2⟩)⟩,
    ⟨(by rw [sup_eq, tkU_t]), (by (try simp (disch := omega) only [tkU_ne, sup_ne]); exact hR.i.2.1), (by (try simp (disch := omega) only [tkU_ne, sup_ne]); exact hR.i.2.2.1), (by (try simp (disch := omega) only [tkU_ne, sup_ne]); exact hR.i.2.2.2.1), (by (try simp (disch := omega) only [tkU_ne, sup_ne]); exact hR.i.2.2.2.2.1), (by (try simp (disch := omega) only [tkU_ne, sup_ne]); exact hR.i.2.2.2.2.2.1), (by (try simp (disch := omega) only [tkU_ne, sup_ne]); exact hR.i.2.2.2.2.2.2.1), (by (try simp (disch := omega) only [tkU_ne, sup_ne]); exact hR.i.2.2.2.2.2.2.2.1), (by (try simp (disch := omega) only [tkU_ne, sup_ne]); exact hR.i.2.2.2.2.2.2.2.2.1), (by (try simp (disch := omega) only [tkU_ne, sup_ne]); exact hR.i.2.2.2.2.2.2.2.2.2)⟩,
    (fun i hi => by
      try simp (disch := omega) only [nn, mn, ac, le, pq, un, he, tm, hd, sn, am, pk_un, sup_ne, tkU_ne] at ⊢
      exact hR.m0 i hi),
    (fun i hi => by
      try simp (disch := omega) only [nn, mn, ac, le, pq, un, he, tm, hd, sn, am, pk_un, sup_ne, tkU_ne] at ⊢
      exact hR.a i hi),
    (fun p hp => by
      try simp (disch := omega) only [nn, mn, ac, le, pq, un, he, tm, hd, sn, am, pk_un, sup_ne, tkU_ne] at ⊢
      exact hR.l0 p hp),
    (fun p hp j hj => by
      have hb10 : nv (w (21 + p)) ≤ 10 := (h.l p hp).2
      try simp (disch := omega) only [nn, mn, ac, le, pq, un, he, tm, hd, sn, am, pk_un, sup_ne, tkU_ne] at hj
      try simp (disch := omega) only [nn, mn, ac, le, pq, un, he, tm, hd, sn, am, pk_un, sup_ne, tkU_ne]
      exact hR.q p hp j hj),
    (fun d hd6 i hi => by
      try simp (disch := omega) only [nn, mn, ac, le, pq, un, he, tm, hd, sn, am, pk_un, sup_ne, tkU_ne] at ⊢
      exact hR.s d hd6 i hi),
    (fun d hd6 i hi => by
      try simp (disch := omega) only [nn, mn, ac, le, pq, un, he, tm, hd, sn, am, pk_un, sup_ne, tkU_ne] at ⊢
      exact hR.p d hd6 i hi),
    (fun k hk => by
      have h1 := h.u k hk
      have h2 := hR.u k hk
      rw [hu k hk, ht2, tkU_u hk, sup_ne (by decide)]
      by_cases e : tm w + 1 < un w k
      · rw [if_pos e, if_pos e]; exact ⟨fun e0 => absurd e0 (by omega), fun _ => h2.2 (by omega)⟩
      · rw [if_neg e, if_neg e]
        refine ⟨fun _ => ?_, fun e0 => absurd rfl e0⟩
        by_cases e1 : un w k = 0
        · obtain ⟨v, hv, e2⟩ := h2.1 e1
          exact ⟨v, by omega, e2⟩
        · exact ⟨un w k, by omega, (h2.2 e1).trans h1.1⟩),
    (fun k hk => by
      try simp (disch := omega) only [nn, mn, ac, le, pq, un, he, tm, hd, sn, am, pk_un, sup_ne, tkU_ne] at ⊢
      exact hR.g k hk),
    (fun j hj => by
      have hb24 : nv (w 341) ≤ 24 := h.h.2
      try simp (disch := omega) only [nn, mn, ac, le, pq, un, he, tm, hd, sn, am, pk_un, sup_ne, tkU_ne] at hj
      try simp (disch := omega) only [nn, mn, ac, le, pq, un, he, tm, hd, sn, am, pk_un, sup_ne, tkU_ne]
      exact hR.b j hj)⟩

/-- the row with a new linkset of m0 links -/
def addR (w : Nat → Int32) (m0 : Nat) : Nat → Int32 := fun j => if j = 0 then nI (nn w + 1) else if j = 1 + nn w then nI m0 else if 5 + 4 * nn w ≤ j ∧ j < 9 + 4 * nn w then (if j < 5 + 4 * nn w + m0 then nI 1 else nI 0) else if 21 + 4 * nn w ≤ j ∧ j < 25 + 4 * nn w then nI 0 else w j
theorem addR_ne {w : Nat → Int32} {m0 j : Nat} (h0 : j ≠ 0) (h1 : j ≠ 1 + nn w) (h2 : ¬ (5 + 4 * nn w ≤ j ∧ j < 9 + 4 * nn w)) (h3 : ¬ (21 + 4 * nn w ≤ j ∧ j < 25 + 4 * nn w)) : addR w m0 j = w j := by unfold addR; rw [if_neg h0, if_neg h1, if_neg h2, if_neg h3]
set_option maxHeartbeats 1000000 in
theorem RC_add {c : Nat} {S : Nat → Nat → Int32} {w : Nat → Int32} {m0 : Nat} (hn3 : nn w < 4) (hm1 : 1 ≤ m0) (hm4 : m0 ≤ 4) (hR : RC c S w) : RC (c) (va_up (va_up (va_up S 10 (upd (S 10) (nn w) (nI m0))) 11 (upd (S 11) (nn w) (nI (2 ^ m0 - 1)))) 8 (fun _ => nI (nn w + 1))) (addR w m0) := by
  have h := hR.wf
  have hn2 : nn (addR w m0) = nn w + 1 := by show nv (addR w m0 0) = _; rw [show addR w m0 0 = nI (nn w + 1) from if_pos rfl, nv_nI (by omega)]
  have hw0 : addR w m0 0 = nI (nn w + 1) := if_pos rfl
  have hwm : ∀ i, i < 4 → addR w m0 (1 + i) = if i = nn w then nI m0 else w (1 + i) := fun i hi => by
    unfold addR
    rw [if_neg (by omega)]
    by_cases e : i = nn w
    · rw [if_pos (by omega), if_pos e]
    · rw [if_neg (by omega), if_neg (by omega), if_neg (by omega), if_neg e]
  have hwa : ∀ p, p < 16 → addR w m0 (5 + p) = if 4 * nn w ≤ p ∧ p < 4 * nn w + 4 then (if p < 4 * nn w + m0 then nI 1 else nI 0) else w (5 + p) := fun p hp => by
    unfold addR
    rw [if_neg (by omega), if_neg (by omega)]
    by_cases e : 4 * nn w ≤ p ∧ p < 4 * nn w + 4
    · rw [if_pos (by omega), if_pos e]
      by_cases e2 : p < 4 * nn w + m0
      · rw [if_pos (by omega), if_pos e2]
      · rw [if_neg (by omega), if_neg e2]
    · rw [if_neg (by omega), if_neg (by omega), if_neg e]
  have hwl : ∀ p, p < 16 → addR w m0 (21 + p) = if 4 * nn w ≤ p ∧ p < 4 * nn w + 4 then nI 0 else w (21 + p) := fun p hp => by
    unfold addR
    rw [if_neg (by omega), if_neg (by omega), if_neg (by omega)]
    by_cases e : 4 * nn w ≤ p ∧ p < 4 * nn w + 4
    · rw [if_pos (by omega), if_pos e]
    · rw [if_neg (by omega), if_neg e]
  have hmm : ∀ i, i < 4 → mn (addR w m0) i = if i = nn w then m0 else mn w i := fun i hi => by
    show nv (addR w m0 (1 + i)) = _
    rw [hwm i hi]
    by_cases e : i = nn w
    · rw [if_pos e, if_pos e, nv_nI (by omega)]
    · rw [if_neg e, if_neg e]; rfl
  have hac : ∀ p, p < 16 → ac (addR w m0) p = if 4 * nn w ≤ p ∧ p < 4 * nn w + 4 then (if p < 4 * nn w + m0 then 1 else 0) else ac w p := fun p hp => by
    show nv (addR w m0 (5 + p)) = _
    rw [hwa p hp]
    by_cases e : 4 * nn w ≤ p ∧ p < 4 * nn w + 4
    · rw [if_pos e, if_pos e]
      by_cases e2 : p < 4 * nn w + m0
      · rw [if_pos e2, if_pos e2]; exact nv_nI (by decide)
      · rw [if_neg e2, if_neg e2]; exact nv_nI (by decide)
    · rw [if_neg e, if_neg e]; rfl
  have hll : ∀ p, p < 16 → le (addR w m0) p = le w p := fun p hp => by
    show nv (addR w m0 (21 + p)) = _
    rw [hwl p hp]
    by_cases e : 4 * nn w ≤ p ∧ p < 4 * nn w + 4
    · rw [if_pos e, h.l0 p hp e.1]; exact nv_nI (by decide)
    · rw [if_neg e]; rfl
  have hsn : sn (addR w m0) = sn w := by show nv (addR w m0 464) = _; rw [addR_ne (by omega) (by omega) (by omega) (by omega)]; rfl
  have ham : ∀ i, i < 4 → am (addR w m0) i = if i = nn w then 2 ^ m0 - 1 else am w i := fun i hi => by
    unfold am
    rw [hac _ (by omega), hac _ (by omega), hac _ (by omega), hac _ (by omega)]
    by_cases e : i = nn w
    · subst e
      rcases (show m0 = 1 ∨ m0 = 2 ∨ m0 = 3 ∨ m0 = 4 by omega) with rfl | rfl | rfl | rfl <;> simp
    · rw [if_neg (by omega), if_neg (by omega), if_neg (by omega), if_neg (by omega), if_neg e]
  refine ⟨⟨(by rw [hn2, hw0]; exact ⟨rfl, by omega⟩),
    (fun i hi => by
      rw [hmm i hi, hwm i hi]
      by_cases e : i = nn w
      · rw [if_pos e, if_pos e]; exact ⟨rfl, hm4⟩
      · rw [if_neg e, if_neg e]; exact h.m i hi),
    (fun p hp => by
      rw [hac p hp, hwa p hp]
      by_cases e : 4 * nn w ≤ p ∧ p < 4 * nn w + 4
      · rw [if_pos e, if_pos e]
        by_cases e2 : p < 4 * nn w + m0
        · rw [if_pos e2, if_pos e2]; exact ⟨rfl, by omega⟩
        · rw [if_neg e2, if_neg e2]; exact ⟨rfl, by omega⟩
      · rw [if_neg e, if_neg e]; exact h.a p hp),
    (fun i hi j hj hij => by
      rw [hmm i hi] at hij
      rw [hac _ (by omega)]
      by_cases e : i = nn w
      · rw [if_pos e] at hij; rw [if_pos (by omega), if_neg (by omega)]
      · rw [if_neg e] at hij; rw [if_neg (by omega)]; exact h.a0 i hi j hj hij),
    (fun p hp => by
      rw [hll p hp, hwl p hp]
      by_cases e : 4 * nn w ≤ p ∧ p < 4 * nn w + 4
      · rw [if_pos e, h.l0 p hp e.1]; exact ⟨rfl, by omega⟩
      · rw [if_neg e]; exact h.l p hp),
    (fun p hp hn0 => by rw [hll p hp]; exact h.l0 p hp (by omega)),
    (fun p hp j hj => by
      rw [hll p hp] at hj
      have hl1 := (h.l p hp).2
      rw [hsn, addR_ne (by omega) (by omega) (by omega) (by omega)]; exact h.q p hp j hj),
    (fun d hd6 i hi => by
      try simp (disch := omega) only [nn, mn, ac, le, pq, un, he, tm, hd, sn, am, pk_un, sup_ne, addR_ne] at ⊢
      exact h.s d hd6 i hi),
    (fun d hd6 i hi hne => by
      try simp (disch := omega) only [nn, mn, ac, le, pq, un, he, tm, hd, sn, am, pk_un, sup_ne, addR_ne] at hne ⊢
      exact h.p d hd6 i hi hne),
    (fun k hk => by
      try simp (disch := omega) only [nn, mn, ac, le, pq, un, he, tm, hd, sn, am, pk_un, sup_ne, addR_ne] at ⊢
      exact h.u k hk),
    (by
      try simp (disch := omega) only [nn, mn, ac, le, pq, un, he, tm, hd, sn, am, pk_un, sup_ne, addR_ne] at ⊢
      exact h.h ),
    (fun j hj => by
      have hb24 : nv (w 341) ≤ 24 := h.h.2
      try simp (disch := omega) only [nn, mn, ac, le, pq, un, he, tm, hd, sn, am, pk_un, sup_ne, addR_ne] at hj
      try simp (disch := omega) only [nn, mn, ac, le, pq, un, he, tm, hd, sn, am, pk_un, sup_ne, addR_ne]
      exact h.b j hj),
    (fun k hk => by
      try simp (disch := omega) only [nn, mn, ac, le, pq, un, he, tm, hd, sn, am, pk_un, sup_ne, addR_ne] at ⊢
      exact h.g k hk),
    (by
      try simp (disch := omega) only [nn, mn, ac, le, pq, un, he, tm, hd, sn, am, pk_un, sup_ne, addR_ne] at ⊢
      exact h.t ),
    (by
      try simp (disch := omega) only [nn, mn, ac, le, pq, un, he, tm, hd, sn, am, pk_un, sup_ne, addR_ne] at ⊢
      exact h.d ),
    (by
      try simp (disch := omega) only [nn, mn, ac, le, pq, un, he, tm, hd, sn, am, pk_un, sup_ne, addR_ne] at ⊢
      exact h.e )⟩,
    ⟨(by rw [sup_ne (by decide), sup_ne (by decide), sup_ne (by decide), addR_ne (by omega) (by omega) (by omega) (by omega)]; exact hR.i.1), (by rw [sup_ne (by decide), sup_ne (by decide), sup_ne (by decide), addR_ne (by omega) (by omega) (by omega) (by omega)]; exact hR.i.2.1), (by rw [sup_ne (by decide), sup_ne (by decide), sup_ne (by decide), addR_ne (by omega) (by omega) (by omega) (by omega)]; exact hR.i.2.2.1), (by rw [sup_ne (by decide), sup_ne (by decide), sup_ne (by decide), addR_ne (by omega) (by omega) (by omega) (by omega)]; exact hR.i.2.2.2.1), (by rw [sup_ne (by decide), sup_ne (by decide), sup_ne (by decide), addR_ne (by omega) (by omega) (by omega) (by omega)]; exact hR.i.2.2.2.2.1), (by rw [sup_ne (by decide), sup_ne (by decide), sup_ne (by decide), addR_ne (by omega) (by omega) (by omega) (by omega)]; exact hR.i.2.2.2.2.2.1), (by rw [sup_ne (by decide), sup_ne (by decide), sup_ne (by decide), addR_ne (by omega) (by omega) (by omega) (by omega)]; exact hR.i.2.2.2.2.2.2.1), (by rw [sup_ne (by decide), sup_ne (by decide), sup_ne (by decide), addR_ne (by omega) (by omega) (by omega) (by omega)]; exact hR.i.2.2.2.2.2.2.2.1), (by rw [sup_eq, hw0]), (by rw [sup_ne (by decide), sup_ne (by decide), sup_ne (by decide), addR_ne (by omega) (by omega) (by omega) (by omega)]; exact hR.i.2.2.2.2.2.2.2.2.2)⟩,
    (fun i hi => by
      rw [sup_ne (by decide), sup_ne (by decide), sup_eq, hwm i hi]
      by_cases e : i = nn w
      · rw [if_pos e, e, upd_eq]
      · rw [if_neg e, pk_un e]; exact hR.m0 i hi),
    (fun i hi => by
      rw [sup_ne (by decide), sup_eq, ham i hi]
      by_cases e : i = nn w
      · rw [if_pos e, e, upd_eq]
      · rw [if_neg e, pk_un e]; exact hR.a i hi),
    (fun p hp => by
      rw [sup_ne (by decide), sup_ne (by decide), sup_ne (by decide), hwl p hp]
      by_cases e : 4 * nn w ≤ p ∧ p < 4 * nn w + 4
      · rw [if_pos e, hR.l p hp, h.l0 p hp e.1]
      · rw [if_neg e]; exact hR.l0 p hp),
    (fun p hp j hj => by
      rw [hll p hp] at hj
      have hl1 := (h.l p hp).2
      rw [sup_ne (by decide), sup_ne (by decide), sup_ne (by decide), addR_ne (by omega) (by omega) (by omega) (by omega)]; exact hR.q p hp j hj),
    (fun d hd6 i hi => by
      try simp (disch := omega) only [nn, mn, ac, le, pq, un, he, tm, hd, sn, am, pk_un, sup_ne, addR_ne] at ⊢
      exact hR.s d hd6 i hi),
    (fun d hd6 i hi => by
      try simp (disch := omega) only [nn, mn, ac, le, pq, un, he, tm, hd, sn, am, pk_un, sup_ne, addR_ne] at ⊢
      exact hR.p d hd6 i hi),
    (fun k hk => by
      try simp (disch := omega) only [nn, mn, ac, le, pq, un, he, tm, hd, sn, am, pk_un, sup_ne, addR_ne] at ⊢
      exact hR.u k hk),
    (fun k hk => by
      try simp (disch := omega) only [nn, mn, ac, le, pq, un, he, tm, hd, sn, am, pk_un, sup_ne, addR_ne] at ⊢
      exact hR.g k hk),
    (fun j hj => by
      have hb24 : nv (w 341) ≤ 24 := h.h.2
      try simp (disch := omega) only [nn, mn, ac, le, pq, un, he, tm, hd, sn, am, pk_un, sup_ne, addR_ne] at hj
      try simp (disch := omega) only [nn, mn, ac, le, pq, un, he, tm, hd, sn, am, pk_un, sup_ne, addR_ne]
      exact hR.b j hj)⟩
end
section
/-! the rows' changes that both programs make -/
section R18
variable {c : Nat} {w : Nat → Int32}
theorem lk_some (h : WF c w) {k : Nat} (hk : k < 96) (hne : ¬ lk w k = -1) : ∃ p, p < 16 ∧ p < 4 * nn w ∧ ac w p = 1 ∧ lk w k = nI p := by
  have hm := rts_lt h (k / 16)
  by_cases h0 : rts w (k / 16) = 0
  · exact absurd (by unfold lk lkm; rw [if_pos h0]) hne
  · have hp := pc4_le _ hm
    have hi : k % 16 % pc4 (rts w (k / 16)) < pc4 (rts w (k / 16)) := Nat.mod_lt _ (by omega)
    obtain ⟨h1, h2, -⟩ := sb4_tb _ hm _ (by omega) hi
    obtain ⟨h3, h4⟩ := rts_tb h h2 h1
    have ha := am_lt h h2
    have hpa := pc4_le _ ha
    have hi2 : k % 16 / pc4 (rts w (k / 16)) % pc4 (am w (sb4 (rts w (k / 16)) (k % 16 % pc4 (rts w (k / 16))))) < pc4 (am w (sb4 (rts w (k / 16)) (k % 16 % pc4 (rts w (k / 16))))) := Nat.mod_lt _ (by omega)
    obtain ⟨g1, g2, -⟩ := sb4_tb _ ha _ (by omega) hi2
    rw [am_tb h h2 g2] at g1
    refine ⟨lko w (rts w (k / 16)) (k % 16), ?_, ?_, ?_, by unfold lk lkm; rw [if_neg h0]⟩
    · unfold lko lks; omega
    · unfold lko lks; omega
    · have e : lko w (rts w (k / 16)) (k % 16) = 4 * sb4 (rts w (k / 16)) (k % 16 % pc4 (rts w (k / 16))) + sb4 (am w (sb4 (rts w (k / 16)) (k % 16 % pc4 (rts w (k / 16))))) (k % 16 / pc4 (rts w (k / 16)) % pc4 (am w (sb4 (rts w (k / 16)) (k % 16 % pc4 (rts w (k / 16)))))) := by unfold lko lks; omega
      rw [e]; exact g1
end R18
/-- a message (128 times its number and its stream) is dispatched -/
def dsp (w : Nat → Int32) (M : Nat) : Nat → Int32 :=
  if lk w (M % 128) = -1 then upd w 467 (w 467 + nI 1)
  else if le w (nv (lk w (M % 128))) = 10 then upd w 469 (w 469 + nI 1)
  else upd (upd w (37 + 10 * nv (lk w (M % 128)) + le w (nv (lk w (M % 128)))) (nI M)) (21 + nv (lk w (M % 128))) (nI (le w (nv (lk w (M % 128))) + 1))
theorem dsp_1 {w : Nat → Int32} {M k : Nat} (hk : M % 128 = k) (h : lk w k = -1) : dsp w M = upd w 467 (w 467 + nI 1) := by unfold dsp; rw [hk, if_pos h]
theorem dsp_2 {w : Nat → Int32} {M k p : Nat} (hk : M % 128 = k) (h : lk w k = nI p) (hp : p < 16) (hl : le w p = 10) : dsp w M = upd w 469 (w 469 + nI 1) := by
  unfold dsp
  rw [hk, h, if_neg (m1_ne (by omega)), nv_nI (by omega), if_pos hl]
theorem dsp_3 {w : Nat → Int32} {M k p : Nat} (hk : M % 128 = k) (h : lk w k = nI p) (hp : p < 16) (hl : ¬ le w p = 10) : dsp w M = upd (upd w (37 + 10 * p + le w p) (nI M)) (21 + p) (nI (le w p + 1)) := by
  unfold dsp
  rw [hk, h, if_neg (m1_ne (by omega)), nv_nI (by omega), if_neg hl]
theorem dsp_ne {c : Nat} {w : Nat → Int32} (h : WF c w) {M j : Nat} (hk : M % 128 < 96) (h1 : ¬ (21 ≤ j ∧ j < 197)) (h2 : j ≠ 467) (h3 : j ≠ 469) : dsp w M j = w j := by
  by_cases e : lk w (M % 128) = -1
  · rw [dsp_1 rfl e, pk_un h2]
  · obtain ⟨p, hp, -, -, hq⟩ := lk_some h hk e
    by_cases hl : le w p = 10
    · rw [dsp_2 rfl hq hp hl, pk_un h3]
    · have := (h.l p hp).2
      rw [dsp_3 rfl hq hp hl, pk_un (by omega), pk_un (by omega)]
def dspN (w : Nat → Int32) (f : Nat → Nat) : Nat → (Nat → Int32)
  | 0 => w
  | n + 1 => dsp (dspN w f n) (f n)
/-- a message is delivered -/
def dlv (w : Nat → Int32) (M : Nat) : Nat → Int32 := upd (upd (upd w 465 (w 465 + nI 1)) 466 (w 466 + (if nI M < w (366 + M % 128) then nI 1 else nI 0))) (366 + M % 128) (if nI M < w (366 + M % 128) then w (366 + M % 128) else nI M)
theorem dlv_1 {w : Nat → Int32} {M k : Nat} (hk : M % 128 = k) (hk2 : k < 96) (h : nI M < w (366 + k)) : dlv w M = upd (upd w 465 (w 465 + nI 1)) 466 (upd w 465 (w 465 + nI 1) 466 + nI 1) := by
  unfold dlv
  rw [hk, if_pos h, if_pos h, pk_un (f := w) (by omega)]
  funext j
  unfold upd
  by_cases e : j = 366 + k
  · rw [if_pos e, e, if_neg (by omega), if_neg (by omega)]
  · rw [if_neg e]
theorem dlv_2 {w : Nat → Int32} {M k : Nat} (hk : M % 128 = k) (h : ¬ nI M < w (366 + k)) : dlv w M = upd (upd w 465 (w 465 + nI 1)) (366 + k) (nI M) := by
  unfold dlv
  rw [hk, if_neg h, if_neg h]
  funext j
  unfold upd
  by_cases e : j = 366 + k
  · rw [if_pos e, if_pos e]
  · rw [if_neg e, if_neg e]
    by_cases e2 : j = 466
    · rw [if_pos e2, e2, if_neg (by omega), show (nI 0 : Int32) = 0 from rfl, Int32.add_zero]
    · rw [if_neg e2]
theorem dlv_ne {w : Nat → Int32} {M j : Nat} (h1 : j ≠ 465) (h2 : j ≠ 466) (h3 : j ≠ 366 + M % 128) : dlv w M j = w j := by unfold dlv; rw [pk_un h3, pk_un h2, pk_un h1]
theorem grt_iff {a k s : Nat} {x : Int32} (hx : x = -1 ∨ ∃ b, b < s ∧ x = nI (128 * b + k)) (hs : s < 1000) (ha : a < s) (hk : k < 96) : nI a < trg x ↔ nI (128 * a + k) < x := by
  rcases hx with rfl | ⟨b, hb, rfl⟩
  · have e : trg (-1) = -1 := by decide
    rw [e]
    have h1 : ∀ n, n < 2 ^ 31 → ¬ nI n < -1 := fun n hn q => by
      rw [Int32.lt_iff_toInt_lt, nI_toInt hn] at q
      have h2 : (-1 : Int32).toInt = -1 := by decide
      omega
    exact ⟨fun q => absurd q (h1 _ (by omega)), fun q => absurd q (h1 _ (by omega))⟩
  · rw [trg_ok (by omega) hk, nI_ltI (by omega) (by omega), nI_ltI (by omega) (by omega)]; omega
def dlvN (w : Nat → Int32) (f : Nat → Nat) : Nat → (Nat → Int32)
  | 0 => w
  | n + 1 => dlv (dlvN w f n) (f n)
theorem dlvN_ne {w : Nat → Int32} {f : Nat → Nat} {j : Nat} (h : j < 366 ∨ (462 ≤ j ∧ j < 465)) : ∀ n, (∀ i, i < n → f i % 128 < 96) → dlvN w f n j = w j
  | 0, _ => rfl
  | n + 1, hf => by
    have := hf n (by omega)
    show dlv (dlvN w f n) (f n) j = w j
    rw [dlv_ne (by omega) (by omega) (by omega)]
    exact dlvN_ne h n (fun i hi => hf i (by omega))
/-- within queue p the messages from n on move to the front: t of them -/
def shR (w : Nat → Int32) (p n : Nat) : Nat → (Nat → Int32)
  | 0 => w
  | t + 1 => upd (shR w p n t) (37 + 10 * p + t) (shR w p n t (37 + 10 * p + (n + t)))
theorem shR_ne {w : Nat → Int32} {p n j : Nat} : ∀ t, (j < 37 + 10 * p ∨ 37 + 10 * p + t ≤ j) → shR w p n t j = w j
  | 0, _ => rfl
  | t + 1, h => by
    show upd (shR w p n t) (37 + 10 * p + t) _ j = w j
    rw [pk_un (by omega)]
    exact shR_ne t (by omega)
def msg (w : Nat → Int32) (p j : Nat) : Nat := nv (w (37 + 10 * p + j))
/-- n messages of link p are delivered -/
def ackR (w : Nat → Int32) (p n : Nat) : Nat → Int32 := upd (shR (dlvN w (msg w p) n) p n (le w p - n)) (21 + p) (nI (le w p - n))
def flR (w : Nat → Int32) (p : Nat) : Nat → Int32 := upd (upd w (5 + p) (nI 0)) (21 + p) (nI 0)
/-- link p fails -/
def failR (w : Nat → Int32) (p : Nat) : Nat → Int32 := dspN (flR w p) (msg w p) (le w p)
/-- a message comes to the holding buffer -/
def hld (w : Nat → Int32) (M : Nat) : Nat → Int32 := if he w = 24 then upd w 469 (w 469 + nI 1) else upd (upd w (342 + he w) (nI M)) 341 (nI (he w + 1))
def sndX (w : Nat → Int32) (k q M : Nat) : Nat → Int32 := if ¬ un w k = 0 then hld w M else if ¬ lk w k = -1 ∧ q < lvl (le w (nv (lk w k))) then upd w 468 (w 468 + nI 1) else dsp w M
def sndR (w : Nat → Int32) (k q : Nat) : Nat → Int32 := sndX (upd w 464 (nI (sn w + 1))) k q (128 * sn w + k)
/-- streams that have moved are held; and how many -/
def dvN (w B : Nat → Int32) : Nat → (Nat → Int32) × Nat
  | 0 => (w, 0)
  | k + 1 => if ¬ hd w = 0 ∧ ¬ B k = -1 ∧ ¬ lk w k = -1 ∧ ¬ lk w k = B k then (upd (dvN w B k).1 (245 + k) (nI (tm w + hd w)), (dvN w B k).2 + 1) else dvN w B k
theorem dvN_ne {w B : Nat → Int32} {j : Nat} : ∀ n, (j < 245 ∨ 245 + n ≤ j) → (dvN w B n).1 j = w j
  | 0, _ => rfl
  | n + 1, h => by
    simp only [dvN]
    split
    · show upd _ _ _ j = w j
      rw [pk_un (by omega)]; exact dvN_ne n (by omega)
    · exact dvN_ne n (by omega)
theorem bmL_congr {lim : Nat} {f g : Nat → Nat} : ∀ n, (∀ i, i < n → f i = g i) → bmL lim f n = bmL lim g n
  | 0, _ => rfl
  | n + 1, h => by
    simp only [bmL]
    rw [bmL_congr n (fun i hi => h i (by omega)), h n (by omega)]
theorem am_congr {w w' : Nat → Int32} (h0 : ∀ j, j < 21 → w' j = w j) {i : Nat} (hi : i < 4) : am w' i = am w i := by
  have hac : ∀ p, p < 16 → ac w' p = ac w p := fun p hp => by unfold ac; rw [h0 (5 + p) (by omega)]
  unfold am
  rw [hac (4 * i) (by omega), hac (4 * i + 1) (by omega), hac (4 * i + 2) (by omega), hac (4 * i + 3) (by omega)]
theorem rcd_congr {w w' : Nat → Int32} {d i : Nat} (h0 : am w' i = am w i) (h1 : w' (197 + 4 * d + i) = w (197 + 4 * d + i)) (h2 : w' (221 + 4 * d + i) = w (221 + 4 * d + i)) : rcd w' d i = rcd w d i := by
  unfold rcd pq
  rw [h0, h1, h2]
theorem rts_congr {w w' : Nat → Int32} {d : Nat} (hd6 : d < 6) (h0 : ∀ j, j < 21 → w' j = w j) (h1 : ∀ j, 197 ≤ j → j < 245 → w' j = w j) (hn : nn w ≤ 4) : rts w' d = rts w d := by
  have hnn : nn w' = nn w := by unfold nn; rw [h0 0 (by omega)]
  unfold rts
  rw [hnn, bmL_congr (nn w) (fun i hi => rcd_congr (am_congr h0 (by omega)) (h1 _ (by omega) (by omega)) (h1 _ (by omega) (by omega)))]
theorem sb4_lt (m i : Nat) : sb4 m i < 4 := by
  unfold sb4
  (repeat' split) <;> omega
theorem lkm_congr {w w' : Nat → Int32} {m k : Nat} (h0 : ∀ j, j < 21 → w' j = w j) : lkm w' m k = lkm w m k := by
  unfold lkm lko lks
  rw [am_congr h0 (sb4_lt m _)]
theorem lk_congr {w w' : Nat → Int32} {k : Nat} (h0 : ∀ j, j < 21 → w' j = w j) (h1 : ∀ j, 197 ≤ j → j < 245 → w' j = w j) (hn : nn w ≤ 4) (hk : k < 96) : lk w' k = lk w k := by
  unfold lk
  rw [rts_congr (by omega) h0 h1 hn]
  exact lkm_congr h0
theorem flag0 : ∀ m, m < 16 → ∀ l, l < 4 → tb m l = 1 → nI m &&& ((nI 1 <<< (nI l &&& 31)) ^^^ (-1)) = nI (m + 0 * 2 ^ l - 1 * 2 ^ l) := by decide +kernel
theorem flag1 : ∀ m, m < 16 → ∀ l, l < 4 → tb m l = 0 → nI m ||| (nI 1 <<< (nI l &&& 31)) = nI (m + 1 * 2 ^ l - 0 * 2 ^ l) := by decide +kernel
theorem shl1 : ∀ m, m < 5 → (nI 1 <<< (nI m &&& 31)) - nI 1 = nI (2 ^ m - 1) := by decide +kernel
theorem xor0 {a b : Nat} (ha : a < 2 ^ 31) (hb : b < 2 ^ 31) : (0 : Int32) ≤ nI a ^^^ nI b := by
  have e : nI a ^^^ nI b = nI (a ^^^ b) := by
    apply Int32.toBitVec_inj.mp
    simp only [Int32.toBitVec_xor, nI, Int32.toBitVec_ofNat]
    exact (BitVec.ofNat_xor ..).symm
  rw [e]
  exact nI_pos' (Nat.xor_lt_two_pow ha hb)
theorem mmin_nI {a b : Nat} (ha : a < 2 ^ 31) (hb : b < 2 ^ 31) : (if nI b < nI a then nI b else nI a) = nI (min a b) := by
  by_cases h : b < a
  · rw [if_pos ((nI_ltI hb ha).mpr h), Nat.min_eq_right (by omega)]
  · rw [if_neg (fun q => h ((nI_ltI hb ha).mp q)), Nat.min_eq_left (by omega)]
end
section
/-! every good row has a State; so what keeps the relation keeps the row good -/
def S0 (w : Nat → Int32) : Nat → Nat → Int32 := fun k j => match k with
  | 0 => w 462
  | 1 => w 463
  | 2 => w 464
  | 3 => w 465
  | 4 => w 466
  | 5 => w 467
  | 6 => w 468
  | 7 => w 469
  | 8 => w 0
  | 9 => w 341
  | 10 => w (1 + j)
  | 11 => nI (am w j)
  | 12 => w (21 + j)
  | 13 => trm (w (37 + j))
  | 14 => w (197 + j)
  | 15 => w (221 + j)
  | 16 => w (245 + j)
  | 17 => trg (w (366 + j))
  | _ => trm (w (342 + j))
theorem RC_S0 {c : Nat} {w : Nat → Int32} (h : WF c w) : RC c (S0 w) w := by
  refine ⟨h, ⟨rfl, rfl, rfl, rfl, rfl, rfl, rfl, rfl, rfl, rfl⟩, fun _ _ => rfl, fun _ _ => rfl, fun _ _ => rfl, fun p hp j hj => ?_, fun d hd i hi => ?_, fun d hd i hi => ?_, fun k hk => ⟨fun e => ⟨0, Nat.zero_le _, ?_⟩, fun _ => rfl⟩, fun _ _ => rfl, fun _ _ => rfl⟩
  · show trm (w (37 + (p * 10 + j))) = _
    rw [show 37 + (p * 10 + j) = 37 + 10 * p + j by omega]
  · show w (197 + (d * 4 + i)) = _
    rw [show 197 + (d * 4 + i) = 197 + 4 * d + i by omega]
  · show w (221 + (d * 4 + i)) = _
    rw [show 221 + (d * 4 + i) = 221 + 4 * d + i by omega]
  · show w (245 + k) = _
    rw [(h.u k hk).1, e]
theorem WF_dsp {c : Nat} {w : Nat → Int32} (h : WF c w) (hc : c < 1000) {a k : Nat} (ha : a < sn w) (hk : k < 96) : WF c (dsp w (128 * a + k)) := by
  have hm : (128 * a + k) % 128 = k := by omega
  have hR := RC_S0 h
  by_cases e : lk w k = -1
  · rw [dsp_1 hm e]; exact (RC_inc5 hR).wf
  · obtain ⟨p, hp, hpn, -, hq⟩ := lk_some h hk e
    by_cases hl : le w p = 10
    · rw [dsp_2 hm hq hp hl]; exact (RC_inc7 hR).wf
    · have := (h.l p hp).2
      rw [dsp_3 hm hq hp hl]; exact (RC_app hp hpn (by omega) ha hk hc hR).wf
/-- places that no dispatch touches -/
def fx (j : Nat) : Prop := ¬ (21 ≤ j ∧ j < 197) ∧ j ≠ 467 ∧ j ≠ 469
theorem dspN_ok {c : Nat} {w : Nat → Int32} {f : Nat → Nat} (h : WF c w) (hc : c < 1000) : ∀ n, (∀ i, i < n → ∃ a k, a < sn w ∧ k < 96 ∧ f i = 128 * a + k) → WF c (dspN w f n) ∧ ∀ j, fx j → dspN w f n j = w j
  | 0, _ => ⟨h, fun _ _ => rfl⟩
  | n + 1, hf => by
    obtain ⟨h1, h2⟩ := dspN_ok h hc n (fun i hi => hf i (by omega))
    obtain ⟨a, k, ha, hk, e⟩ := hf n (by omega)
    have hs : sn (dspN w f n) = sn w := by unfold sn; rw [h2 464 ⟨by omega, by omega, by omega⟩]
    have hd : dspN w f (n + 1) = dsp (dspN w f n) (128 * a + k) := by rw [← e]; rfl
    rw [hd]
    exact ⟨WF_dsp h1 hc (by rw [hs]; exact ha) hk, fun j hj => (dsp_ne h1 (by omega) hj.1 hj.2.1 hj.2.2).trans (h2 j hj)⟩
/-- a dispatch and a write at a place that it neither reads nor writes -/
theorem dsp_comm {c : Nat} {w : Nat → Int32} (h : WF c w) {M g : Nat} (x : Int32) (hM : M % 128 < 96) (hg : 245 ≤ g) (h1 : g ≠ 467) (h2 : g ≠ 469) : dsp (upd w g x) M = upd (dsp w M) g x := by
  have hlk : lk (upd w g x) (M % 128) = lk w (M % 128) := lk_congr (fun j hj => pk_un (by omega)) (fun j _ hj => pk_un (by omega)) h.n.2 hM
  have hle : ∀ p, p < 16 → le (upd w g x) p = le w p := fun p hp => by unfold le; rw [pk_un (by omega)]
  by_cases e : lk w (M % 128) = -1
  · rw [dsp_1 rfl (hlk.trans e), dsp_1 rfl e, pk_un (f := w) (by omega)]
    funext j
    unfold upd
    by_cases e1 : j = 467
    · rw [if_pos e1, if_neg (by omega), if_pos e1]
    · rw [if_neg e1, if_neg e1]
  · obtain ⟨p, hp, -, -, hq⟩ := lk_some h hM e
    by_cases hl : le w p = 10
    · rw [dsp_2 rfl (hlk.trans hq) hp ((hle p hp).trans hl), dsp_2 rfl hq hp hl, pk_un (f := w) (by omega)]
      funext j
      unfold upd
      by_cases e1 : j = 469
      · rw [if_pos e1, if_neg (by omega), if_pos e1]
      · rw [if_neg e1, if_neg e1]
    · have hl10 := (h.l p hp).2
      rw [dsp_3 rfl (hlk.trans hq) hp (by rw [hle p hp]; exact hl), dsp_3 rfl hq hp hl, hle p hp]
      generalize le w p = L at *
      funext j
      unfold upd
      by_cases e1 : j = 21 + p
      · rw [if_pos e1, if_neg (by omega), if_pos e1]
      · rw [if_neg e1, if_neg e1]
        by_cases e2 : j = 37 + 10 * p + L
        · rw [if_pos e2, if_neg (by omega), if_pos e2]
        · rw [if_neg e2, if_neg e2]
/-! the holding buffer of a row, taken out -/
def bst (w : Nat → Int32) (i : Nat) : Nat := nv (w (342 + i)) % 128
def lfN (w : Nat → Int32) : Nat → Nat
  | 0 => 0
  | i + 1 => if un w (bst w i) = 0 then lfN w i else lfN w i + 1
def cmpR (w : Nat → Int32) : Nat → (Nat → Int32)
  | 0 => w
  | i + 1 => if un w (bst w i) = 0 then cmpR w i else upd (cmpR w i) (342 + lfN w i) (w (342 + i))
def dspB (b w : Nat → Int32) : Nat → (Nat → Int32)
  | 0 => b
  | i + 1 => if un w (bst w i) = 0 then dsp (dspB b w i) (nv (w (342 + i))) else dspB b w i
theorem lfN_le (w : Nat → Int32) : ∀ i, lfN w i ≤ i
  | 0 => Nat.le_refl _
  | i + 1 => by
    have := lfN_le w i
    simp only [lfN]
    split <;> omega
theorem cmpR_ne {w : Nat → Int32} {j : Nat} : ∀ i, (j < 342 ∨ 342 + lfN w i ≤ j) → cmpR w i j = w j
  | 0, _ => rfl
  | i + 1, h => by
    simp only [cmpR]
    simp only [lfN] at h
    by_cases e : un w (bst w i) = 0
    · rw [if_pos e]; rw [if_pos e] at h; exact cmpR_ne i h
    · rw [if_neg e]; rw [if_neg e] at h; rw [pk_un (by omega)]; exact cmpR_ne i (by omega)
theorem WF_cmp {c : Nat} {w : Nat → Int32} (h : WF c w) (hc : c < 1000) : ∀ i, i ≤ he w → WF c (cmpR w i) ∧ he (cmpR w i) = he w ∧ sn (cmpR w i) = sn w
  | 0, _ => ⟨h, rfl, rfl⟩
  | i + 1, hi => by
    obtain ⟨h1, h2, h3⟩ := WF_cmp h hc i (by omega)
    have h24 := h.h.2
    simp only [cmpR]
    by_cases e : un w (bst w i) = 0
    · rw [if_pos e]; exact ⟨h1, h2, h3⟩
    · rw [if_neg e]
      obtain ⟨a, k, ha, hk, hx⟩ := h.b i (by omega)
      have hl := lfN_le w i
      rw [hx]
      exact ⟨(RC_buf (by omega) (by omega) hk hc (RC_S0 h1)).wf, by unfold he at *; rw [pk_un (by omega)]; exact h2, by unfold sn at *; rw [pk_un (by omega)]; exact h3⟩
theorem dspB_ok {c : Nat} {b w : Nat → Int32} (hb : WF c b) (h : WF c w) (hc : c < 1000) (hs : sn b = sn w) : ∀ i, i ≤ he w → WF c (dspB b w i) ∧ ∀ j, fx j → dspB b w i j = b j
  | 0, _ => ⟨hb, fun _ _ => rfl⟩
  | i + 1, hi => by
    obtain ⟨h1, h2⟩ := dspB_ok hb h hc hs i (by omega)
    obtain ⟨a, k, ha, hk, hx⟩ := h.b i (by omega)
    have h5 := h.e.2
    have hM : nv (w (342 + i)) = 128 * a + k := by rw [hx, nv_nI (by omega)]
    have hs2 : sn (dspB b w i) = sn w := by rw [← hs]; unfold sn; rw [h2 464 ⟨by omega, by omega, by omega⟩]
    simp only [dspB]
    by_cases e : un w (bst w i) = 0
    · rw [if_pos e, hM]
      exact ⟨WF_dsp h1 hc (by rw [hs2]; exact ha) hk, fun j hj => (dsp_ne h1 (by omega) hj.1 hj.2.1 hj.2.2).trans (h2 j hj)⟩
    · rw [if_neg e]; exact ⟨h1, h2⟩
theorem dspB_comm {c : Nat} {b w : Nat → Int32} (hb : WF c b) (h : WF c w) (hc : c < 1000) (hs : sn b = sn w) {g : Nat} (x : Int32) (hg : 245 ≤ g) (g1 : g ≠ 467) (g2 : g ≠ 469) : ∀ i, i ≤ he w → dspB (upd b g x) w i = upd (dspB b w i) g x
  | 0, _ => rfl
  | i + 1, hi => by
    obtain ⟨h1, -⟩ := dspB_ok hb h hc hs i (by omega)
    obtain ⟨a, k, ha, hk, hx⟩ := h.b i (by omega)
    have h5 := h.e.2
    have hM : nv (w (342 + i)) = 128 * a + k := by rw [hx, nv_nI (by omega)]
    simp only [dspB]
    rw [dspB_comm hb h hc hs x hg g1 g2 i (by omega)]
    by_cases e : un w (bst w i) = 0
    · rw [if_pos e, if_pos e]; exact dsp_comm h1 x (by omega) hg g1 g2
    · rw [if_neg e, if_neg e]
/-- the held messages of the streams that are free now are taken out and dispatched -/
def relR (w : Nat → Int32) : Nat → Int32 := dspB (upd (cmpR w (he w)) 341 (nI (lfN w (he w)))) w (he w)
def tickR (w : Nat → Int32) : Nat → Int32 := relR (tkU w)
end
section
theorem ofWF {l : Launch} {y : MethodName} {ws ws' : List Cond} {rm : Room} {Pc : Array Value → State → Prop} {Qc : Array Value → State → Outcome → State → Prop} {mc ms : Nat} {free : Addr → Prop} {cc : ByteArray} {maxL : Nat} {ret : Option FieldType}
    (hy : plainFor y = true) (hw : ws = Cond.code y cc maxL ret :: ws')
    (body : ∀ p e s m args below meth c s₁, BodyLoose p l y (headSpec ws rm) cc maxL ret e s m args below meth c s₁ → c.maxLocals = maxL → Pc args s →
      W p l e (headSpec ws rm).room s m args below meth c s.heap [] 0 0 (MQ below Qc args s mc ms free) (entryFrame m args maxL)) : Met l y ws rm Pc Qc mc ms free := by
  refine MetFree.of_bodySF (code := cc) (maxLocals := maxL) (ret := ret) hy ?_ ?_
  · intro args s m h hn
    obtain ⟨meth, c, h1, h2, h3, h4, h5, h6, -, -⟩ := Cond.code_spec hn (atoms_spec (ws := ws) h _ (by rw [hw]; exact List.mem_cons_self))
    exact ⟨meth, c, h1, h2, h3, h4, h5, h6⟩
  · intro p e s m args below meth c s₁ B hml hP _
    have hh0 : s₁.heap = s.heap := by rw [B.state]; rfl
    obtain ⟨t, a1, o, b1, b2, b3⟩ := body p e s m args below meth c s₁ B hml hP s₁ hh0 (Stand.of_body B)
    exact ⟨t, o, a1, b1, b2, ⟨b3.1, b3.2⟩⟩
theorem rdF_int {l : Launch} {y : MethodName} {cc : ByteArray} {maxL : Nat} {rm : Room} {vs : List Value} {ws : va_W} {D : va_G} {cI cO : ClassId} {post : Int32 → Prop} (hy : plainFor y = true) (hlen : (lg_sl vs).length ≤ maxL)
    (body : ∀ (p : Program) (e : Env) (s : State) (m : MethodId) (args : Array Value) (below : List Frame) (meth : Method) (c : Code) (Q : State → Prop) (ls : Array Slot), CallFix p m c cc maxL s args WL y.cls → va_P D vwCl ws s.heap → CT D cI cO s →
      (∀ (r : Int32) (pc : Nat) (ls : Array Slot), post r → decode cc pc = .ok (.ireturn, 1) → W p l e rm s m args below meth c s.heap [] 0 0 Q (F0 m pc ls [.int r])) → lv_has ls maxL (lv_args 0 vs) → W p l e rm s m args below meth c s.heap [] 0 0 Q (F0 m 0 ls [])) :
    Met l y (Cond.code y cc maxL (some .int) :: WL) rm (va_Pc vs (PR D cI cO ws)) (vp_Si post) 0 0 (fun _ => False) := by
  refine ofWF (cc := cc) (maxL := maxL) (ret := some .int) hy rfl ?_
  intro p e s m args below meth c s₁ B hml hv
  obtain ⟨hargs, hP, hC⟩ := hv
  have hts := atoms_spec (ws := Cond.code y cc maxL (some .int) :: WL) B.pre
  have hl := lv_entry vs hlen
  have hlocks := B.notSynchronized
  rw [show entryFrame m args maxL = F0 m 0 ((lg_sl vs ++ List.replicate (maxL - (lg_sl vs).length) Slot.unset).toArray) [] from by rw [hargs]; exact lg_entry_eq m vs maxL]
  exact body p e s m args below meth c _ _ ⟨B.exec, B.bytes, hml, findClass_of_methodNamed B.named, fun w h => hts w (List.mem_cons_of_mem _ h)⟩ hP hC (fun r pc ls hr hd => W.iret (v := r) B.exec B.bytes B.returns (fun t ht _ => ⟨r, rfl, hr, ht⟩) (fun _ h => by cases h) hd) hl
set_option maxHeartbeats 4000000 in
set_option maxRecDepth 100000 in
theorem c_J9_floorDiv_7cf53 (l : Launch) (D : va_G) (cI cO : ClassId) (x y : Nat) (hx_ : x < 2 ^ 31) (hy0 : 0 < y) (hy_ : y < 2 ^ 31) : Met l yJ9_floorDiv_7cf53 (Cond.code yJ9_floorDiv_7cf53 cJ9_floorDiv_7cf53 3 (some .int) :: WL) ({ frames := 0, cells := 0, slots := 0, locals := 0 } : Room) (va_Pc [.int (nI (x)), .int (nI (y))] (PR D cI cO ([]))) (vp_Si (fun r => r = nI (x / y))) 0 0 (fun _ => False) := by
  refine rdF_int (by decide +kernel) (Nat.le_of_ble_eq_true rfl) ?_
  intro p e s m args below meth c Q ls F hP hC hret hl
  have hx := F.1
  have hb := F.2.1
  have hml := F.2.2.1
  have hown := F.2.2.2.1
  have hts := F.2.2.2.2
  replace hl : lv_has ls 3 [(0, .int (nI (x))), (1, .int (nI (y)))] := hl
  refine lv_iload_n hx hb dJ9_floorDiv_7cf53_0 rfl (lv_at hl 0 rfl) ?_
  refine lv_iload_n hx hb dJ9_floorDiv_7cf53_1 rfl (lv_at hl 1 rfl) ?_
  refine n_idiv hx hb dJ9_floorDiv_7cf53_2 (by omega) (by omega) (by omega) ?_
  refine lv_istore_n (lv' := [(2, .int (nI (x / y))), (0, .int (nI (x))), (1, .int (nI (y)))]) hx hb dJ9_floorDiv_7cf53_3 rfl hl (by decide) rfl (fun ls hl => ?_)
  refine lv_iload_n hx hb dJ9_floorDiv_7cf53_4 rfl (lv_at hl 1 rfl) ?_
  refine lv_iload_n hx hb dJ9_floorDiv_7cf53_5 rfl (lv_at hl 2 rfl) ?_
  refine lv_ixor hx hb dJ9_floorDiv_7cf53_6 ?_
  refine lv_if_ge (tgt := 21) hx hb dJ9_floorDiv_7cf53_7 (by decide)  (fun c_7 => ?_) (fun c_7 => ?_)
  · refine lv_iload_n hx hb dJ9_floorDiv_7cf53_21 rfl (lv_at hl 0 rfl) ?_
    exact hret _ _ ls (rfl) dJ9_floorDiv_7cf53_22
  · exact absurd (xor0 hx_ hy_) c_7

set_option maxHeartbeats 4000000 in
set_option maxRecDepth 100000 in
theorem c_J9_floorMod_7cf53 (l : Launch) (D : va_G) (cI cO : ClassId) (x y : Nat) (hx_ : x < 2 ^ 31) (hy0 : 0 < y) (hy_ : y < 2 ^ 31) : Met l yJ9_floorMod_7cf53 (Cond.code yJ9_floorMod_7cf53 cJ9_floorMod_7cf53 3 (some .int) :: WL) ({ frames := 0, cells := 0, slots := 0, locals := 0 } : Room) (va_Pc [.int (nI (x)), .int (nI (y))] (PR D cI cO ([]))) (vp_Si (fun r => r = nI (x % y))) 0 0 (fun _ => False) := by
  refine rdF_int (by decide +kernel) (Nat.le_of_ble_eq_true rfl) ?_
  intro p e s m args below meth c Q ls F hP hC hret hl
  have hx := F.1
  have hb := F.2.1
  have hml := F.2.2.1
  have hown := F.2.2.2.1
  have hts := F.2.2.2.2
  replace hl : lv_has ls 3 [(0, .int (nI (x))), (1, .int (nI (y)))] := hl
  refine lv_iload_n hx hb dJ9_floorMod_7cf53_0 rfl (lv_at hl 0 rfl) ?_
  refine lv_iload_n hx hb dJ9_floorMod_7cf53_1 rfl (lv_at hl 1 rfl) ?_
  refine n_irem hx hb dJ9_floorMod_7cf53_2 (by omega) (by omega) (by omega) ?_
  refine lv_istore_n (lv' := [(2, .int (nI (x % y))), (0, .int (nI (x))), (1, .int (nI (y)))]) hx hb dJ9_floorMod_7cf53_3 rfl hl (by decide) rfl (fun ls hl => ?_)
  refine lv_iload_n hx hb dJ9_floorMod_7cf53_4 rfl (lv_at hl 1 rfl) ?_
  refine lv_iload_n hx hb dJ9_floorMod_7cf53_5 rfl (lv_at hl 2 rfl) ?_
  refine lv_ixor hx hb dJ9_floorMod_7cf53_6 ?_
  refine lv_if_ge (tgt := 18) hx hb dJ9_floorMod_7cf53_7 (by decide)  (fun c_7 => ?_) (fun c_7 => ?_)
  · refine lv_iload_n hx hb dJ9_floorMod_7cf53_18 rfl (lv_at hl 0 rfl) ?_
    exact hret _ _ ls (rfl) dJ9_floorMod_7cf53_19
  · exact absurd (xor0 hx_ hy_) c_7

set_option maxHeartbeats 4000000 in
set_option maxRecDepth 100000 in
theorem c_X2_numberOf (l : Launch) (D : va_G) (cI cO : ClassId) (x : Nat) (hx_ : x < 2 ^ 31) : Met l yX2_numberOf (Cond.code yX2_numberOf cX2_numberOf 1 (some .int) :: WL) ({ frames := 1, cells := 0, slots := 0, locals := 22 } : Room) (va_Pc [.int (nI (x))] (PR D cI cO ([]))) (vp_Si (fun r => r = nI (x / 96))) 0 0 (fun _ => False) := by
  refine rd_int (by decide) (Nat.le_of_ble_eq_true rfl) ?_
  intro p e s m args below meth c Q ls F hP hC hret hl
  have hx := F.1
  have hb := F.2.1
  have hml := F.2.2.1
  have hown := F.2.2.2.1
  have hts := F.2.2.2.2
  replace hl : lv_has ls 1 [(0, .int (nI (x)))] := hl
  refine lv_iload_n hx hb dX2_numberOf_0 rfl (lv_at hl 0 rfl) ?_
  refine lv_bipush (v := (nI (96))) hx hb dX2_numberOf_1 (by decide) ?_
  refine goR (kS (As := [.int (nI (x)), .int (nI (96))]) (rest := []) F (c_J9_floorDiv_7cf53 l D cI cO (x) (96) (by omega) (by omega) (by omega)) ywJ9_floorDiv_7cf53 qw268 qw269  ⟨rfl, rfl⟩ ⟨Nat.le_of_ble_eq_true rfl, Nat.le_of_ble_eq_true rfl⟩ (preR (fun k q h => by simp at h) hC) rfl hl.1 rfl (Nat.le_of_ble_eq_true rfl) dX2_numberOf_3 ⟨Nat.zero_le _, Nat.zero_le _⟩) (fun r_3 h_3 => ?_)
  subst h_3
  exact hret _ _ ls (rfl) dX2_numberOf_6

set_option maxHeartbeats 4000000 in
set_option maxRecDepth 100000 in
theorem c_X2_streamOf (l : Launch) (D : va_G) (cI cO : ClassId) (x : Nat) (hx_ : x < 2 ^ 31) : Met l yX2_streamOf (Cond.code yX2_streamOf cX2_streamOf 1 (some .int) :: WL) ({ frames := 1, cells := 0, slots := 0, locals := 22 } : Room) (va_Pc [.int (nI (x))] (PR D cI cO ([]))) (vp_Si (fun r => r = nI (x % 96))) 0 0 (fun _ => False) := by
  refine rd_int (by decide) (Nat.le_of_ble_eq_true rfl) ?_
  intro p e s m args below meth c Q ls F hP hC hret hl
  have hx := F.1
  have hb := F.2.1
  have hml := F.2.2.1
  have hown := F.2.2.2.1
  have hts := F.2.2.2.2
  replace hl : lv_has ls 1 [(0, .int (nI (x)))] := hl
  refine lv_iload_n hx hb dX2_streamOf_0 rfl (lv_at hl 0 rfl) ?_
  refine lv_bipush (v := (nI (96))) hx hb dX2_streamOf_1 (by decide) ?_
  refine goR (kS (As := [.int (nI (x)), .int (nI (96))]) (rest := []) F (c_J9_floorMod_7cf53 l D cI cO (x) (96) (by omega) (by omega) (by omega)) ywJ9_floorMod_7cf53 qw205 qw206  ⟨rfl, rfl⟩ ⟨Nat.le_of_ble_eq_true rfl, Nat.le_of_ble_eq_true rfl⟩ (preR (fun k q h => by simp at h) hC) rfl hl.1 rfl (Nat.le_of_ble_eq_true rfl) dX2_streamOf_3 ⟨Nat.zero_le _, Nat.zero_le _⟩) (fun r_3 h_3 => ?_)
  subst h_3
  exact hret _ _ ls (rfl) dX2_streamOf_6

set_option maxHeartbeats 4000000 in
set_option maxRecDepth 100000 in
theorem c_X0_dispatch (l : Launch) (D : va_G) (cI cO : ClassId) (sz : Nat) (h : Nat) (a : Nat → Nat) (S : Nat → Nat → Int32) (w : Nat → Int32) (c0 : Nat) (hR : RC c0 S w)  (b_ k : Nat) (hc : c0 < 1000) (hb_ : b_ < sn w) (hk : k < 96) : Met l yX0_dispatch (Cond.code yX0_dispatch cX0_dispatch 4 none :: WL) ({ frames := 4, cells := 0, slots := 0, locals := 90 } : Room) (va_Pc [.ref (h), .int (nI (b_ * 96 + k))] (PW D cI cO (stW cI h a S) sz)) (va_Qv (fun (u : Nat → Nat → Int32) => RC c0 u (dsp w (128 * b_ + k)) ∧ (∀ q, q ≠ 5 → q ≠ 7 → q ≠ 12 → q ≠ 13 → u q = S q) ∧ (∀ v, v < 16 → ac w v = 0 → ∀ j, j < 10 → u 13 (v * 10 + j) = S 13 (v * 10 + j))) (QB D (stW cI h a S) sz (fun (u : Nat → Nat → Int32) => stW cI h a u)) (va_A (stW cI h a S) sz)) 0 0 (va_A (stW cI h a S) sz) := by
  refine wr_void (by decide) (Nat.le_of_ble_eq_true rfl) ?_
  intro p e s m args below meth c Q ls A F hP hC hD hA hret hl
  have hx := F.1
  have hb := F.2.1
  have hml := F.2.2.1
  have hown := F.2.2.2.1
  have hts := F.2.2.2.2
  replace hl : lv_has ls 4 [(0, .ref (h)), (1, .int (nI (b_ * 96 + k)))] := hl
  have hS : va_S A s.heap s.heap [] := va_S.rf
  have hn4 := hR.wf.n.2
  have hsn := hR.wf.e.2
  refine lv_aload_n hx hb dX0_dispatch_0 rfl (lv_at hl 0 rfl) ?_
  refine lv_iload_n hx hb dX0_dispatch_1 rfl (lv_at hl 1 rfl) ?_
  refine goR (kSN (As := [.int (nI (b_ * 96 + k))]) (rest := [.ref (h)]) F (c_X2_streamOf l D cI cO (b_ * 96 + k) (by omega)) ywX2_streamOf (hC.2.2 _ (List.mem_of_getElem? (i := 10) rfl)) qw203  ⟨rfl, rfl⟩ ⟨Nat.le_of_ble_eq_true rfl, Nat.le_of_ble_eq_true rfl⟩ (preR (fun k q h => by simp at h) hC) rfl hl.1 rfl (Nat.le_of_ble_eq_true rfl) dX0_dispatch_2 ⟨Nat.zero_le _, Nat.zero_le _⟩) (fun r_2 h_2 => ?_)
  subst h_2
  refine w_cv (y := (nI (k))) (congrArg nI (by omega)) ?_
  refine goR (kV (As := [.int (nI (k))]) (rest := []) F (c_X0_linkOfStream l D cI cO h a S w c0 hR (k) (by omega)) ywX0_linkOfStream qw208 qw210 qs11 ⟨rfl, rfl⟩ ⟨Nat.le_of_ble_eq_true rfl, Nat.le_of_ble_eq_true rfl⟩ (preV (preR hP hC) hC hP (ci := 0) (q0 := 0) rfl rfl rfl) rfl hl.1 rfl (Nat.le_of_ble_eq_true rfl) dX0_dispatch_5 ⟨Nat.zero_le _, Nat.zero_le _⟩) (fun r_5 h_5 => ?_)
  subst h_5
  refine lv_istore_n (lv' := [(2, .int (lk w k)), (0, .ref (h)), (1, .int (nI (b_ * 96 + k)))]) hx hb dX0_dispatch_8 rfl hl (by decide) rfl (fun ls hl => ?_)
  refine lv_iload_n hx hb dX0_dispatch_9 rfl (lv_at hl 0 rfl) ?_
  refine lv_iconst (v := (-1)) hx hb dX0_dispatch_10 (by decide) ?_
  refine lv_icmp_ne (tgt := 25) hx hb dX0_dispatch_11 (by decide)  (fun c_11 => ?_) (fun c_11 => ?_)
  · obtain ⟨v_, hp16, hpn, hpa, hlk⟩ := lk_some hR.wf hk c_11
    rw [hlk] at hl
    have hl10 := (hR.wf.l v_ hp16).2
    refine lv_aload_n hx hb dX0_dispatch_25 rfl (lv_at hl 1 rfl) ?_
    refine gt0 hx hb hts hown hC.1 hP 0 rfl 12 (by decide) qw47 rfl dX0_dispatch_26 ?_
    refine lv_iload_n hx hb dX0_dispatch_29 rfl (lv_at hl 0 rfl) ?_
    refine n_iald hx hb hC.1 hP 3 0 rfl rfl (by omega) (by decide) dX0_dispatch_30 ?_
    refine w_cv (y := (nI (le w v_))) (hR.l v_ hp16) ?_
    refine lv_istore_n (lv' := [(3, .int (nI (le w v_))), (2, .int (nI (v_))), (0, .ref (h)), (1, .int (nI (b_ * 96 + k)))]) hx hb dX0_dispatch_31 rfl hl (by decide) rfl (fun ls hl => ?_)
    refine lv_iload_n hx hb dX0_dispatch_32 rfl (lv_at hl 0 rfl) ?_
    refine lv_bipush (v := (nI (10))) hx hb dX0_dispatch_33 (by decide) ?_
    refine n_icmp_lt (tgt := 49) hx hb dX0_dispatch_35 (by decide) (by omega) (by omega) (fun c_35 => ?_) (fun c_35 => ?_)
    · refine lv_aload_n hx hb dX0_dispatch_49 rfl (lv_at hl 2 rfl) ?_
      refine gt0 hx hb hts hown hC.1 hP 0 rfl 13 (by decide) qw49 rfl dX0_dispatch_50 ?_
      refine lv_iload_n hx hb dX0_dispatch_53 rfl (lv_at hl 1 rfl) ?_
      refine lv_bipush (v := (nI (10))) hx hb dX0_dispatch_54 (by decide) ?_
      refine n_imul hx hb dX0_dispatch_56  ?_
      refine lv_iload_n hx hb dX0_dispatch_57 rfl (lv_at hl 0 rfl) ?_
      refine n_iadd hx hb dX0_dispatch_58  ?_
      refine lv_iload_n hx hb dX0_dispatch_59 rfl (lv_at hl 3 rfl) ?_
      refine n_iast hx hb hC.1 hP hD hS 4 0 rfl rfl (by omega) (by decide) dX0_dispatch_60 (fun H locs hP hD hS => ?_)
      obtain ⟨S_1, hS_1⟩ : ∃ z : Nat → Nat → Int32, z = va_up S 13 (upd (S 13) ((v_ * 10) + (le w v_)) (nI (b_ * 96 + k))) := ⟨_, rfl⟩
      replace hP : va_P D vwCl (stW cI h a S_1) H := by rw [hS_1]; exact hP
      replace hD : va_D A (stW cI h a S_1) := by rw [hS_1]; exact hD
      refine lv_aload_n hx hb dX0_dispatch_61 rfl (lv_at hl 2 rfl) ?_
      refine gt0 hx hb hts hown hC.1 hP 0 rfl 12 (by decide) qw47 rfl dX0_dispatch_62 ?_
      refine lv_iload_n hx hb dX0_dispatch_65 rfl (lv_at hl 1 rfl) ?_
      refine lv_iload_n hx hb dX0_dispatch_66 rfl (lv_at hl 0 rfl) ?_
      refine lv_iconst (v := (nI (1))) hx hb dX0_dispatch_67 (by decide) ?_
      refine n_iadd hx hb dX0_dispatch_68  ?_
      refine n_iast hx hb hC.1 hP hD hS 3 0 rfl rfl (by omega) (by decide) dX0_dispatch_69 (fun H locs hP hD hS => ?_)
      obtain ⟨S_2, hS_2⟩ : ∃ z : Nat → Nat → Int32, z = va_up S_1 12 (upd (S_1 12) (v_) (nI ((le w v_) + 1))) := ⟨_, rfl⟩
      replace hP : va_P D vwCl (stW cI h a S_2) H := by rw [hS_2]; exact hP
      replace hD : va_D A (stW cI h a S_2) := by rw [hS_2]; exact hD
      exact hret (S_2) _ ls _ _ (by subst hS_2; subst hS_1; exact ⟨by rw [dsp_3 (k := k) (by omega) hlk hp16 (by omega)]; exact RC_app hp16 hpn (by omega) hb_ hk hc hR, fun q _ _ h12 h13 => by rw [sup_ne h12, sup_ne h13], fun v hv hva j hj => by rw [sup_ne (by decide), sup_eq, pk_un (fun e9 => by have e8 : v = v_ := (by omega); subst e8; omega)]⟩) hP hD hS dX0_dispatch_70
    · refine lv_aload_n hx hb dX0_dispatch_38 rfl (lv_at hl 2 rfl) ?_
      refine lv_dup hx hb dX0_dispatch_39 rfl ?_
      refine gt0 hx hb hts hown hC.1 hP 0 rfl 7 (by decide) qw39 rfl dX0_dispatch_40 ?_
      refine lv_iconst (v := (nI (1))) hx hb dX0_dispatch_43 (by decide) ?_
      refine lv_iadd hx hb dX0_dispatch_44  ?_
      refine pt0 (ty := .int) hx hb hts hown hC.1 hP hD hS 0 rfl 7 (by decide) qw39 rfl (by decide +kernel) rfl rfl (Nat.le_of_ble_eq_true rfl) dX0_dispatch_45 (fun H locs hP hD hS => ?_)
      obtain ⟨S_3, hS_3⟩ : ∃ z : Nat → Nat → Int32, z = va_up S 7 (fun _ => ((S 7 0) + (nI (1)))) := ⟨_, rfl⟩
      replace hP : va_P D vwCl (stW cI h a S_3) H := by rw [hS_3]; exact hP
      replace hD : va_D A (stW cI h a S_3) := by rw [hS_3]; exact hD
      exact hret (S_3) _ ls _ _ (by subst hS_3; exact ⟨by rw [dsp_2 (k := k) (by omega) hlk hp16 (by omega)]; exact RC_inc7 hR, fun q _ h7 _ _ => sup_ne h7, fun _ _ _ _ _ => by rw [sup_ne (by decide)]⟩) hP hD hS dX0_dispatch_48
  · refine lv_aload_n hx hb dX0_dispatch_14 rfl (lv_at hl 1 rfl) ?_
    refine lv_dup hx hb dX0_dispatch_15 rfl ?_
    refine gt0 hx hb hts hown hC.1 hP 0 rfl 5 (by decide) qw35 rfl dX0_dispatch_16 ?_
    refine lv_iconst (v := (nI (1))) hx hb dX0_dispatch_19 (by decide) ?_
    refine lv_iadd hx hb dX0_dispatch_20  ?_
    refine pt0 (ty := .int) hx hb hts hown hC.1 hP hD hS 0 rfl 5 (by decide) qw35 rfl (by decide +kernel) rfl rfl (Nat.le_of_ble_eq_true rfl) dX0_dispatch_21 (fun H locs hP hD hS => ?_)
    obtain ⟨S_4, hS_4⟩ : ∃ z : Nat → Nat → Int32, z = va_up S 5 (fun _ => ((S 5 0) + (nI (1)))) := ⟨_, rfl⟩
    replace hP : va_P D vwCl (stW cI h a S_4) H := by rw [hS_4]; exact hP
    replace hD : va_D A (stW cI h a S_4) := by rw [hS_4]; exact hD
    exact hret (S_4) _ ls _ _ (by subst hS_4; exact ⟨by rw [dsp_1 (k := k) (by omega) c_11]; exact RC_inc5 hR, fun q h5 _ _ _ => sup_ne h5, fun _ _ _ _ _ => by rw [sup_ne (by decide)]⟩) hP hD hS dX0_dispatch_24

set_option maxHeartbeats 4000000 in
set_option maxRecDepth 100000 in
theorem c_X0_hold (l : Launch) (D : va_G) (cI cO : ClassId) (sz : Nat) (h : Nat) (a : Nat → Nat) (S : Nat → Nat → Int32) (w : Nat → Int32) (c0 : Nat) (hR : RC c0 S w)  (b_ k : Nat) (hc : c0 < 1000) (hb_ : b_ < sn w) (hk : k < 96) : Met l yX0_hold (Cond.code yX0_hold cX0_hold 2 none :: WL) ({ frames := 0, cells := 0, slots := 0, locals := 0 } : Room) (va_Pc [.ref (h), .int (nI (b_ * 96 + k))] (PW D cI cO (stW cI h a S) sz)) (va_Qv (fun (u : Nat → Nat → Int32) => RC c0 u (hld w (128 * b_ + k))) (QB D (stW cI h a S) sz (fun (u : Nat → Nat → Int32) => stW cI h a u)) (va_A (stW cI h a S) sz)) 0 0 (va_A (stW cI h a S) sz) := by
  refine wr_void (by decide) (Nat.le_of_ble_eq_true rfl) ?_
  intro p e s m args below meth c Q ls A F hP hC hD hA hret hl
  have hx := F.1
  have hb := F.2.1
  have hml := F.2.2.1
  have hown := F.2.2.2.1
  have hts := F.2.2.2.2
  replace hl : lv_has ls 2 [(0, .ref (h)), (1, .int (nI (b_ * 96 + k)))] := hl
  have hS : va_S A s.heap s.heap [] := va_S.rf
  have hn4 := hR.wf.n.2
  have hh24 := hR.wf.h.2
  refine lv_aload_n hx hb dX0_hold_0 rfl (lv_at hl 0 rfl) ?_
  refine gt0 hx hb hts hown hC.1 hP 0 rfl 9 (by decide) qw43 rfl dX0_hold_1 ?_
  refine w_cv (y := (nI (he w))) hR.h ?_
  refine lv_bipush (v := (nI (24))) hx hb dX0_hold_4 (by decide) ?_
  refine n_icmp_lt (tgt := 20) hx hb dX0_hold_6 (by decide) (by omega) (by omega) (fun c_6 => ?_) (fun c_6 => ?_)
  · refine lv_aload_n hx hb dX0_hold_20 rfl (lv_at hl 0 rfl) ?_
    refine gt0 hx hb hts hown hC.1 hP 0 rfl 18 (by decide) qw57 rfl dX0_hold_21 ?_
    refine lv_aload_n hx hb dX0_hold_24 rfl (lv_at hl 0 rfl) ?_
    refine gt0 hx hb hts hown hC.1 hP 0 rfl 9 (by decide) qw43 rfl dX0_hold_25 ?_
    refine w_cv (y := (nI (he w))) hR.h ?_
    refine lv_iload_n hx hb dX0_hold_28 rfl (lv_at hl 1 rfl) ?_
    refine n_iast hx hb hC.1 hP hD hS 9 0 rfl rfl (by omega) (by decide) dX0_hold_29 (fun H locs hP hD hS => ?_)
    obtain ⟨S_1, hS_1⟩ : ∃ z : Nat → Nat → Int32, z = va_up S 18 (upd (S 18) (he w) (nI (b_ * 96 + k))) := ⟨_, rfl⟩
    replace hP : va_P D vwCl (stW cI h a S_1) H := by rw [hS_1]; exact hP
    replace hD : va_D A (stW cI h a S_1) := by rw [hS_1]; exact hD
    refine lv_aload_n hx hb dX0_hold_30 rfl (lv_at hl 0 rfl) ?_
    refine lv_dup hx hb dX0_hold_31 rfl ?_
    refine gt0 hx hb hts hown hC.1 hP 0 rfl 9 (by decide) qw43 rfl dX0_hold_32 ?_
    refine w_cv (y := (nI (he w))) (by rw [hS_1, sup_ne (by decide)]; exact hR.h) ?_
    refine lv_iconst (v := (nI (1))) hx hb dX0_hold_35 (by decide) ?_
    refine n_iadd hx hb dX0_hold_36  ?_
    refine pt0 (ty := .int) hx hb hts hown hC.1 hP hD hS 0 rfl 9 (by decide) qw43 rfl (by decide +kernel) rfl rfl (Nat.le_of_ble_eq_true rfl) dX0_hold_37 (fun H locs hP hD hS => ?_)
    obtain ⟨S_2, hS_2⟩ : ∃ z : Nat → Nat → Int32, z = va_up S_1 9 (fun _ => (nI ((he w) + 1))) := ⟨_, rfl⟩
    replace hP : va_P D vwCl (stW cI h a S_2) H := by rw [hS_2]; exact hP
    replace hD : va_D A (stW cI h a S_2) := by rw [hS_2]; exact hD
    exact hret (S_2) _ ls _ _ (by subst hS_2; subst hS_1; unfold hld; rw [if_neg (by omega)]; exact RC_hold (by omega) hb_ hk hc hR) hP hD hS dX0_hold_40
  · refine lv_aload_n hx hb dX0_hold_9 rfl (lv_at hl 0 rfl) ?_
    refine lv_dup hx hb dX0_hold_10 rfl ?_
    refine gt0 hx hb hts hown hC.1 hP 0 rfl 7 (by decide) qw39 rfl dX0_hold_11 ?_
    refine lv_iconst (v := (nI (1))) hx hb dX0_hold_14 (by decide) ?_
    refine lv_iadd hx hb dX0_hold_15  ?_
    refine pt0 (ty := .int) hx hb hts hown hC.1 hP hD hS 0 rfl 7 (by decide) qw39 rfl (by decide +kernel) rfl rfl (Nat.le_of_ble_eq_true rfl) dX0_hold_16 (fun H locs hP hD hS => ?_)
    obtain ⟨S_3, hS_3⟩ : ∃ z : Nat → Nat → Int32, z = va_up S 7 (fun _ => ((S 7 0) + (nI (1)))) := ⟨_, rfl⟩
    replace hP : va_P D vwCl (stW cI h a S_3) H := by rw [hS_3]; exact hP
    replace hD : va_D A (stW cI h a S_3) := by rw [hS_3]; exact hD
    exact hret (S_3) _ ls _ _ (by subst hS_3; unfold hld; rw [if_pos (by omega)]; exact RC_inc7 hR) hP hD hS dX0_hold_19

set_option maxHeartbeats 4000000 in
set_option maxRecDepth 100000 in
theorem c_X0_accept (l : Launch) (D : va_G) (cI cO : ClassId) (sz : Nat) (h : Nat) (a : Nat → Nat) (S : Nat → Nat → Int32) (w : Nat → Int32) (c0 : Nat) (hR : RC c0 S w)  (d_ s_ q_ : Nat) (hc : c0 < 900) (hd6 : d_ < 6) (hs16 : s_ < 16) (hq4 : q_ < 4) : Met l yX0_accept (Cond.code yX0_accept cX0_accept 8 (some .int) :: WL) ({ frames := 5, cells := 0, slots := 0, locals := 113 } : Room) (va_Pc [.ref (h), .int (nI (d_)), .int (nI (s_)), .int (nI (q_))] (PW D cI cO (stW cI h a S) sz)) (va_Qi (fun (r : Int32) (u : Nat → Nat → Int32) => r = nI (sn w) ∧ RC (c0 + 1) u (sndR w (d_ * 16 + s_) q_)) (QB D (stW cI h a S) sz (fun (u : Nat → Nat → Int32) => stW cI h a u)) (va_A (stW cI h a S) sz)) 0 0 (va_A (stW cI h a S) sz) := by
  refine wr_int (by decide) (Nat.le_of_ble_eq_true rfl) ?_
  intro p e s m args below meth c Q ls A F hP hC hD hA hret hl
  have hx := F.1
  have hb := F.2.1
  have hml := F.2.2.1
  have hown := F.2.2.2.1
  have hts := F.2.2.2.2
  replace hl : lv_has ls 8 [(0, .ref (h)), (1, .int (nI (d_))), (2, .int (nI (s_))), (3, .int (nI (q_)))] := hl
  have hS : va_S A s.heap s.heap [] := va_S.rf
  have hn4 := hR.wf.n.2
  have hsn := hR.wf.e.2
  have hk_ : d_ * 16 + s_ < 96 := by omega
  refine lv_aload_n hx hb dX0_accept_0 rfl (lv_at hl 0 rfl) ?_
  refine gt0 hx hb hts hown hC.1 hP 0 rfl 2 (by decide) qw30 rfl dX0_accept_1 ?_
  refine w_cv (y := (nI (sn w))) hR.e ?_
  refine lv_istore (lv' := [(4, .int (nI (sn w))), (0, .ref (h)), (1, .int (nI (d_))), (2, .int (nI (s_))), (3, .int (nI (q_)))]) hx hb dX0_accept_4 hl (by decide) rfl (fun ls hl => ?_)
  refine lv_aload_n hx hb dX0_accept_6 rfl (lv_at hl 1 rfl) ?_
  refine lv_dup hx hb dX0_accept_7 rfl ?_
  refine gt0 hx hb hts hown hC.1 hP 0 rfl 2 (by decide) qw30 rfl dX0_accept_8 ?_
  refine w_cv (y := (nI (sn w))) hR.e ?_
  refine lv_iconst (v := (nI (1))) hx hb dX0_accept_11 (by decide) ?_
  refine n_iadd hx hb dX0_accept_12  ?_
  refine pt0 (ty := .int) hx hb hts hown hC.1 hP hD hS 0 rfl 2 (by decide) qw30 rfl (by decide +kernel) rfl rfl (Nat.le_of_ble_eq_true rfl) dX0_accept_13 (fun H locs hP hD hS => ?_)
  obtain ⟨S_1, hS_1⟩ : ∃ z : Nat → Nat → Int32, z = va_up S 2 (fun _ => (nI ((sn w) + 1))) := ⟨_, rfl⟩
  replace hP : va_P D vwCl (stW cI h a S_1) H := by rw [hS_1]; exact hP
  replace hD : va_D A (stW cI h a S_1) := by rw [hS_1]; exact hD
  obtain ⟨w1, hw1⟩ : ∃ z : Nat → Int32, z = upd w 464 (nI (sn w + 1)) := ⟨_, rfl⟩
  have hR1 : RC (c0 + 1) S_1 w1 := by rw [hS_1, hw1]; exact RC_sent (by omega) hR
  have hs1 : sn w1 = sn w + 1 := by rw [hw1]; unfold sn; rw [upd_eq, nv_nI (by unfold sn at hsn; omega)]
  have hc1 : c0 + 1 < 1000 := by omega
  refine lv_iload_n hx hb dX0_accept_16 rfl (lv_at hl 2 rfl) ?_
  refine lv_iload_n hx hb dX0_accept_17 rfl (lv_at hl 3 rfl) ?_
  refine goR (kSN (As := [.int (nI (d_)), .int (nI (s_))]) (rest := []) F (c_X2_streamPlace l D cI cO (d_) (s_)) ywX2_streamPlace (hC.2.2 _ (List.mem_of_getElem? (i := 24) rfl)) qw339  ⟨rfl, rfl⟩ ⟨Nat.le_of_ble_eq_true rfl, Nat.le_of_ble_eq_true rfl⟩ (preR (fun k q h => by simp at h) hC) rfl hl.1 rfl (Nat.le_of_ble_eq_true rfl) dX0_accept_18 ⟨Nat.zero_le _, Nat.zero_le _⟩) (fun r_18 h_18 => ?_)
  subst h_18
  refine lv_istore (lv' := [(5, .int (nI (d_ * 16 + s_))), (4, .int (nI (sn w))), (0, .ref (h)), (1, .int (nI (d_))), (2, .int (nI (s_))), (3, .int (nI (q_)))]) hx hb dX0_accept_21 hl (by decide) rfl (fun ls hl => ?_)
  refine lv_iload hx hb dX0_accept_23 (lv_at hl 1 rfl) ?_
  refine lv_iload hx hb dX0_accept_25 (lv_at hl 0 rfl) ?_
  refine goR (kSN (As := [.int (nI (sn w)), .int (nI (d_ * 16 + s_))]) (rest := []) F (c_X2_messageOf l D cI cO (sn w) (d_ * 16 + s_)) ywX2_messageOf (hC.2.2 _ (List.mem_of_getElem? (i := 25) rfl)) qw342  ⟨rfl, rfl⟩ ⟨Nat.le_of_ble_eq_true rfl, Nat.le_of_ble_eq_true rfl⟩ (preR (fun k q h => by simp at h) hC) rfl hl.1 rfl (Nat.le_of_ble_eq_true rfl) dX0_accept_27 ⟨Nat.zero_le _, Nat.zero_le _⟩) (fun r_27 h_27 => ?_)
  subst h_27
  refine lv_istore (lv' := [(6, .int (nI ((sn w) * 96 + (d_ * 16 + s_)))), (5, .int (nI (d_ * 16 + s_))), (4, .int (nI (sn w))), (0, .ref (h)), (1, .int (nI (d_))), (2, .int (nI (s_))), (3, .int (nI (q_)))]) hx hb dX0_accept_30 hl (by decide) rfl (fun ls hl => ?_)
  refine lv_aload_n hx hb dX0_accept_32 rfl (lv_at hl 3 rfl) ?_
  refine lv_iload hx hb dX0_accept_33 (lv_at hl 1 rfl) ?_
  refine goR (kV (As := [.int (nI (d_ * 16 + s_))]) (rest := []) F (c_X0_holds l D cI cO h a S_1 w1 (c0 + 1) hR1 (d_ * 16 + s_) hc1 (by omega)) ywX0_holds qw344 qw346 qs23 ⟨rfl, rfl⟩ ⟨Nat.le_of_ble_eq_true rfl, Nat.le_of_ble_eq_true rfl⟩ (preV (preR hP hC) hC hP (ci := 0) (q0 := 0) rfl rfl rfl) rfl hl.1 rfl (Nat.le_of_ble_eq_true rfl) dX0_accept_35 ⟨Nat.zero_le _, Nat.zero_le _⟩) (fun r_35 h_35 => ?_)
  rcases h_35 with ⟨rfl, h_35⟩ | ⟨rfl, h_35⟩
  · refine n_if_eq (tgt := 50) hx hb dX0_accept_38 (by decide) (by omega) (fun h => absurd h (by decide)) (fun _ => ?_)
    refine lv_aload_n hx hb dX0_accept_41 rfl (lv_at hl 3 rfl) ?_
    refine lv_iload hx hb dX0_accept_42 (lv_at hl 0 rfl) ?_
    refine goWv (pre := []) (wc := stW cI h a S_1) (suf := []) (kV (As := [.int (nI ((sn w) * 96 + (d_ * 16 + s_)))]) (rest := []) F (c_X0_hold l D cI cO _ h a S_1 w1 (c0 + 1) hR1 (sn w) (d_ * 16 + s_) hc1 (by omega) hk_) ywX0_hold qw348 qw350 qs24 ⟨rfl, rfl⟩ ⟨Nat.le_of_ble_eq_true rfl, Nat.le_of_ble_eq_true rfl⟩ (preV (preW hP hC hD) hC hP (ci := 0) (q0 := 0) rfl rfl rfl) rfl hl.1 rfl (Nat.le_of_ble_eq_true rfl) dX0_accept_44 ⟨Nat.zero_le _, Nat.zero_le _⟩) (by simpa only [List.append_assoc, List.nil_append, List.append_nil] using hP) (by simpa only [List.append_assoc, List.nil_append, List.append_nil] using hD) hS hA (fun T_1 H locs h_44 hP hD hS => ?_)
    replace hP : va_P D vwCl (stW cI h a T_1) H := by simpa only [List.append_assoc, List.nil_append, List.append_nil] using hP
    replace hD : va_D A (stW cI h a T_1) := by simpa only [List.append_assoc, List.nil_append, List.append_nil] using hD
    skip
    refine lv_iload hx hb dX0_accept_47 (lv_at hl 2 rfl) ?_
    exact hret _ (T_1) _ ls _ _ (⟨rfl, by unfold sndR sndX; rw [← hw1]; rw [if_pos h_35]; exact h_44⟩) hP hD hS dX0_accept_49
  · refine n_if_eq (tgt := 50) hx hb dX0_accept_38 (by decide) (by omega) (fun _ => ?_) (fun h => absurd h (by decide))
    refine lv_aload_n hx hb dX0_accept_50 rfl (lv_at hl 3 rfl) ?_
    refine lv_iload hx hb dX0_accept_51 (lv_at hl 1 rfl) ?_
    refine goR (kV (As := [.int (nI (d_ * 16 + s_))]) (rest := []) F (c_X0_linkOfStream l D cI cO h a S_1 w1 (c0 + 1) hR1 (d_ * 16 + s_) (by omega)) ywX0_linkOfStream qw208 qw210 qs11 ⟨rfl, rfl⟩ ⟨Nat.le_of_ble_eq_true rfl, Nat.le_of_ble_eq_true rfl⟩ (preV (preR hP hC) hC hP (ci := 0) (q0 := 0) rfl rfl rfl) rfl hl.1 rfl (Nat.le_of_ble_eq_true rfl) dX0_accept_53 ⟨Nat.zero_le _, Nat.zero_le _⟩) (fun r_53 h_53 => ?_)
    subst h_53
    refine lv_istore (lv' := [(7, .int (lk w1 (d_ * 16 + s_))), (6, .int (nI ((sn w) * 96 + (d_ * 16 + s_)))), (5, .int (nI (d_ * 16 + s_))), (4, .int (nI (sn w))), (0, .ref (h)), (1, .int (nI (d_))), (2, .int (nI (s_))), (3, .int (nI (q_)))]) hx hb dX0_accept_56 hl (by decide) rfl (fun ls hl => ?_)
    refine lv_iload hx hb dX0_accept_58 (lv_at hl 0 rfl) ?_
    refine lv_iconst (v := (-1)) hx hb dX0_accept_60 (by decide) ?_
    refine lv_icmp_eq (tgt := 87) hx hb dX0_accept_61 (by decide)  (fun c_61 => ?_) (fun c_61 => ?_)
    · refine lv_aload_n hx hb dX0_accept_87 rfl (lv_at hl 4 rfl) ?_
      refine lv_iload hx hb dX0_accept_88 (lv_at hl 1 rfl) ?_
      refine goWv (pre := []) (wc := stW cI h a S_1) (suf := []) (kV (As := [.int (nI ((sn w) * 96 + (d_ * 16 + s_)))]) (rest := []) F (c_X0_dispatch l D cI cO _ h a S_1 w1 (c0 + 1) hR1 (sn w) (d_ * 16 + s_) hc1 (by omega) hk_) ywX0_dispatch qw198 qw200 qs10 ⟨rfl, rfl⟩ ⟨Nat.le_of_ble_eq_true rfl, Nat.le_of_ble_eq_true rfl⟩ (preV (preW hP hC hD) hC hP (ci := 0) (q0 := 0) rfl rfl rfl) rfl hl.1 rfl (Nat.le_of_ble_eq_true rfl) dX0_accept_90 ⟨Nat.zero_le _, Nat.zero_le _⟩) (by simpa only [List.append_assoc, List.nil_append, List.append_nil] using hP) (by simpa only [List.append_assoc, List.nil_append, List.append_nil] using hD) hS hA (fun T_2 H locs h_90 hP hD hS => ?_)
      replace hP : va_P D vwCl (stW cI h a T_2) H := by simpa only [List.append_assoc, List.nil_append, List.append_nil] using hP
      replace hD : va_D A (stW cI h a T_2) := by simpa only [List.append_assoc, List.nil_append, List.append_nil] using hD
      obtain ⟨hR_90, hf_90, hg_90⟩ := h_90
      refine lv_iload hx hb dX0_accept_93 (lv_at hl 3 rfl) ?_
      exact hret _ (T_2) _ ls _ _ (⟨rfl, by unfold sndR sndX; rw [← hw1]; rw [if_neg (by omega), if_neg (fun e9 => by first | exact e9.1 c_61 | (have e8 := e9.2; rw [hlk, nv_nI (by omega)] at e8; omega))]; exact hR_90⟩) hP hD hS dX0_accept_95
    · obtain ⟨v_, hp16, hpn, hpa, hlk⟩ := lk_some hR1.wf hk_ c_61
      rw [hlk] at hl
      have hl3 : lvl (le w1 v_) ≤ 3 := by unfold lvl; (repeat' split) <;> omega
      refine lv_aload_n hx hb dX0_accept_64 rfl (lv_at hl 4 rfl) ?_
      refine lv_iload hx hb dX0_accept_65 (lv_at hl 0 rfl) ?_
      refine goR (kV (As := [.int (nI (v_))]) (rest := []) F (c_X0_congestionLevel l D cI cO h a S_1 w1 (c0 + 1) hR1 (v_) (by omega)) ywX0_congestionLevel qw352 qw286 qs20 ⟨rfl, rfl⟩ ⟨Nat.le_of_ble_eq_true rfl, Nat.le_of_ble_eq_true rfl⟩ (preV (preR hP hC) hC hP (ci := 0) (q0 := 0) rfl rfl rfl) rfl hl.1 rfl (Nat.le_of_ble_eq_true rfl) dX0_accept_67 ⟨Nat.zero_le _, Nat.zero_le _⟩) (fun r_67 h_67 => ?_)
      subst h_67
      refine lv_iload_n hx hb dX0_accept_70 rfl (lv_at hl 7 rfl) ?_
      refine n_icmp_le (tgt := 87) hx hb dX0_accept_71 (by decide) (by omega) (by omega) (fun c_71 => ?_) (fun c_71 => ?_)
      · refine lv_aload_n hx hb dX0_accept_87 rfl (lv_at hl 4 rfl) ?_
        refine lv_iload hx hb dX0_accept_88 (lv_at hl 1 rfl) ?_
        refine goWv (pre := []) (wc := stW cI h a S_1) (suf := []) (kV (As := [.int (nI ((sn w) * 96 + (d_ * 16 + s_)))]) (rest := []) F (c_X0_dispatch l D cI cO _ h a S_1 w1 (c0 + 1) hR1 (sn w) (d_ * 16 + s_) hc1 (by omega) hk_) ywX0_dispatch qw198 qw200 qs10 ⟨rfl, rfl⟩ ⟨Nat.le_of_ble_eq_true rfl, Nat.le_of_ble_eq_true rfl⟩ (preV (preW hP hC hD) hC hP (ci := 0) (q0 := 0) rfl rfl rfl) rfl hl.1 rfl (Nat.le_of_ble_eq_true rfl) dX0_accept_90 ⟨Nat.zero_le _, Nat.zero_le _⟩) (by simpa only [List.append_assoc, List.nil_append, List.append_nil] using hP) (by simpa only [List.append_assoc, List.nil_append, List.append_nil] using hD) hS hA (fun T_3 H locs h_90 hP hD hS => ?_)
        replace hP : va_P D vwCl (stW cI h a T_3) H := by simpa only [List.append_assoc, List.nil_append, List.append_nil] using hP
        replace hD : va_D A (stW cI h a T_3) := by simpa only [List.append_assoc, List.nil_append, List.append_nil] using hD
        obtain ⟨hR_90, hf_90, hg_90⟩ := h_90
        refine lv_iload hx hb dX0_accept_93 (lv_at hl 3 rfl) ?_
        exact hret _ (T_3) _ ls _ _ (⟨rfl, by unfold sndR sndX; rw [← hw1]; rw [if_neg (by omega), if_neg (fun e9 => by first | exact e9.1 c_61 | (have e8 := e9.2; rw [hlk, nv_nI (by omega)] at e8; omega))]; exact hR_90⟩) hP hD hS dX0_accept_95
      · refine lv_aload_n hx hb dX0_accept_74 rfl (lv_at hl 4 rfl) ?_
        refine lv_dup hx hb dX0_accept_75 rfl ?_
        refine gt0 hx hb hts hown hC.1 hP 0 rfl 6 (by decide) qw37 rfl dX0_accept_76 ?_
        refine lv_iconst (v := (nI (1))) hx hb dX0_accept_79 (by decide) ?_
        refine lv_iadd hx hb dX0_accept_80  ?_
        refine pt0 (ty := .int) hx hb hts hown hC.1 hP hD hS 0 rfl 6 (by decide) qw37 rfl (by decide +kernel) rfl rfl (Nat.le_of_ble_eq_true rfl) dX0_accept_81 (fun H locs hP hD hS => ?_)
        obtain ⟨S_2, hS_2⟩ : ∃ z : Nat → Nat → Int32, z = va_up S_1 6 (fun _ => ((S_1 6 0) + (nI (1)))) := ⟨_, rfl⟩
        replace hP : va_P D vwCl (stW cI h a S_2) H := by rw [hS_2]; exact hP
        replace hD : va_D A (stW cI h a S_2) := by rw [hS_2]; exact hD
        refine lv_iload hx hb dX0_accept_84 (lv_at hl 3 rfl) ?_
        exact hret _ (S_2) _ ls _ _ (⟨rfl, by unfold sndR sndX; rw [← hw1]; rw [if_neg (by omega), if_pos ⟨c_61, by rw [hlk, nv_nI (by omega)]; omega⟩, hS_2]; exact RC_inc6 hR1⟩) hP hD hS dX0_accept_86

set_option maxHeartbeats 4000000 in
set_option maxRecDepth 100000 in
theorem c_X0_deliver (l : Launch) (D : va_G) (cI cO : ClassId) (sz : Nat) (h : Nat) (a : Nat → Nat) (S : Nat → Nat → Int32) (w : Nat → Int32) (c0 : Nat) (hR : RC c0 S w)  (b_ k : Nat) (hc : c0 < 1000) (hb_ : b_ < sn w) (hk : k < 96) : Met l yX0_deliver (Cond.code yX0_deliver cX0_deliver 4 none :: WL) ({ frames := 2, cells := 0, slots := 0, locals := 42 } : Room) (va_Pc [.ref (h), .int (nI (b_ * 96 + k))] (PW D cI cO (stW cI h a S) sz)) (va_Qv (fun (u : Nat → Nat → Int32) => RC c0 u (dlv w (128 * b_ + k)) ∧ (∀ q, q ≠ 3 → q ≠ 4 → q ≠ 17 → u q = S q)) (QB D (stW cI h a S) sz (fun (u : Nat → Nat → Int32) => stW cI h a u)) (va_A (stW cI h a S) sz)) 0 0 (va_A (stW cI h a S) sz) := by
  refine wr_void (by decide) (Nat.le_of_ble_eq_true rfl) ?_
  intro p e s m args below meth c Q ls A F hP hC hD hA hret hl
  have hx := F.1
  have hb := F.2.1
  have hml := F.2.2.1
  have hown := F.2.2.2.1
  have hts := F.2.2.2.2
  replace hl : lv_has ls 4 [(0, .ref (h)), (1, .int (nI (b_ * 96 + k)))] := hl
  have hS : va_S A s.heap s.heap [] := va_S.rf
  have hn4 := hR.wf.n.2
  have hsn := hR.wf.e.2
  have hgi := grt_iff (hR.wf.g k hk) (by omega) hb_ hk
  refine lv_iload_n hx hb dX0_deliver_0 rfl (lv_at hl 1 rfl) ?_
  refine goR (kSN (As := [.int (nI (b_ * 96 + k))]) (rest := []) F (c_X2_streamOf l D cI cO (b_ * 96 + k) (by omega)) ywX2_streamOf (hC.2.2 _ (List.mem_of_getElem? (i := 10) rfl)) qw203  ⟨rfl, rfl⟩ ⟨Nat.le_of_ble_eq_true rfl, Nat.le_of_ble_eq_true rfl⟩ (preR (fun k q h => by simp at h) hC) rfl hl.1 rfl (Nat.le_of_ble_eq_true rfl) dX0_deliver_1 ⟨Nat.zero_le _, Nat.zero_le _⟩) (fun r_1 h_1 => ?_)
  subst h_1
  refine w_cv (y := (nI (k))) (congrArg nI (by omega)) ?_
  refine lv_istore_n (lv' := [(2, .int (nI (k))), (0, .ref (h)), (1, .int (nI (b_ * 96 + k)))]) hx hb dX0_deliver_4 rfl hl (by decide) rfl (fun ls hl => ?_)
  refine lv_iload_n hx hb dX0_deliver_5 rfl (lv_at hl 2 rfl) ?_
  refine goR (kSN (As := [.int (nI (b_ * 96 + k))]) (rest := []) F (c_X2_numberOf l D cI cO (b_ * 96 + k) (by omega)) ywX2_numberOf (hC.2.2 _ (List.mem_of_getElem? (i := 17) rfl)) qw266  ⟨rfl, rfl⟩ ⟨Nat.le_of_ble_eq_true rfl, Nat.le_of_ble_eq_true rfl⟩ (preR (fun k q h => by simp at h) hC) rfl hl.1 rfl (Nat.le_of_ble_eq_true rfl) dX0_deliver_6 ⟨Nat.zero_le _, Nat.zero_le _⟩) (fun r_6 h_6 => ?_)
  subst h_6
  refine w_cv (y := (nI (b_))) (congrArg nI (by omega)) ?_
  refine lv_istore_n (lv' := [(3, .int (nI (b_))), (2, .int (nI (k))), (0, .ref (h)), (1, .int (nI (b_ * 96 + k)))]) hx hb dX0_deliver_9 rfl hl (by decide) rfl (fun ls hl => ?_)
  refine lv_aload_n hx hb dX0_deliver_10 rfl (lv_at hl 2 rfl) ?_
  refine lv_dup hx hb dX0_deliver_11 rfl ?_
  refine gt0 hx hb hts hown hC.1 hP 0 rfl 3 (by decide) qw31 rfl dX0_deliver_12 ?_
  refine lv_iconst (v := (nI (1))) hx hb dX0_deliver_15 (by decide) ?_
  refine lv_iadd hx hb dX0_deliver_16  ?_
  refine pt0 (ty := .int) hx hb hts hown hC.1 hP hD hS 0 rfl 3 (by decide) qw31 rfl (by decide +kernel) rfl rfl (Nat.le_of_ble_eq_true rfl) dX0_deliver_17 (fun H locs hP hD hS => ?_)
  obtain ⟨S_1, hS_1⟩ : ∃ z : Nat → Nat → Int32, z = va_up S 3 (fun _ => ((S 3 0) + (nI (1)))) := ⟨_, rfl⟩
  replace hP : va_P D vwCl (stW cI h a S_1) H := by rw [hS_1]; exact hP
  replace hD : va_D A (stW cI h a S_1) := by rw [hS_1]; exact hD
  obtain ⟨w1, hw1⟩ : ∃ z : Nat → Int32, z = upd w 465 (w 465 + nI 1) := ⟨_, rfl⟩
  have hR1 : RC c0 S_1 w1 := by rw [hS_1, hw1]; exact RC_inc3 hR
  have hs1 : sn w1 = sn w := by rw [hw1]; unfold sn; rw [pk_un (by omega)]
  have hg1 : w1 (366 + k) = w (366 + k) := by rw [hw1, pk_un (by omega)]
  refine lv_iload_n hx hb dX0_deliver_20 rfl (lv_at hl 0 rfl) ?_
  refine lv_aload_n hx hb dX0_deliver_21 rfl (lv_at hl 2 rfl) ?_
  refine gt0 hx hb hts hown hC.1 hP 0 rfl 17 (by decide) qw56 rfl dX0_deliver_22 ?_
  refine lv_iload_n hx hb dX0_deliver_25 rfl (lv_at hl 1 rfl) ?_
  refine n_iald hx hb hC.1 hP 8 0 rfl rfl (by omega) (by decide) dX0_deliver_26 ?_
  refine w_cv (y := (trg (w (366 + k)))) (by rw [← hg1]; exact hR1.g k hk) ?_
  refine lv_icmp_ge (tgt := 43) hx hb dX0_deliver_27 (by decide)  (fun c_27 => ?_) (fun c_27 => ?_)
  · refine lv_aload_n hx hb dX0_deliver_43 rfl (lv_at hl 2 rfl) ?_
    refine gt0 hx hb hts hown hC.1 hP 0 rfl 17 (by decide) qw56 rfl dX0_deliver_44 ?_
    refine lv_iload_n hx hb dX0_deliver_47 rfl (lv_at hl 1 rfl) ?_
    refine lv_iload_n hx hb dX0_deliver_48 rfl (lv_at hl 0 rfl) ?_
    refine n_iast hx hb hC.1 hP hD hS 8 0 rfl rfl (by omega) (by decide) dX0_deliver_49 (fun H locs hP hD hS => ?_)
    obtain ⟨S_2, hS_2⟩ : ∃ z : Nat → Nat → Int32, z = va_up S_1 17 (upd (S_1 17) (k) (nI (b_))) := ⟨_, rfl⟩
    replace hP : va_P D vwCl (stW cI h a S_2) H := by rw [hS_2]; exact hP
    replace hD : va_D A (stW cI h a S_2) := by rw [hS_2]; exact hD
    exact hret (S_2) _ ls _ _ (by first | (subst hS_2; exact ⟨by rw [dlv_1 (k := k) (by omega) hk (hgi.mp (Int32.not_le.mp c_27)), ← hw1]; exact RC_inc4 hR1, fun q h3 h4 h17 => by rw [sup_ne h4, hS_1, sup_ne h3]⟩) | (subst hS_2; exact ⟨by rw [dlv_2 (k := k) (by omega) (fun e9 => Int32.not_lt.mpr c_27 (hgi.mpr e9)), ← hw1]; exact RC_grt (by omega) hk hc hR1, fun q h3 h4 h17 => by rw [sup_ne h17, hS_1, sup_ne h3]⟩)) hP hD hS dX0_deliver_50
  · refine lv_aload_n hx hb dX0_deliver_30 rfl (lv_at hl 2 rfl) ?_
    refine lv_dup hx hb dX0_deliver_31 rfl ?_
    refine gt0 hx hb hts hown hC.1 hP 0 rfl 4 (by decide) qw33 rfl dX0_deliver_32 ?_
    refine lv_iconst (v := (nI (1))) hx hb dX0_deliver_35 (by decide) ?_
    refine lv_iadd hx hb dX0_deliver_36  ?_
    refine pt0 (ty := .int) hx hb hts hown hC.1 hP hD hS 0 rfl 4 (by decide) qw33 rfl (by decide +kernel) rfl rfl (Nat.le_of_ble_eq_true rfl) dX0_deliver_37 (fun H locs hP hD hS => ?_)
    obtain ⟨S_3, hS_3⟩ : ∃ z : Nat → Nat → Int32, z = va_up S_1 4 (fun _ => ((S_1 4 0) + (nI (1)))) := ⟨_, rfl⟩
    replace hP : va_P D vwCl (stW cI h a S_3) H := by rw [hS_3]; exact hP
    replace hD : va_D A (stW cI h a S_3) := by rw [hS_3]; exact hD
    refine lv_goto (tgt := 50) hx hb dX0_deliver_40 (by decide) ?_
    exact hret (S_3) _ ls _ _ (by first | (subst hS_3; exact ⟨by rw [dlv_1 (k := k) (by omega) hk (hgi.mp (Int32.not_le.mp c_27)), ← hw1]; exact RC_inc4 hR1, fun q h3 h4 h17 => by rw [sup_ne h4, hS_1, sup_ne h3]⟩) | (subst hS_3; exact ⟨by rw [dlv_2 (k := k) (by omega) (fun e9 => Int32.not_lt.mpr c_27 (hgi.mpr e9)), ← hw1]; exact RC_grt (by omega) hk hc hR1, fun q h3 h4 h17 => by rw [sup_ne h17, hS_1, sup_ne h3]⟩)) hP hD hS dX0_deliver_50
end
section
theorem msg_ok {c : Nat} {w : Nat → Int32} (h : WF c w) (hc : c < 1000) {v i : Nat} (hv : v < 16) (hi : i < le w v) : ∃ a k, a < sn w ∧ k < 96 ∧ w (37 + 10 * v + i) = nI (128 * a + k) ∧ msg w v i = 128 * a + k := by
  obtain ⟨a, k, ha, hk, hx⟩ := h.q v hv i hi
  have := h.e.2
  exact ⟨a, k, ha, hk, hx, by unfold msg; rw [hx, nv_nI (by omega)]⟩
theorem msg_lt {c : Nat} {w : Nat → Int32} (h : WF c w) (hc : c < 1000) {v : Nat} (hv : v < 16) {n : Nat} (hn : n ≤ le w v) : ∀ i, i < n → msg w v i % 128 < 96 := fun i hi => by
  obtain ⟨a, k, ha, hk, -, e⟩ := msg_ok h hc hv (i := i) (by omega)
  omega
theorem dvN_0 {w B : Nat → Int32} (h : hd w = 0) : ∀ n, dvN w B n = (w, 0)
  | 0 => rfl
  | n + 1 => by simp only [dvN]; rw [if_neg (fun q => q.1 h)]; exact dvN_0 h n
theorem lk_dvN {c : Nat} {w B : Nat → Int32} (h : WF c w) {n k : Nat} (hn : n ≤ 96) (hk : k < 96) : lk (dvN w B n).1 k = lk w k := lk_congr (fun j hj => dvN_ne n (by omega)) (fun j _ hj => dvN_ne n (by omega)) h.n.2 hk
theorem RC_mv' {c : Nat} {S : Nat → Nat → Int32} {w : Nat → Int32} {p0 j0 n0 : Nat} (hp0 : p0 < 16) (hn : n0 ≤ j0) (hj0 : j0 < le w p0) (hR : RC c S w) : RC c (va_up S 13 (upd (S 13) (p0 * 10 + j0 - n0) (S 13 (p0 * 10 + j0)))) (upd w (37 + 10 * p0 + (j0 - n0)) (w (37 + 10 * p0 + j0))) := by
  have h := RC_mv (j0 := j0 - n0) (j1 := j0) hp0 (by omega) hj0 hR
  rw [show p0 * 10 + (j0 - n0) = p0 * 10 + j0 - n0 by omega] at h
  exact h
theorem failR_sn {w : Nat → Int32} {v : Nat} (hv : v < 16) : sn (flR w v) = sn w := by unfold sn flR; rw [pk_un (by omega), pk_un (by omega)]
set_option maxHeartbeats 4000000 in
set_option maxRecDepth 100000 in
theorem c_X0_appendLinkset (l : Launch) (D : va_G) (cI cO : ClassId) (sz : Nat) (h : Nat) (a : Nat → Nat) (S : Nat → Nat → Int32) (w : Nat → Int32) (c0 : Nat) (hR : RC c0 S w)  (m0 : Nat) (hn3 : nn w < 4) (hm1 : 1 ≤ m0) (hm4 : m0 ≤ 4) : Met l yX0_appendLinkset (Cond.code yX0_appendLinkset cX0_appendLinkset 3 (some .int) :: WL) ({ frames := 0, cells := 0, slots := 0, locals := 0 } : Room) (va_Pc [.ref (h), .int (nI (m0))] (PW D cI cO (stW cI h a S) sz)) (va_Qi (fun (r : Int32) (u : Nat → Nat → Int32) => r = nI (nn w) ∧ RC c0 u (addR w m0)) (QB D (stW cI h a S) sz (fun (u : Nat → Nat → Int32) => stW cI h a u)) (va_A (stW cI h a S) sz)) 0 0 (va_A (stW cI h a S) sz) := by
  refine wr_int (by decide) (Nat.le_of_ble_eq_true rfl) ?_
  intro p e s m args below meth c Q ls A F hP hC hD hA hret hl
  have hx := F.1
  have hb := F.2.1
  have hml := F.2.2.1
  have hown := F.2.2.2.1
  have hts := F.2.2.2.2
  replace hl : lv_has ls 3 [(0, .ref (h)), (1, .int (nI (m0)))] := hl
  have hS : va_S A s.heap s.heap [] := va_S.rf
  have hn4 := hR.wf.n.2
  refine lv_aload_n hx hb dX0_appendLinkset_0 rfl (lv_at hl 0 rfl) ?_
  refine gt0 hx hb hts hown hC.1 hP 0 rfl 8 (by decide) qw42 rfl dX0_appendLinkset_1 ?_
  refine w_cv (y := (nI (nn w))) hR.n ?_
  refine lv_istore_n (lv' := [(2, .int (nI (nn w))), (0, .ref (h)), (1, .int (nI (m0)))]) hx hb dX0_appendLinkset_4 rfl hl (by decide) rfl (fun ls hl => ?_)
  refine lv_aload_n hx hb dX0_appendLinkset_5 rfl (lv_at hl 1 rfl) ?_
  refine gt0 hx hb hts hown hC.1 hP 0 rfl 10 (by decide) qw45 rfl dX0_appendLinkset_6 ?_
  refine lv_iload_n hx hb dX0_appendLinkset_9 rfl (lv_at hl 0 rfl) ?_
  refine lv_iload_n hx hb dX0_appendLinkset_10 rfl (lv_at hl 2 rfl) ?_
  refine n_iast hx hb hC.1 hP hD hS 1 0 rfl rfl (by omega) (by decide) dX0_appendLinkset_11 (fun H locs hP hD hS => ?_)
  obtain ⟨S_1, hS_1⟩ : ∃ z : Nat → Nat → Int32, z = va_up S 10 (upd (S 10) (nn w) (nI (m0))) := ⟨_, rfl⟩
  replace hP : va_P D vwCl (stW cI h a S_1) H := by rw [hS_1]; exact hP
  replace hD : va_D A (stW cI h a S_1) := by rw [hS_1]; exact hD
  refine lv_aload_n hx hb dX0_appendLinkset_12 rfl (lv_at hl 1 rfl) ?_
  refine gt0 hx hb hts hown hC.1 hP 0 rfl 11 (by decide) qw46 rfl dX0_appendLinkset_13 ?_
  refine lv_iload_n hx hb dX0_appendLinkset_16 rfl (lv_at hl 0 rfl) ?_
  refine lv_iconst (v := (nI (1))) hx hb dX0_appendLinkset_17 (by decide) ?_
  refine lv_iload_n hx hb dX0_appendLinkset_18 rfl (lv_at hl 2 rfl) ?_
  refine lv_ishl hx hb dX0_appendLinkset_19 ?_
  refine lv_iconst (v := (nI (1))) hx hb dX0_appendLinkset_20 (by decide) ?_
  refine lv_isub hx hb dX0_appendLinkset_21  ?_
  refine w_cv (y := (nI (2 ^ m0 - 1))) (shl1 m0 (by omega)) ?_
  refine n_iast hx hb hC.1 hP hD hS 2 0 rfl rfl (by omega) (by decide) dX0_appendLinkset_22 (fun H locs hP hD hS => ?_)
  obtain ⟨S_2, hS_2⟩ : ∃ z : Nat → Nat → Int32, z = va_up S_1 11 (upd (S_1 11) (nn w) (nI (2 ^ m0 - 1))) := ⟨_, rfl⟩
  replace hP : va_P D vwCl (stW cI h a S_2) H := by rw [hS_2]; exact hP
  replace hD : va_D A (stW cI h a S_2) := by rw [hS_2]; exact hD
  refine lv_aload_n hx hb dX0_appendLinkset_23 rfl (lv_at hl 1 rfl) ?_
  refine lv_dup hx hb dX0_appendLinkset_24 rfl ?_
  refine gt0 hx hb hts hown hC.1 hP 0 rfl 8 (by decide) qw42 rfl dX0_appendLinkset_25 ?_
  refine w_cv (y := (nI (nn w))) (by subst hS_2; subst hS_1; rw [sup_ne (by decide), sup_ne (by decide)]; exact hR.n) ?_
  refine lv_iconst (v := (nI (1))) hx hb dX0_appendLinkset_28 (by decide) ?_
  refine n_iadd hx hb dX0_appendLinkset_29  ?_
  refine pt0 (ty := .int) hx hb hts hown hC.1 hP hD hS 0 rfl 8 (by decide) qw42 rfl (by decide +kernel) rfl rfl (Nat.le_of_ble_eq_true rfl) dX0_appendLinkset_30 (fun H locs hP hD hS => ?_)
  obtain ⟨S_3, hS_3⟩ : ∃ z : Nat → Nat → Int32, z = va_up S_2 8 (fun _ => (nI ((nn w) + 1))) := ⟨_, rfl⟩
  replace hP : va_P D vwCl (stW cI h a S_3) H := by rw [hS_3]; exact hP
  replace hD : va_D A (stW cI h a S_3) := by rw [hS_3]; exact hD
  refine lv_iload_n hx hb dX0_appendLinkset_33 rfl (lv_at hl 0 rfl) ?_
  exact hret _ (S_3) _ ls _ _ (⟨rfl, by subst hS_3; subst hS_2; subst hS_1; exact RC_add hn3 hm1 hm4 hR⟩) hP hD hS dX0_appendLinkset_34

set_option maxHeartbeats 4000000 in
set_option maxRecDepth 100000 in
theorem c_X0_activate (l : Launch) (D : va_G) (cI cO : ClassId) (sz : Nat) (h : Nat) (a : Nat → Nat) (S : Nat → Nat → Int32) (w : Nat → Int32) (c0 : Nat) (hR : RC c0 S w)  (i l_ : Nat) (hi : i < 4) (hl_ : l_ < mn w i) (hac : ac w (4 * i + l_) = 0) : Met l yX0_activate (Cond.code yX0_activate cX0_activate 3 none :: WL) ({ frames := 0, cells := 0, slots := 0, locals := 0 } : Room) (va_Pc [.ref (h), .int (nI (i)), .int (nI (l_))] (PW D cI cO (stW cI h a S) sz)) (va_Qv (fun (u : Nat → Nat → Int32) => RC c0 u (upd w (5 + (4 * i + l_)) (nI 1))) (QB D (stW cI h a S) sz (fun (u : Nat → Nat → Int32) => stW cI h a u)) (va_A (stW cI h a S) sz)) 0 0 (va_A (stW cI h a S) sz) := by
  refine wr_void (by decide) (Nat.le_of_ble_eq_true rfl) ?_
  intro p e s m args below meth c Q ls A F hP hC hD hA hret hl
  have hx := F.1
  have hb := F.2.1
  have hml := F.2.2.1
  have hown := F.2.2.2.1
  have hts := F.2.2.2.2
  replace hl : lv_has ls 3 [(0, .ref (h)), (1, .int (nI (i))), (2, .int (nI (l_)))] := hl
  have hS : va_S A s.heap s.heap [] := va_S.rf
  have hn4 := hR.wf.n.2
  have hm4 := (hR.wf.m i hi).2
  refine lv_aload_n hx hb dX0_activate_0 rfl (lv_at hl 0 rfl) ?_
  refine gt0 hx hb hts hown hC.1 hP 0 rfl 11 (by decide) qw46 rfl dX0_activate_1 ?_
  refine lv_iload_n hx hb dX0_activate_4 rfl (lv_at hl 1 rfl) ?_
  refine lv_dup2_11 hx hb dX0_activate_5 rfl rfl ?_
  refine n_iald hx hb hC.1 hP 2 0 rfl rfl (by omega) (by decide) dX0_activate_6 ?_
  refine w_cv (y := (nI (am w i))) (hR.a i hi) ?_
  refine lv_iconst (v := (nI (1))) hx hb dX0_activate_7 (by decide) ?_
  refine lv_iload_n hx hb dX0_activate_8 rfl (lv_at hl 2 rfl) ?_
  refine lv_ishl hx hb dX0_activate_9 ?_
  refine lv_ior hx hb dX0_activate_10 ?_
  refine w_cv (y := (nI (am w i + 1 * 2 ^ l_ - ac w (4 * i + l_) * 2 ^ l_))) (by rw [hac]; exact flag1 _ (am_lt hR.wf hi) l_ (by omega) ((am_tb hR.wf hi (by omega)).trans hac)) ?_
  refine n_iast hx hb hC.1 hP hD hS 2 0 rfl rfl (by omega) (by decide) dX0_activate_11 (fun H locs hP hD hS => ?_)
  obtain ⟨S_1, hS_1⟩ : ∃ z : Nat → Nat → Int32, z = va_up S 11 (upd (S 11) (i) (nI (am w i + 1 * 2 ^ l_ - ac w (4 * i + l_) * 2 ^ l_))) := ⟨_, rfl⟩
  replace hP : va_P D vwCl (stW cI h a S_1) H := by rw [hS_1]; exact hP
  replace hD : va_D A (stW cI h a S_1) := by rw [hS_1]; exact hD
  exact hret (S_1) _ ls _ _ (by subst hS_1; exact RC_flag hi hl_ (by omega) hR) hP hD hS dX0_activate_12

set_option maxHeartbeats 4000000 in
set_option maxRecDepth 100000 in
theorem c_X0_listLinks (l : Launch) (D : va_G) (cI cO : ClassId) (sz : Nat) (h : Nat) (a : Nat → Nat) (S : Nat → Nat → Int32) (w : Nat → Int32) (c0 : Nat) (hR : RC c0 S w)  (lb : Nat) (B : Nat → Int32) : Met l yX0_listLinks (Cond.code yX0_listLinks cX0_listLinks 3 none :: WL) ({ frames := 4, cells := 0, slots := 0, locals := 90 } : Room) (va_Pc [.ref (h), .ref (lb)] (PW D cI cO (stW cI h a S ++ ([(lb, .inl (cI, 96, .inl B))])) sz)) (va_Qv (fun (u : Nat → Int32) => ∀ j, j < 96 → u j = lk w j) (QB D (stW cI h a S ++ ([(lb, .inl (cI, 96, .inl B))])) sz (fun (u : Nat → Int32) => stW cI h a S ++ ([(lb, .inl (cI, 96, .inl u))]))) (va_A (stW cI h a S ++ ([(lb, .inl (cI, 96, .inl B))])) sz)) 0 0 (va_A (stW cI h a S ++ ([(lb, .inl (cI, 96, .inl B))])) sz) := by
  refine wr_void (by decide) (Nat.le_of_ble_eq_true rfl) ?_
  intro p e s m args below meth c Q ls A F hP hC hD hA hret hl
  have hx := F.1
  have hb := F.2.1
  have hml := F.2.2.1
  have hown := F.2.2.2.1
  have hts := F.2.2.2.2
  replace hl : lv_has ls 3 [(0, .ref (h)), (1, .ref (lb))] := hl
  have hS : va_S A s.heap s.heap [] := va_S.rf
  have hn4 := hR.wf.n.2
  refine lv_iconst (v := (nI (0))) hx hb dX0_listLinks_0 (by decide) ?_
  refine lv_istore_n (lv' := [(2, .int (nI (0))), (0, .ref (h)), (1, .ref (lb))]) hx hb dX0_listLinks_1 rfl hl (by decide) rfl (fun ls hl => ?_)
  have lp_2 : ∀ (fu : Nat) (k : Nat) (Bk : Nat → Int32) (H : Heap) (locs : List Loc) (ls : Array Slot), 96 - k < fu → (k ≤ 96) → (∀ j, j < k → Bk j = lk w j) → va_P D vwCl (stW cI h a S ++ ([(lb, .inl (cI, 96, .inl Bk))])) H → va_D A (stW cI h a S ++ ([(lb, .inl (cI, 96, .inl Bk))])) → va_S A s.heap H locs → lv_has ls 3 [(2, .int (nI (k))), (0, .ref (h)), (1, .ref (lb))] → W p l e ({ frames := 4, cells := 0, slots := 0, locals := 90 } : Room) s m args below meth c H locs 0 0 Q (F0 m 2 ls []) := by
    intro fu
    induction fu with
    | zero => intro k Bk H locs ls hmu; exact absurd hmu (Nat.not_lt_zero _)
    | succ fu ih =>
      intro k Bk H locs ls hmu hk hB hP hD hS hl
      refine lv_iload_n hx hb dX0_listLinks_2 rfl (lv_at hl 0 rfl) ?_
      refine lv_bipush (v := (nI (96))) hx hb dX0_listLinks_3 (by decide) ?_
      refine n_icmp_ge (tgt := 22) hx hb dX0_listLinks_5 (by decide) (by omega) (by omega) (fun c_5 => ?_) (fun c_5 => ?_)
      · exact hret (Bk) _ ls _ _ (fun j hj => hB j (by omega)) hP hD hS dX0_listLinks_22
      · refine lv_aload_n hx hb dX0_listLinks_8 rfl (lv_at hl 2 rfl) ?_
        refine lv_iload_n hx hb dX0_listLinks_9 rfl (lv_at hl 0 rfl) ?_
        refine lv_aload_n hx hb dX0_listLinks_10 rfl (lv_at hl 1 rfl) ?_
        refine lv_iload_n hx hb dX0_listLinks_11 rfl (lv_at hl 0 rfl) ?_
        refine goR (kV (As := [.int (nI (k))]) (rest := [.int (nI (k)), .ref (lb)]) F (c_X0_linkOfStream l D cI cO h a S w c0 hR (k) (by omega)) ywX0_linkOfStream qw208 qw210 qs11 ⟨rfl, rfl⟩ ⟨Nat.le_of_ble_eq_true rfl, Nat.le_of_ble_eq_true rfl⟩ (preV (preR (va_pl0 hP) hC) hC hP (ci := 0) (q0 := 0) rfl rfl rfl) rfl hl.1 rfl (Nat.le_of_ble_eq_true rfl) dX0_listLinks_12 ⟨Nat.zero_le _, Nat.zero_le _⟩) (fun r_12 h_12 => ?_)
        subst h_12
        refine n_iast hx hb hC.1 hP hD hS 10 0 rfl rfl (by omega) (by decide) dX0_listLinks_15 (fun H locs hP hD hS => ?_)
        obtain ⟨f_1, hf_1⟩ : ∃ z : Nat → Int32, z = upd Bk (k) (lk w k) := ⟨_, rfl⟩
        replace hP : va_P D vwCl (stW cI h a S ++ ([(lb, .inl (cI, 96, .inl f_1))])) H := by rw [hf_1]; exact hP
        replace hD : va_D A (stW cI h a S ++ ([(lb, .inl (cI, 96, .inl f_1))])) := by rw [hf_1]; exact hD
        refine n_iinc (a := k) (b := 1) (lv' := [(2, .int (nI (k + 1))), (0, .ref (h)), (1, .ref (lb))]) hx hb dX0_listLinks_16 hl (k := 0) rfl rfl (by decide) rfl (fun ls hl => ?_)
        refine lv_goto (tgt := 2) hx hb dX0_listLinks_19 (by decide) ?_
        exact ih (k + 1) (f_1) _ _ ls (by omega) (by omega) (fun j hj => by rw [hf_1]; exact if h9 : j = k then (by rw [h9, upd_eq]) else (by rw [pk_un h9]; exact hB j (by omega))) hP hD hS (lv_sub hl [0, 1, 2] rfl)
  exact lp_2 _ (0) (B) _ _ ls (Nat.lt_succ_self _) (by omega) (fun j hj => absurd hj (by omega)) hP hD hS (lv_sub hl [0, 1, 2] rfl)

set_option maxHeartbeats 4000000 in
set_option maxRecDepth 100000 in
theorem c_X0_divertMoved (l : Launch) (D : va_G) (cI cO : ClassId) (sz : Nat) (h : Nat) (a : Nat → Nat) (S : Nat → Nat → Int32) (w : Nat → Int32) (c0 : Nat) (hR : RC c0 S w)  (lb : Nat) (B : Nat → Int32) (hc : c0 < 1000) (hacc : ∀ j, j < 96 → ¬ B j = -1 → ¬ lk w j = -1) : Met l yX0_divertMoved (Cond.code yX0_divertMoved cX0_divertMoved 4 (some .int) :: WL) ({ frames := 4, cells := 0, slots := 0, locals := 90 } : Room) (va_Pc [.ref (h), .ref (lb)] (PW D cI cO (stW cI h a S ++ ([(lb, .inl (cI, 96, .inl B))])) sz)) (va_Qi (fun (r : Int32) (u : Nat → Nat → Int32) => r = nI (dvN w B 96).2 ∧ RC c0 u (dvN w B 96).1) (QB D (stW cI h a S ++ ([(lb, .inl (cI, 96, .inl B))])) sz (fun (u : Nat → Nat → Int32) => stW cI h a u ++ ([(lb, .inl (cI, 96, .inl B))]))) (va_A (stW cI h a S ++ ([(lb, .inl (cI, 96, .inl B))])) sz)) 0 0 (va_A (stW cI h a S ++ ([(lb, .inl (cI, 96, .inl B))])) sz) := by
  refine wr_int (by decide) (Nat.le_of_ble_eq_true rfl) ?_
  intro p e s m args below meth c Q ls A F hP hC hD hA hret hl
  have hx := F.1
  have hb := F.2.1
  have hml := F.2.2.1
  have hown := F.2.2.2.1
  have hts := F.2.2.2.2
  replace hl : lv_has ls 4 [(0, .ref (h)), (1, .ref (lb))] := hl
  have hS : va_S A s.heap s.heap [] := va_S.rf
  have hn4 := hR.wf.n.2
  have hd9 := hR.wf.d.2
  have ht := hR.wf.t.2
  refine lv_aload_n hx hb dX0_divertMoved_0 rfl (lv_at hl 0 rfl) ?_
  refine gt0 hx hb hts hown hC.1 hP 0 rfl 1 (by decide) qw28 rfl dX0_divertMoved_1 ?_
  refine w_cv (y := (nI (hd w))) hR.d ?_
  refine n_if_ne (tgt := 9) hx hb dX0_divertMoved_4 (by decide) (by omega) (fun c_4 => ?_) (fun c_4 => ?_)
  · refine lv_iconst (v := (nI (0))) hx hb dX0_divertMoved_9 (by decide) ?_
    refine lv_istore_n (lv' := [(2, .int (nI (0))), (0, .ref (h)), (1, .ref (lb))]) hx hb dX0_divertMoved_10 rfl hl (by decide) rfl (fun ls hl => ?_)
    refine lv_iconst (v := (nI (0))) hx hb dX0_divertMoved_11 (by decide) ?_
    refine lv_istore_n (lv' := [(3, .int (nI (0))), (2, .int (nI (0))), (0, .ref (h)), (1, .ref (lb))]) hx hb dX0_divertMoved_12 rfl hl (by decide) rfl (fun ls hl => ?_)
    have lp_13 : ∀ (fu : Nat) (k : Nat) (cn : Nat) (T : Nat → Nat → Int32) (H : Heap) (locs : List Loc) (ls : Array Slot), 96 - k < fu → (k ≤ 96) → (cn = (dvN w B k).2) → (RC c0 T (dvN w B k).1) → va_P D vwCl (stW cI h a T ++ ([(lb, .inl (cI, 96, .inl B))])) H → va_D A (stW cI h a T ++ ([(lb, .inl (cI, 96, .inl B))])) → va_S A s.heap H locs → lv_has ls 4 [(3, .int (nI (k))), (2, .int (nI (cn))), (0, .ref (h)), (1, .ref (lb))] → W p l e ({ frames := 4, cells := 0, slots := 0, locals := 90 } : Room) s m args below meth c H locs 0 0 Q (F0 m 13 ls []) := by
      intro fu
      induction fu with
      | zero => intro k cn T H locs ls hmu; exact absurd hmu (Nat.not_lt_zero _)
      | succ fu ih =>
        intro k cn T H locs ls hmu hk hcn hRT hP hD hS hl
        have htm : tm (dvN w B k).1 = tm w := by unfold tm; rw [dvN_ne k (by omega)]
        have hhd : hd (dvN w B k).1 = hd w := by unfold hd; rw [dvN_ne k (by omega)]
        refine lv_iload_n hx hb dX0_divertMoved_13 rfl (lv_at hl 0 rfl) ?_
        refine lv_bipush (v := (nI (96))) hx hb dX0_divertMoved_14 (by decide) ?_
        refine n_icmp_ge (tgt := 61) hx hb dX0_divertMoved_16 (by decide) (by omega) (by omega) (fun c_16 => ?_) (fun c_16 => ?_)
        · refine lv_iload_n hx hb dX0_divertMoved_61 rfl (lv_at hl 1 rfl) ?_
          exact hret _ (T) _ ls _ _ (⟨by rw [hcn, show k = 96 by omega], by have e9 : k = 96 := (by omega); rw [← e9]; exact hRT⟩) hP hD hS dX0_divertMoved_62
        · refine lv_aload_n hx hb dX0_divertMoved_19 rfl (lv_at hl 3 rfl) ?_
          refine lv_iload_n hx hb dX0_divertMoved_20 rfl (lv_at hl 0 rfl) ?_
          refine n_iald hx hb hC.1 hP 10 0 rfl rfl (by omega) (by decide) dX0_divertMoved_21 ?_
          refine lv_iconst (v := (-1)) hx hb dX0_divertMoved_22 (by decide) ?_
          refine lv_icmp_eq (tgt := 55) hx hb dX0_divertMoved_23 (by decide)  (fun c_23 => ?_) (fun c_23 => ?_)
          · refine n_iinc (a := k) (b := 1) (lv' := [(3, .int (nI (k + 1))), (2, .int (nI (cn))), (0, .ref (h)), (1, .ref (lb))]) hx hb dX0_divertMoved_55 hl (k := 0) rfl rfl (by decide) rfl (fun ls hl => ?_)
            refine lv_goto (tgt := 13) hx hb dX0_divertMoved_58 (by decide) ?_
            exact ih (k + 1) (cn) (T) _ _ ls (by omega) (by omega) (by simp only [dvN]; rw [if_neg (fun e9 => e9.2.1 c_23)]; exact hcn) (by simp only [dvN]; rw [if_neg (fun e9 => e9.2.1 c_23)]; exact hRT) hP hD hS (lv_sub hl [0, 1, 2, 3] rfl)
          · refine lv_aload_n hx hb dX0_divertMoved_26 rfl (lv_at hl 3 rfl) ?_
            refine lv_iload_n hx hb dX0_divertMoved_27 rfl (lv_at hl 0 rfl) ?_
            refine n_iald hx hb hC.1 hP 10 0 rfl rfl (by omega) (by decide) dX0_divertMoved_28 ?_
            refine lv_aload_n hx hb dX0_divertMoved_29 rfl (lv_at hl 2 rfl) ?_
            refine lv_iload_n hx hb dX0_divertMoved_30 rfl (lv_at hl 0 rfl) ?_
            refine goR (kV (As := [.int (nI (k))]) (rest := [.int (B (k))]) F (c_X0_linkOfStream l D cI cO h a T (dvN w B k).1 c0 hRT (k) (by omega)) ywX0_linkOfStream qw208 qw210 qs11 ⟨rfl, rfl⟩ ⟨Nat.le_of_ble_eq_true rfl, Nat.le_of_ble_eq_true rfl⟩ (preV (preR (va_pl0 hP) hC) hC hP (ci := 0) (q0 := 0) rfl rfl rfl) rfl hl.1 rfl (Nat.le_of_ble_eq_true rfl) dX0_divertMoved_31 ⟨Nat.zero_le _, Nat.zero_le _⟩) (fun r_31 h_31 => ?_)
            subst h_31
            refine w_cv (y := (lk w k)) (lk_dvN hR.wf hk (by omega)) ?_
            refine lv_icmp_eq (tgt := 55) hx hb dX0_divertMoved_34 (by decide)  (fun c_34 => ?_) (fun c_34 => ?_)
            · refine n_iinc (a := k) (b := 1) (lv' := [(3, .int (nI (k + 1))), (2, .int (nI (cn))), (0, .ref (h)), (1, .ref (lb))]) hx hb dX0_divertMoved_55 hl (k := 0) rfl rfl (by decide) rfl (fun ls hl => ?_)
              refine lv_goto (tgt := 13) hx hb dX0_divertMoved_58 (by decide) ?_
              exact ih (k + 1) (cn) (T) _ _ ls (by omega) (by omega) (by simp only [dvN]; rw [if_neg (fun e9 => e9.2.2.2 c_34.symm)]; exact hcn) (by simp only [dvN]; rw [if_neg (fun e9 => e9.2.2.2 c_34.symm)]; exact hRT) hP hD hS (lv_sub hl [0, 1, 2, 3] rfl)
            · refine lv_aload_n hx hb dX0_divertMoved_37 rfl (lv_at hl 2 rfl) ?_
              refine gt0 hx hb hts hown hC.1 hP 0 rfl 16 (by decide) qw55 rfl dX0_divertMoved_38 ?_
              refine lv_iload_n hx hb dX0_divertMoved_41 rfl (lv_at hl 0 rfl) ?_
              refine lv_aload_n hx hb dX0_divertMoved_42 rfl (lv_at hl 2 rfl) ?_
              refine gt0 hx hb hts hown hC.1 hP 0 rfl 0 (by decide) qw26 rfl dX0_divertMoved_43 ?_
              refine w_cv (y := (nI (tm w))) (hRT.t.trans (congrArg nI htm)) ?_
              refine lv_aload_n hx hb dX0_divertMoved_46 rfl (lv_at hl 2 rfl) ?_
              refine gt0 hx hb hts hown hC.1 hP 0 rfl 1 (by decide) qw28 rfl dX0_divertMoved_47 ?_
              refine w_cv (y := (nI (hd w))) (hRT.d.trans (congrArg nI hhd)) ?_
              refine n_iadd hx hb dX0_divertMoved_50  ?_
              refine n_iast hx hb hC.1 hP hD hS 7 0 rfl rfl (by omega) (by decide) dX0_divertMoved_51 (fun H locs hP hD hS => ?_)
              obtain ⟨S_1, hS_1⟩ : ∃ z : Nat → Nat → Int32, z = va_up T 16 (upd (T 16) (k) (nI ((tm w) + (hd w)))) := ⟨_, rfl⟩
              replace hP : va_P D vwCl (stW cI h a S_1 ++ ([(lb, .inl (cI, 96, .inl B))])) H := by rw [hS_1]; exact hP
              replace hD : va_D A (stW cI h a S_1 ++ ([(lb, .inl (cI, 96, .inl B))])) := by rw [hS_1]; exact hD
              refine n_iinc (a := cn) (b := 1) (lv' := [(2, .int (nI (cn + 1))), (3, .int (nI (k))), (0, .ref (h)), (1, .ref (lb))]) hx hb dX0_divertMoved_52 hl (k := 1) rfl rfl (by decide) rfl (fun ls hl => ?_)
              refine n_iinc (a := k) (b := 1) (lv' := [(3, .int (nI (k + 1))), (2, .int (nI (cn + 1))), (0, .ref (h)), (1, .ref (lb))]) hx hb dX0_divertMoved_55 hl (k := 1) rfl rfl (by decide) rfl (fun ls hl => ?_)
              refine lv_goto (tgt := 13) hx hb dX0_divertMoved_58 (by decide) ?_
              exact ih (k + 1) (cn + 1) (S_1) _ _ ls (by omega) (by omega) (by simp only [dvN]; rw [if_pos ⟨c_4, c_23, hacc k (by omega) c_23, fun e9 => c_34 e9.symm⟩]; show _ = _ + 1; omega) (by simp only [dvN]; rw [if_pos ⟨c_4, c_23, hacc k (by omega) c_23, fun e9 => c_34 e9.symm⟩, hS_1]; have h9 := RC_until (k0 := k) (by omega) (by rw [hhd]; exact c_4) hc hRT; rw [htm, hhd] at h9; exact h9) hP hD hS (lv_sub hl [0, 1, 2, 3] rfl)
    exact lp_13 _ (0) (0) (S) _ _ ls (Nat.lt_succ_self _) (by omega) (rfl) (hR) hP hD hS (lv_sub hl [0, 1, 2, 3] rfl)
  · refine lv_iconst (v := (nI (0))) hx hb dX0_divertMoved_7 (by decide) ?_
    exact hret _ (S) _ ls _ _ (⟨by rw [dvN_0 c_4], by rw [dvN_0 c_4]; exact hR⟩) hP hD hS dX0_divertMoved_8
end
section
set_option maxHeartbeats 4000000 in
set_option maxRecDepth 100000 in
theorem c_X0_changeOver (l : Launch) (D : va_G) (cI cO : ClassId) (sz : Nat) (h : Nat) (a : Nat → Nat) (S : Nat → Nat → Int32) (w : Nat → Int32) (c0 : Nat) (hR : RC c0 S w)  (i l_ : Nat) (hc : c0 < 1000) (hi : i < nn w) (hl_ : l_ < mn w i) (hac : ac w (4 * i + l_) = 1) : Met l yX0_changeOver (Cond.code yX0_changeOver cX0_changeOver 6 (some .int) :: WL) ({ frames := 5, cells := 0, slots := 0, locals := 113 } : Room) (va_Pc [.ref (h), .int (nI (i)), .int (nI (l_))] (PW D cI cO (stW cI h a S) sz)) (va_Qi (fun (r : Int32) (u : Nat → Nat → Int32) => r = nI (le w (i * 4 + l_)) ∧ RC c0 u (failR w (i * 4 + l_))) (QB D (stW cI h a S) sz (fun (u : Nat → Nat → Int32) => stW cI h a u)) (va_A (stW cI h a S) sz)) 0 0 (va_A (stW cI h a S) sz) := by
  refine wr_int (by decide) (Nat.le_of_ble_eq_true rfl) ?_
  intro p e s m args below meth c Q ls A F hP hC hD hA hret hl
  have hx := F.1
  have hb := F.2.1
  have hml := F.2.2.1
  have hown := F.2.2.2.1
  have hts := F.2.2.2.2
  replace hl : lv_has ls 6 [(0, .ref (h)), (1, .int (nI (i))), (2, .int (nI (l_)))] := hl
  have hS : va_S A s.heap s.heap [] := va_S.rf
  have hn4 := hR.wf.n.2
  have hi4 : i < 4 := by omega
  have hm4 := (hR.wf.m i hi4).2
  have hv : (i * 4 + l_) < 16 := by omega
  have hl10 := (hR.wf.l (i * 4 + l_) hv).2
  have hsn := hR.wf.e.2
  refine lv_aload_n hx hb dX0_changeOver_0 rfl (lv_at hl 0 rfl) ?_
  refine gt0 hx hb hts hown hC.1 hP 0 rfl 11 (by decide) qw46 rfl dX0_changeOver_1 ?_
  refine lv_iload_n hx hb dX0_changeOver_4 rfl (lv_at hl 1 rfl) ?_
  refine lv_dup2_11 hx hb dX0_changeOver_5 rfl rfl ?_
  refine n_iald hx hb hC.1 hP 2 0 rfl rfl (by omega) (by decide) dX0_changeOver_6 ?_
  refine w_cv (y := (nI (am w i))) (hR.a i hi4) ?_
  refine lv_iconst (v := (nI (1))) hx hb dX0_changeOver_7 (by decide) ?_
  refine lv_iload_n hx hb dX0_changeOver_8 rfl (lv_at hl 2 rfl) ?_
  refine lv_ishl hx hb dX0_changeOver_9 ?_
  refine lv_iconst (v := (-1)) hx hb dX0_changeOver_10 (by decide) ?_
  refine lv_ixor hx hb dX0_changeOver_11 ?_
  refine lv_iand hx hb dX0_changeOver_12 ?_
  refine w_cv (y := (nI (am w i + 0 * 2 ^ l_ - 1 * 2 ^ l_))) (flag0 _ (am_lt hR.wf hi4) l_ (by omega) ((am_tb hR.wf hi4 (by omega)).trans hac)) ?_
  refine n_iast hx hb hC.1 hP hD hS 2 0 rfl rfl (by omega) (by decide) dX0_changeOver_13 (fun H locs hP hD hS => ?_)
  obtain ⟨S_1, hS_1⟩ : ∃ z : Nat → Nat → Int32, z = va_up S 11 (upd (S 11) (i) (nI (am w i + 0 * 2 ^ l_ - 1 * 2 ^ l_))) := ⟨_, rfl⟩
  replace hP : va_P D vwCl (stW cI h a S_1) H := by rw [hS_1]; exact hP
  replace hD : va_D A (stW cI h a S_1) := by rw [hS_1]; exact hD
  refine lv_iload_n hx hb dX0_changeOver_14 rfl (lv_at hl 1 rfl) ?_
  refine lv_iload_n hx hb dX0_changeOver_15 rfl (lv_at hl 2 rfl) ?_
  refine goR (kSN (As := [.int (nI (i)), .int (nI (l_))]) (rest := []) F (c_X2_linkPlace l D cI cO (i) (l_)) ywX2_linkPlace (hC.2.2 _ (List.mem_of_getElem? (i := 9) rfl)) qw196  ⟨rfl, rfl⟩ ⟨Nat.le_of_ble_eq_true rfl, Nat.le_of_ble_eq_true rfl⟩ (preR (fun k q h => by simp at h) hC) rfl hl.1 rfl (Nat.le_of_ble_eq_true rfl) dX0_changeOver_16 ⟨Nat.zero_le _, Nat.zero_le _⟩) (fun r_16 h_16 => ?_)
  subst h_16
  refine lv_istore_n (lv' := [(3, .int (nI (i * 4 + l_))), (0, .ref (h)), (1, .int (nI (i))), (2, .int (nI (l_)))]) hx hb dX0_changeOver_19 rfl hl (by decide) rfl (fun ls hl => ?_)
  refine lv_aload_n hx hb dX0_changeOver_20 rfl (lv_at hl 1 rfl) ?_
  refine gt0 hx hb hts hown hC.1 hP 0 rfl 12 (by decide) qw47 rfl dX0_changeOver_21 ?_
  refine lv_iload_n hx hb dX0_changeOver_24 rfl (lv_at hl 0 rfl) ?_
  refine n_iald hx hb hC.1 hP 3 0 rfl rfl (by omega) (by decide) dX0_changeOver_25 ?_
  refine w_cv (y := (nI (le w (i * 4 + l_)))) (by rw [hS_1, sup_ne (by decide)]; exact hR.l _ hv) ?_
  refine lv_istore (lv' := [(4, .int (nI (le w (i * 4 + l_)))), (3, .int (nI (i * 4 + l_))), (0, .ref (h)), (1, .int (nI (i))), (2, .int (nI (l_)))]) hx hb dX0_changeOver_26 hl (by decide) rfl (fun ls hl => ?_)
  refine lv_aload_n hx hb dX0_changeOver_28 rfl (lv_at hl 2 rfl) ?_
  refine gt0 hx hb hts hown hC.1 hP 0 rfl 12 (by decide) qw47 rfl dX0_changeOver_29 ?_
  refine lv_iload_n hx hb dX0_changeOver_32 rfl (lv_at hl 1 rfl) ?_
  refine lv_iconst (v := (nI (0))) hx hb dX0_changeOver_33 (by decide) ?_
  refine n_iast hx hb hC.1 hP hD hS 3 0 rfl rfl (by omega) (by decide) dX0_changeOver_34 (fun H locs hP hD hS => ?_)
  obtain ⟨S_2, hS_2⟩ : ∃ z : Nat → Nat → Int32, z = va_up S_1 12 (upd (S_1 12) (i * 4 + l_) (nI (0))) := ⟨_, rfl⟩
  replace hP : va_P D vwCl (stW cI h a S_2) H := by rw [hS_2]; exact hP
  replace hD : va_D A (stW cI h a S_2) := by rw [hS_2]; exact hD
  have hR2 : RC c0 S_2 (flR w (i * 4 + l_)) := by
    have h9 := RC_flag (v0 := 0) hi4 hl_ (by omega) hR
    rw [hac] at h9
    have h8 := RC_len (p0 := (i * 4 + l_)) (q0 := 0) (by omega) (Nat.zero_le _) h9
    rw [show 4 * i + l_ = i * 4 + l_ by omega] at h8
    rw [hS_2, hS_1]
    exact h8
  have hS13 : ∀ j, S_2 13 j = S 13 j := fun j => by rw [hS_2, sup_ne (by decide), hS_1, sup_ne (by decide)]
  have hfl : ac (flR w (i * 4 + l_)) (i * 4 + l_) = 0 := by unfold ac flR; rw [pk_un (by omega), upd_eq]; rfl
  refine lv_iconst (v := (nI (0))) hx hb dX0_changeOver_35 (by decide) ?_
  refine lv_istore (lv' := [(5, .int (nI (0))), (4, .int (nI (le w (i * 4 + l_)))), (3, .int (nI (i * 4 + l_))), (0, .ref (h)), (1, .int (nI (i))), (2, .int (nI (l_)))]) hx hb dX0_changeOver_36 hl (by decide) rfl (fun ls hl => ?_)
  have lp_38 : ∀ (fu : Nat) (n_ : Nat) (T : Nat → Nat → Int32) (H : Heap) (locs : List Loc) (ls : Array Slot), le w (i * 4 + l_) - n_ < fu → (n_ ≤ le w (i * 4 + l_)) → (RC c0 T (dspN (flR w (i * 4 + l_)) (msg w (i * 4 + l_)) n_)) → (∀ j, j < 10 → T 13 ((i * 4 + l_) * 10 + j) = S 13 ((i * 4 + l_) * 10 + j)) → (∀ j, fx j → (dspN (flR w (i * 4 + l_)) (msg w (i * 4 + l_)) n_) j = flR w (i * 4 + l_) j) → va_P D vwCl (stW cI h a T) H → va_D A (stW cI h a T) → va_S A s.heap H locs → lv_has ls 6 [(5, .int (nI (n_))), (4, .int (nI (le w (i * 4 + l_)))), (3, .int (nI (i * 4 + l_))), (0, .ref (h)), (1, .int (nI (i))), (2, .int (nI (l_)))] → W p l e ({ frames := 5, cells := 0, slots := 0, locals := 113 } : Room) s m args below meth c H locs 0 0 Q (F0 m 38 ls []) := by
    intro fu
    induction fu with
    | zero => intro n_ T H locs ls hmu; exact absurd hmu (Nat.not_lt_zero _)
    | succ fu ih =>
      intro n_ T H locs ls hmu hn_ hRT hT13 hfx hP hD hS hl
      refine lv_iload hx hb dX0_changeOver_38 (lv_at hl 0 rfl) ?_
      refine lv_iload hx hb dX0_changeOver_40 (lv_at hl 1 rfl) ?_
      refine n_icmp_ge (tgt := 67) hx hb dX0_changeOver_42 (by decide) (by omega) (by omega) (fun c_42 => ?_) (fun c_42 => ?_)
      · refine lv_iload hx hb dX0_changeOver_67 (lv_at hl 1 rfl) ?_
        exact hret _ (T) _ ls _ _ (⟨rfl, by unfold failR; have e9 : n_ = le w (i * 4 + l_) := (by omega); rw [e9] at hRT; exact hRT⟩) hP hD hS dX0_changeOver_69
      · obtain ⟨b_, k_, hb0, hk_, hx_, hms⟩ := msg_ok hR.wf hc hv (i := n_) (by omega)
        have hb13 : T 13 ((i * 4 + l_) * 10 + n_) = nI (b_ * 96 + k_) := by rw [hT13 n_ (by omega), hR.q (i * 4 + l_) hv n_ (by omega), hx_, trm_ok (by omega) hk_]
        have hb_ : b_ < sn (dspN (flR w (i * 4 + l_)) (msg w (i * 4 + l_)) n_) := by rw [show sn (dspN (flR w (i * 4 + l_)) (msg w (i * 4 + l_)) n_) = sn w from by unfold sn; rw [hfx _ ⟨by omega, by omega, by omega⟩]; exact failR_sn hv]; exact hb0
        refine lv_aload_n hx hb dX0_changeOver_45 rfl (lv_at hl 3 rfl) ?_
        refine lv_aload_n hx hb dX0_changeOver_46 rfl (lv_at hl 3 rfl) ?_
        refine gt0 hx hb hts hown hC.1 hP 0 rfl 13 (by decide) qw49 rfl dX0_changeOver_47 ?_
        refine lv_iload_n hx hb dX0_changeOver_50 rfl (lv_at hl 2 rfl) ?_
        refine lv_bipush (v := (nI (10))) hx hb dX0_changeOver_51 (by decide) ?_
        refine n_imul hx hb dX0_changeOver_53  ?_
        refine lv_iload hx hb dX0_changeOver_54 (lv_at hl 0 rfl) ?_
        refine n_iadd hx hb dX0_changeOver_56  ?_
        refine n_iald hx hb hC.1 hP 4 0 rfl rfl (by omega) (by decide) dX0_changeOver_57 ?_
        refine w_cv (y := (nI (b_ * 96 + k_))) hb13 ?_
        refine goWv (pre := []) (wc := stW cI h a T) (suf := []) (kV (As := [.int (nI (b_ * 96 + k_))]) (rest := []) F (c_X0_dispatch l D cI cO _ h a T (dspN (flR w (i * 4 + l_)) (msg w (i * 4 + l_)) n_) c0 hRT (b_) (k_) hc hb_ hk_) ywX0_dispatch qw198 qw200 qs10 ⟨rfl, rfl⟩ ⟨Nat.le_of_ble_eq_true rfl, Nat.le_of_ble_eq_true rfl⟩ (preV (preW hP hC hD) hC hP (ci := 0) (q0 := 0) rfl rfl rfl) rfl hl.1 rfl (Nat.le_of_ble_eq_true rfl) dX0_changeOver_58 ⟨Nat.zero_le _, Nat.zero_le _⟩) (by simpa only [List.append_assoc, List.nil_append, List.append_nil] using hP) (by simpa only [List.append_assoc, List.nil_append, List.append_nil] using hD) hS hA (fun T_1 H locs h_58 hP hD hS => ?_)
        replace hP : va_P D vwCl (stW cI h a T_1) H := by simpa only [List.append_assoc, List.nil_append, List.append_nil] using hP
        replace hD : va_D A (stW cI h a T_1) := by simpa only [List.append_assoc, List.nil_append, List.append_nil] using hD
        obtain ⟨hR_58, hf_58, hg_58⟩ := h_58
        refine n_iinc (a := n_) (b := 1) (lv' := [(5, .int (nI (n_ + 1))), (4, .int (nI (le w (i * 4 + l_)))), (3, .int (nI (i * 4 + l_))), (0, .ref (h)), (1, .int (nI (i))), (2, .int (nI (l_)))]) hx hb dX0_changeOver_61 hl (k := 0) rfl rfl (by decide) rfl (fun ls hl => ?_)
        refine lv_goto (tgt := 38) hx hb dX0_changeOver_64 (by decide) ?_
        exact ih (n_ + 1) (T_1) _ _ ls (by omega) (by omega) (by show RC c0 _ (dsp (dspN (flR w (i * 4 + l_)) (msg w (i * 4 + l_)) n_) (msg w (i * 4 + l_) n_)); rw [hms]; exact hR_58) (fun j hj => (hg_58 (i * 4 + l_) hv (by unfold ac; rw [hfx _ ⟨by omega, by omega, by omega⟩]; exact hfl) j hj).trans (hT13 j hj)) (fun j hj => by show dsp (dspN (flR w (i * 4 + l_)) (msg w (i * 4 + l_)) n_) (msg w (i * 4 + l_) n_) j = _; rw [hms, dsp_ne hRT.wf (by omega) hj.1 hj.2.1 hj.2.2]; exact hfx j hj) hP hD hS (lv_sub hl [0, 1, 2, 3, 4, 5] rfl)
  exact lp_38 _ (0) (S_2) _ _ ls (Nat.lt_succ_self _) (Nat.zero_le _) (hR2) (fun j _ => hS13 _) (fun _ _ => rfl) hP hD hS (lv_sub hl [0, 1, 2, 3, 4, 5] rfl)

set_option maxHeartbeats 4000000 in
set_option maxRecDepth 100000 in
theorem c_X0_deliverOldest (l : Launch) (D : va_G) (cI cO : ClassId) (sz : Nat) (h : Nat) (a : Nat → Nat) (S : Nat → Nat → Int32) (w : Nat → Int32) (c0 : Nat) (hR : RC c0 S w)  (v_ q_ : Nat) (hc : c0 < 1000) (hv : v_ < 16) (hq : q_ ≤ 10) : Met l yX0_deliverOldest (Cond.code yX0_deliverOldest cX0_deliverOldest 7 (some .int) :: WL) ({ frames := 3, cells := 0, slots := 0, locals := 65 } : Room) (va_Pc [.ref (h), .int (nI (v_)), .int (nI (q_))] (PW D cI cO (stW cI h a S) sz)) (va_Qi (fun (r : Int32) (u : Nat → Nat → Int32) => r = nI (min q_ (le w v_)) ∧ RC c0 u (ackR w v_ (min q_ (le w v_)))) (QB D (stW cI h a S) sz (fun (u : Nat → Nat → Int32) => stW cI h a u)) (va_A (stW cI h a S) sz)) 0 0 (va_A (stW cI h a S) sz) := by
  refine wr_int (by decide) (Nat.le_of_ble_eq_true rfl) ?_
  intro p e s m args below meth c Q ls A F hP hC hD hA hret hl
  have hx := F.1
  have hb := F.2.1
  have hml := F.2.2.1
  have hown := F.2.2.2.1
  have hts := F.2.2.2.2
  replace hl : lv_has ls 7 [(0, .ref (h)), (1, .int (nI (v_))), (2, .int (nI (q_)))] := hl
  have hS : va_S A s.heap s.heap [] := va_S.rf
  have hn4 := hR.wf.n.2
  have hl10 := (hR.wf.l v_ hv).2
  have hsn := hR.wf.e.2
  obtain ⟨n_, hn_⟩ : ∃ z, z = min q_ (le w v_) := ⟨_, rfl⟩
  have hnL : n_ ≤ le w v_ := by omega
  refine lv_aload_n hx hb dX0_deliverOldest_0 rfl (lv_at hl 0 rfl) ?_
  refine gt0 hx hb hts hown hC.1 hP 0 rfl 12 (by decide) qw47 rfl dX0_deliverOldest_1 ?_
  refine lv_iload_n hx hb dX0_deliverOldest_4 rfl (lv_at hl 1 rfl) ?_
  refine n_iald hx hb hC.1 hP 3 0 rfl rfl (by omega) (by decide) dX0_deliverOldest_5 ?_
  refine w_cv (y := (nI (le w v_))) (hR.l v_ hv) ?_
  refine lv_istore_n (lv' := [(3, .int (nI (le w v_))), (0, .ref (h)), (1, .int (nI (v_))), (2, .int (nI (q_)))]) hx hb dX0_deliverOldest_6 rfl hl (by decide) rfl (fun ls hl => ?_)
  refine lv_iload_n hx hb dX0_deliverOldest_7 rfl (lv_at hl 3 rfl) ?_
  refine lv_iload_n hx hb dX0_deliverOldest_8 rfl (lv_at hl 0 rfl) ?_
  refine va_mmin (own := "SignallingPoint$State") (index := 80) hx hb (hml.trans hl.1.symm) hown (hts _ qw160) (hts _ qw161) (hts _ qw6) (hts _ qw162) (Nat.le_of_ble_eq_true rfl) (Nat.le_of_ble_eq_true rfl) (Nat.zero_le _) (Nat.zero_le _) dX0_deliverOldest_9 ?_
  refine w_cv (y := (nI (n_))) (by rw [hn_]; exact mmin_nI (by omega) (by omega)) ?_
  refine lv_istore (lv' := [(4, .int (nI (n_))), (3, .int (nI (le w v_))), (0, .ref (h)), (1, .int (nI (v_))), (2, .int (nI (q_)))]) hx hb dX0_deliverOldest_12 hl (by decide) rfl (fun ls hl => ?_)
  refine lv_iload_n hx hb dX0_deliverOldest_14 rfl (lv_at hl 3 rfl) ?_
  refine lv_bipush (v := (nI (10))) hx hb dX0_deliverOldest_15 (by decide) ?_
  refine n_imul hx hb dX0_deliverOldest_17  ?_
  refine lv_istore (lv' := [(5, .int (nI (v_ * 10))), (4, .int (nI (n_))), (3, .int (nI (le w v_))), (0, .ref (h)), (1, .int (nI (v_))), (2, .int (nI (q_)))]) hx hb dX0_deliverOldest_18 hl (by decide) rfl (fun ls hl => ?_)
  refine lv_iconst (v := (nI (0))) hx hb dX0_deliverOldest_20 (by decide) ?_
  refine lv_istore (lv' := [(6, .int (nI (0))), (5, .int (nI (v_ * 10))), (4, .int (nI (n_))), (3, .int (nI (le w v_))), (0, .ref (h)), (1, .int (nI (v_))), (2, .int (nI (q_)))]) hx hb dX0_deliverOldest_21 hl (by decide) rfl (fun ls hl => ?_)
  have lp_23 : ∀ (fu : Nat) (i_ : Nat) (T : Nat → Nat → Int32) (H : Heap) (locs : List Loc) (ls : Array Slot), n_ - i_ < fu → (i_ ≤ n_) → (RC c0 T (dlvN w (msg w v_) i_)) → (T 12 = S 12) → (T 13 = S 13) → va_P D vwCl (stW cI h a T) H → va_D A (stW cI h a T) → va_S A s.heap H locs → lv_has ls 7 [(6, .int (nI (i_))), (5, .int (nI (v_ * 10))), (4, .int (nI (n_))), (3, .int (nI (le w v_))), (0, .ref (h)), (1, .int (nI (v_))), (2, .int (nI (q_)))] → W p l e ({ frames := 3, cells := 0, slots := 0, locals := 65 } : Room) s m args below meth c H locs 0 0 Q (F0 m 23 ls []) := by
    intro fu
    induction fu with
    | zero => intro i_ T H locs ls hmu; exact absurd hmu (Nat.not_lt_zero _)
    | succ fu ih =>
      intro i_ T H locs ls hmu hi_ hRT hT12 hT13 hP hD hS hl
      refine lv_iload hx hb dX0_deliverOldest_23 (lv_at hl 0 rfl) ?_
      refine lv_iload hx hb dX0_deliverOldest_25 (lv_at hl 2 rfl) ?_
      refine n_icmp_ge (tgt := 50) hx hb dX0_deliverOldest_27 (by decide) (by omega) (by omega) (fun c_27 => ?_) (fun c_27 => ?_)
      · refine lv_iload hx hb dX0_deliverOldest_50 (lv_at hl 2 rfl) ?_
        refine lv_istore (lv' := [(6, .int (nI (n_))), (5, .int (nI (v_ * 10))), (4, .int (nI (n_))), (3, .int (nI (le w v_))), (0, .ref (h)), (1, .int (nI (v_))), (2, .int (nI (q_)))]) hx hb dX0_deliverOldest_52 hl (by decide) rfl (fun ls hl => ?_)
        have lp_54 : ∀ (fu : Nat) (j_ : Nat) (T2 : Nat → Nat → Int32) (H : Heap) (locs : List Loc) (ls : Array Slot), le w v_ - j_ < fu → (n_ ≤ j_) → (j_ ≤ le w v_) → (RC c0 T2 (shR (dlvN w (msg w v_) n_) v_ n_ (j_ - n_))) → va_P D vwCl (stW cI h a T2) H → va_D A (stW cI h a T2) → va_S A s.heap H locs → lv_has ls 7 [(6, .int (nI (j_))), (5, .int (nI (v_ * 10))), (4, .int (nI (n_))), (3, .int (nI (le w v_))), (0, .ref (h)), (1, .int (nI (v_))), (2, .int (nI (q_)))] → W p l e ({ frames := 3, cells := 0, slots := 0, locals := 65 } : Room) s m args below meth c H locs 0 0 Q (F0 m 54 ls []) := by
          intro fu
          induction fu with
          | zero => intro j_ T2 H locs ls hmu; exact absurd hmu (Nat.not_lt_zero _)
          | succ fu ih =>
            intro j_ T2 H locs ls hmu hj1 hj2 hRT2 hP hD hS hl
            have hle2 : le (shR (dlvN w (msg w v_) n_) v_ n_ (j_ - n_)) v_ = le w v_ := by unfold le; rw [shR_ne _ (by omega), dlvN_ne (by omega) _ (msg_lt hR.wf hc hv hnL)]
            refine lv_iload hx hb dX0_deliverOldest_54 (lv_at hl 0 rfl) ?_
            refine lv_iload_n hx hb dX0_deliverOldest_56 rfl (lv_at hl 3 rfl) ?_
            refine n_icmp_ge (tgt := 89) hx hb dX0_deliverOldest_57 (by decide) (by omega) (by omega) (fun c_57 => ?_) (fun c_57 => ?_)
            · refine lv_aload_n hx hb dX0_deliverOldest_89 rfl (lv_at hl 4 rfl) ?_
              refine gt0 hx hb hts hown hC.1 hP 0 rfl 12 (by decide) qw47 rfl dX0_deliverOldest_90 ?_
              refine lv_iload_n hx hb dX0_deliverOldest_93 rfl (lv_at hl 5 rfl) ?_
              refine lv_iload_n hx hb dX0_deliverOldest_94 rfl (lv_at hl 3 rfl) ?_
              refine lv_iload hx hb dX0_deliverOldest_95 (lv_at hl 2 rfl) ?_
              refine n_isub hx hb dX0_deliverOldest_97 (by omega) ?_
              refine n_iast hx hb hC.1 hP hD hS 3 0 rfl rfl (by omega) (by decide) dX0_deliverOldest_98 (fun H locs hP hD hS => ?_)
              obtain ⟨S_1, hS_1⟩ : ∃ z : Nat → Nat → Int32, z = va_up T2 12 (upd (T2 12) (v_) (nI ((le w v_) - n_))) := ⟨_, rfl⟩
              replace hP : va_P D vwCl (stW cI h a S_1) H := by rw [hS_1]; exact hP
              replace hD : va_D A (stW cI h a S_1) := by rw [hS_1]; exact hD
              refine lv_iload hx hb dX0_deliverOldest_99 (lv_at hl 2 rfl) ?_
              exact hret _ (S_1) _ ls _ _ (⟨by rw [hn_], by rw [← hn_]; unfold ackR; have h9 := RC_len (p0 := v_) (q0 := le w v_ - n_) hv (by omega) hRT2; rw [show j_ - n_ = le w v_ - n_ by omega] at h9; rw [hS_1]; exact h9⟩) hP hD hS dX0_deliverOldest_101
            · refine lv_aload_n hx hb dX0_deliverOldest_60 rfl (lv_at hl 4 rfl) ?_
              refine gt0 hx hb hts hown hC.1 hP 0 rfl 13 (by decide) qw49 rfl dX0_deliverOldest_61 ?_
              refine lv_iload hx hb dX0_deliverOldest_64 (lv_at hl 1 rfl) ?_
              refine lv_iload hx hb dX0_deliverOldest_66 (lv_at hl 0 rfl) ?_
              refine n_iadd hx hb dX0_deliverOldest_68  ?_
              refine lv_iload hx hb dX0_deliverOldest_69 (lv_at hl 2 rfl) ?_
              refine n_isub hx hb dX0_deliverOldest_71 (by omega) ?_
              refine lv_aload_n hx hb dX0_deliverOldest_72 rfl (lv_at hl 4 rfl) ?_
              refine gt0 hx hb hts hown hC.1 hP 0 rfl 13 (by decide) qw49 rfl dX0_deliverOldest_73 ?_
              refine lv_iload hx hb dX0_deliverOldest_76 (lv_at hl 1 rfl) ?_
              refine lv_iload hx hb dX0_deliverOldest_78 (lv_at hl 0 rfl) ?_
              refine n_iadd hx hb dX0_deliverOldest_80  ?_
              refine n_iald hx hb hC.1 hP 4 0 rfl rfl (by omega) (by decide) dX0_deliverOldest_81 ?_
              refine n_iast hx hb hC.1 hP hD hS 4 0 rfl rfl (by omega) (by decide) dX0_deliverOldest_82 (fun H locs hP hD hS => ?_)
              obtain ⟨S_2, hS_2⟩ : ∃ z : Nat → Nat → Int32, z = va_up T2 13 (upd (T2 13) (((v_ * 10) + j_) - n_) (T2 13 ((v_ * 10) + j_))) := ⟨_, rfl⟩
              replace hP : va_P D vwCl (stW cI h a S_2) H := by rw [hS_2]; exact hP
              replace hD : va_D A (stW cI h a S_2) := by rw [hS_2]; exact hD
              refine n_iinc (a := j_) (b := 1) (lv' := [(6, .int (nI (j_ + 1))), (5, .int (nI (v_ * 10))), (4, .int (nI (n_))), (3, .int (nI (le w v_))), (0, .ref (h)), (1, .int (nI (v_))), (2, .int (nI (q_)))]) hx hb dX0_deliverOldest_83 hl (k := 0) rfl rfl (by decide) rfl (fun ls hl => ?_)
              refine lv_goto (tgt := 54) hx hb dX0_deliverOldest_86 (by decide) ?_
              exact ih (j_ + 1) (S_2) _ _ ls (by omega) (by omega) (by omega) (by rw [hS_2, show j_ + 1 - n_ = (j_ - n_) + 1 by omega]; show RC c0 _ (upd (shR (dlvN w (msg w v_) n_) v_ n_ (j_ - n_)) (37 + 10 * v_ + (j_ - n_)) ((shR (dlvN w (msg w v_) n_) v_ n_ (j_ - n_)) (37 + 10 * v_ + (n_ + (j_ - n_))))); rw [show n_ + (j_ - n_) = j_ by omega]; exact RC_mv' hv hj1 (by omega) hRT2) hP hD hS (lv_sub hl [0, 1, 2, 3, 4, 5, 6] rfl)
        exact lp_54 _ (n_) (T) _ _ ls (Nat.lt_succ_self _) (Nat.le_refl _) (hnL) (by rw [Nat.sub_self]; rw [show i_ = n_ by omega] at hRT; exact hRT) hP hD hS (lv_sub hl [0, 1, 2, 3, 4, 5, 6] rfl)
      · obtain ⟨b_, k_, hb0, hk_, hx_, hms⟩ := msg_ok hR.wf hc hv (i := i_) (by omega)
        have hb13 : T 13 (v_ * 10 + i_) = nI (b_ * 96 + k_) := by rw [hT13, hR.q v_ hv i_ (by omega), hx_, trm_ok (by omega) hk_]
        have hb_ : b_ < sn (dlvN w (msg w v_) i_) := by rw [show sn (dlvN w (msg w v_) i_) = sn w from by unfold sn; rw [dlvN_ne (by omega) _ (msg_lt hR.wf hc hv (by omega))]]; exact hb0
        refine lv_aload_n hx hb dX0_deliverOldest_30 rfl (lv_at hl 4 rfl) ?_
        refine lv_aload_n hx hb dX0_deliverOldest_31 rfl (lv_at hl 4 rfl) ?_
        refine gt0 hx hb hts hown hC.1 hP 0 rfl 13 (by decide) qw49 rfl dX0_deliverOldest_32 ?_
        refine lv_iload hx hb dX0_deliverOldest_35 (lv_at hl 1 rfl) ?_
        refine lv_iload hx hb dX0_deliverOldest_37 (lv_at hl 0 rfl) ?_
        refine n_iadd hx hb dX0_deliverOldest_39  ?_
        refine n_iald hx hb hC.1 hP 4 0 rfl rfl (by omega) (by decide) dX0_deliverOldest_40 ?_
        refine w_cv (y := (nI (b_ * 96 + k_))) hb13 ?_
        refine goWv (pre := []) (wc := stW cI h a T) (suf := []) (kV (As := [.int (nI (b_ * 96 + k_))]) (rest := []) F (c_X0_deliver l D cI cO _ h a T (dlvN w (msg w v_) i_) c0 hRT (b_) (k_) hc hb_ hk_) ywX0_deliver qw261 qw263 qs19 ⟨rfl, rfl⟩ ⟨Nat.le_of_ble_eq_true rfl, Nat.le_of_ble_eq_true rfl⟩ (preV (preW hP hC hD) hC hP (ci := 0) (q0 := 0) rfl rfl rfl) rfl hl.1 rfl (Nat.le_of_ble_eq_true rfl) dX0_deliverOldest_41 ⟨Nat.zero_le _, Nat.zero_le _⟩) (by simpa only [List.append_assoc, List.nil_append, List.append_nil] using hP) (by simpa only [List.append_assoc, List.nil_append, List.append_nil] using hD) hS hA (fun T_1 H locs h_41 hP hD hS => ?_)
        replace hP : va_P D vwCl (stW cI h a T_1) H := by simpa only [List.append_assoc, List.nil_append, List.append_nil] using hP
        replace hD : va_D A (stW cI h a T_1) := by simpa only [List.append_assoc, List.nil_append, List.append_nil] using hD
        obtain ⟨hR_41, hf_41⟩ := h_41
        refine n_iinc (a := i_) (b := 1) (lv' := [(6, .int (nI (i_ + 1))), (5, .int (nI (v_ * 10))), (4, .int (nI (n_))), (3, .int (nI (le w v_))), (0, .ref (h)), (1, .int (nI (v_))), (2, .int (nI (q_)))]) hx hb dX0_deliverOldest_44 hl (k := 0) rfl rfl (by decide) rfl (fun ls hl => ?_)
        refine lv_goto (tgt := 23) hx hb dX0_deliverOldest_47 (by decide) ?_
        exact ih (i_ + 1) (T_1) _ _ ls (by omega) (by omega) (by show RC c0 _ (dlv (dlvN w (msg w v_) i_) (msg w v_ i_)); rw [hms]; exact hR_41) ((hf_41 12 (by decide) (by decide) (by decide)).trans hT12) ((hf_41 13 (by decide) (by decide) (by decide)).trans hT13) hP hD hS (lv_sub hl [0, 1, 2, 3, 4, 5, 6] rfl)
  exact lp_23 _ (0) (S) _ _ ls (Nat.lt_succ_self _) (Nat.zero_le _) (hR) (rfl) (rfl) hP hD hS (lv_sub hl [0, 1, 2, 3, 4, 5, 6] rfl)

set_option maxHeartbeats 4000000 in
set_option maxRecDepth 100000 in
theorem c_X0_releaseHeld (l : Launch) (D : va_G) (cI cO : ClassId) (sz : Nat) (h : Nat) (a : Nat → Nat) (S : Nat → Nat → Int32) (w : Nat → Int32) (c0 : Nat) (hR : RC c0 S w)  (hc : c0 < 1000) : Met l yX0_releaseHeld (Cond.code yX0_releaseHeld cX0_releaseHeld 5 (some .int) :: WL) ({ frames := 5, cells := 0, slots := 0, locals := 113 } : Room) (va_Pc [.ref (h)] (PW D cI cO (stW cI h a S) sz)) (va_Qi (fun (r : Int32) (u : Nat → Nat → Int32) => r = nI (he w - lfN w (he w)) ∧ RC c0 u (relR w)) (QB D (stW cI h a S) sz (fun (u : Nat → Nat → Int32) => stW cI h a u)) (va_A (stW cI h a S) sz)) 0 0 (va_A (stW cI h a S) sz) := by
  refine wr_int (by decide) (Nat.le_of_ble_eq_true rfl) ?_
  intro p e s m args below meth c Q ls A F hP hC hD hA hret hl
  have hx := F.1
  have hb := F.2.1
  have hml := F.2.2.1
  have hown := F.2.2.2.1
  have hts := F.2.2.2.2
  replace hl : lv_has ls 5 [(0, .ref (h))] := hl
  have hS : va_S A s.heap s.heap [] := va_S.rf
  have hn4 := hR.wf.n.2
  have hh24 := hR.wf.h.2
  have hsn := hR.wf.e.2
  refine lv_aload_n hx hb dX0_releaseHeld_0 rfl (lv_at hl 0 rfl) ?_
  refine gt0 hx hb hts hown hC.1 hP 0 rfl 9 (by decide) qw43 rfl dX0_releaseHeld_1 ?_
  refine w_cv (y := (nI (he w))) hR.h ?_
  refine lv_istore_n (lv' := [(1, .int (nI (he w))), (0, .ref (h))]) hx hb dX0_releaseHeld_4 rfl hl (by decide) rfl (fun ls hl => ?_)
  refine lv_iconst (v := (nI (0))) hx hb dX0_releaseHeld_5 (by decide) ?_
  refine lv_istore_n (lv' := [(2, .int (nI (0))), (1, .int (nI (he w))), (0, .ref (h))]) hx hb dX0_releaseHeld_6 rfl hl (by decide) rfl (fun ls hl => ?_)
  refine lv_iconst (v := (nI (0))) hx hb dX0_releaseHeld_7 (by decide) ?_
  refine lv_istore_n (lv' := [(3, .int (nI (0))), (2, .int (nI (0))), (1, .int (nI (he w))), (0, .ref (h))]) hx hb dX0_releaseHeld_8 rfl hl (by decide) rfl (fun ls hl => ?_)
  have lp_9 : ∀ (fu : Nat) (i_ : Nat) (f_ : Nat) (T : Nat → Nat → Int32) (H : Heap) (locs : List Loc) (ls : Array Slot), he w - i_ < fu → (i_ ≤ he w) → (f_ = lfN w i_) → (RC c0 T (dspB (cmpR w i_) w i_)) → va_P D vwCl (stW cI h a T) H → va_D A (stW cI h a T) → va_S A s.heap H locs → lv_has ls 5 [(3, .int (nI (i_))), (2, .int (nI (f_))), (1, .int (nI (he w))), (0, .ref (h))] → W p l e ({ frames := 5, cells := 0, slots := 0, locals := 113 } : Room) s m args below meth c H locs 0 0 Q (F0 m 9 ls []) := by
    intro fu
    induction fu with
    | zero => intro i_ f_ T H locs ls hmu; exact absurd hmu (Nat.not_lt_zero _)
    | succ fu ih =>
      intro i_ f_ T H locs ls hmu hi_ hf_ hRT hP hD hS hl
      have hfl := lfN_le w i_
      obtain ⟨hwc, hhc, hsc⟩ := WF_cmp hR.wf hc i_ hi_
      obtain ⟨hwd, hfd⟩ := dspB_ok hwc hR.wf hc hsc i_ hi_
      have hsd : sn (dspB (cmpR w i_) w i_) = sn w := by rw [← hsc]; unfold sn; rw [hfd _ ⟨by omega, by omega, by omega⟩]
      have hhd : he (dspB (cmpR w i_) w i_) = he w := by rw [← hhc]; unfold he; rw [hfd _ ⟨by omega, by omega, by omega⟩]
      refine lv_iload_n hx hb dX0_releaseHeld_9 rfl (lv_at hl 0 rfl) ?_
      refine lv_iload_n hx hb dX0_releaseHeld_10 rfl (lv_at hl 2 rfl) ?_
      refine n_icmp_ge (tgt := 60) hx hb dX0_releaseHeld_11 (by decide) (by omega) (by omega) (fun c_11 => ?_) (fun c_11 => ?_)
      · have hie : i_ = he w := by omega
        refine lv_aload_n hx hb dX0_releaseHeld_60 rfl (lv_at hl 3 rfl) ?_
        refine lv_iload_n hx hb dX0_releaseHeld_61 rfl (lv_at hl 1 rfl) ?_
        refine pt0 (ty := .int) hx hb hts hown hC.1 hP hD hS 0 rfl 9 (by decide) qw43 rfl (by decide +kernel) rfl rfl (Nat.le_of_ble_eq_true rfl) dX0_releaseHeld_62 (fun H locs hP hD hS => ?_)
        obtain ⟨S_1, hS_1⟩ : ∃ z : Nat → Nat → Int32, z = va_up T 9 (fun _ => (nI (f_))) := ⟨_, rfl⟩
        replace hP : va_P D vwCl (stW cI h a S_1) H := by rw [hS_1]; exact hP
        replace hD : va_D A (stW cI h a S_1) := by rw [hS_1]; exact hD
        refine lv_iload_n hx hb dX0_releaseHeld_65 rfl (lv_at hl 2 rfl) ?_
        refine lv_iload_n hx hb dX0_releaseHeld_66 rfl (lv_at hl 1 rfl) ?_
        refine n_isub hx hb dX0_releaseHeld_67 (by omega) ?_
        exact hret _ (S_1) _ ls _ _ (⟨by rw [hf_, hie], by unfold relR; rw [hie] at hRT hf_ hwc hsc; rw [dspB_comm hwc hR.wf hc hsc _ (by omega) (by omega) (by omega) _ (Nat.le_refl _), hS_1, hf_]; exact RC_cut (by rw [hie] at hhd hfl; omega) hRT⟩) hP hD hS dX0_releaseHeld_68
      · obtain ⟨b_, k_, hb0, hk_, hx_⟩ := hR.wf.b i_ (by omega)
        have hM_ : nv (w (342 + i_)) = 128 * b_ + k_ := by rw [hx_, nv_nI (by omega)]
        have hbs : bst w i_ = k_ := by unfold bst; rw [hM_]; omega
        have hr1 : (dspB (cmpR w i_) w i_) (342 + i_) = w (342 + i_) := by rw [hfd _ ⟨by omega, by omega, by omega⟩]; exact cmpR_ne i_ (by omega)
        have hb18 : T 18 i_ = nI (b_ * 96 + k_) := by rw [hRT.b i_ (by omega), hr1, hx_, trm_ok (by omega) hk_]
        have hb_ : b_ < sn (dspB (cmpR w i_) w i_) := by rw [hsd]; exact hb0
        have hur : un (dspB (cmpR w i_) w i_) k_ = un w (bst w i_) := by rw [hbs]; unfold un; rw [hfd _ ⟨by omega, by omega, by omega⟩, cmpR_ne i_ (by omega)]
        refine lv_aload_n hx hb dX0_releaseHeld_14 rfl (lv_at hl 3 rfl) ?_
        refine gt0 hx hb hts hown hC.1 hP 0 rfl 18 (by decide) qw57 rfl dX0_releaseHeld_15 ?_
        refine lv_iload_n hx hb dX0_releaseHeld_18 rfl (lv_at hl 0 rfl) ?_
        refine n_iald hx hb hC.1 hP 9 0 rfl rfl (by omega) (by decide) dX0_releaseHeld_19 ?_
        refine w_cv (y := (nI (b_ * 96 + k_))) hb18 ?_
        refine lv_istore (lv' := [(4, .int (nI (b_ * 96 + k_))), (3, .int (nI (i_))), (2, .int (nI (f_))), (1, .int (nI (he w))), (0, .ref (h))]) hx hb dX0_releaseHeld_20 hl (by decide) rfl (fun ls hl => ?_)
        refine lv_aload_n hx hb dX0_releaseHeld_22 rfl (lv_at hl 4 rfl) ?_
        refine lv_iload hx hb dX0_releaseHeld_23 (lv_at hl 0 rfl) ?_
        refine goR (kSN (As := [.int (nI (b_ * 96 + k_))]) (rest := [.ref (h)]) F (c_X2_streamOf l D cI cO (b_ * 96 + k_) (by omega)) ywX2_streamOf (hC.2.2 _ (List.mem_of_getElem? (i := 10) rfl)) qw203  ⟨rfl, rfl⟩ ⟨Nat.le_of_ble_eq_true rfl, Nat.le_of_ble_eq_true rfl⟩ (preR (fun k q h => by simp at h) hC) rfl hl.1 rfl (Nat.le_of_ble_eq_true rfl) dX0_releaseHeld_25 ⟨Nat.zero_le _, Nat.zero_le _⟩) (fun r_25 h_25 => ?_)
        subst h_25
        refine w_cv (y := (nI (k_))) (congrArg nI (by omega)) ?_
        refine goR (kV (As := [.int (nI (k_))]) (rest := []) F (c_X0_holds l D cI cO h a T (dspB (cmpR w i_) w i_) c0 hRT (k_) hc (by omega)) ywX0_holds qw344 qw346 qs23 ⟨rfl, rfl⟩ ⟨Nat.le_of_ble_eq_true rfl, Nat.le_of_ble_eq_true rfl⟩ (preV (preR hP hC) hC hP (ci := 0) (q0 := 0) rfl rfl rfl) rfl hl.1 rfl (Nat.le_of_ble_eq_true rfl) dX0_releaseHeld_28 ⟨Nat.zero_le _, Nat.zero_le _⟩) (fun r_28 h_28 => ?_)
        rcases h_28 with ⟨rfl, h_28⟩ | ⟨rfl, h_28⟩
        · have hun : ¬ un w (bst w i_) = 0 := by rw [← hur]; exact h_28
          refine n_if_eq (tgt := 48) hx hb dX0_releaseHeld_31 (by decide) (by omega) (fun h => absurd h (by decide)) (fun _ => ?_)
          refine lv_aload_n hx hb dX0_releaseHeld_34 rfl (lv_at hl 4 rfl) ?_
          refine gt0 hx hb hts hown hC.1 hP 0 rfl 18 (by decide) qw57 rfl dX0_releaseHeld_35 ?_
          refine lv_iload_n hx hb dX0_releaseHeld_38 rfl (lv_at hl 2 rfl) ?_
          refine lv_iload hx hb dX0_releaseHeld_39 (lv_at hl 0 rfl) ?_
          refine n_iast hx hb hC.1 hP hD hS 9 0 rfl rfl (by omega) (by decide) dX0_releaseHeld_41 (fun H locs hP hD hS => ?_)
          obtain ⟨S_2, hS_2⟩ : ∃ z : Nat → Nat → Int32, z = va_up T 18 (upd (T 18) (f_) (nI (b_ * 96 + k_))) := ⟨_, rfl⟩
          replace hP : va_P D vwCl (stW cI h a S_2) H := by rw [hS_2]; exact hP
          replace hD : va_D A (stW cI h a S_2) := by rw [hS_2]; exact hD
          refine n_iinc (a := f_) (b := 1) (lv' := [(2, .int (nI (f_ + 1))), (4, .int (nI (b_ * 96 + k_))), (3, .int (nI (i_))), (1, .int (nI (he w))), (0, .ref (h))]) hx hb dX0_releaseHeld_42 hl (k := 2) rfl rfl (by decide) rfl (fun ls hl => ?_)
          refine lv_goto (tgt := 54) hx hb dX0_releaseHeld_45 (by decide) ?_
          refine n_iinc (a := i_) (b := 1) (lv' := [(3, .int (nI (i_ + 1))), (2, .int (nI (f_ + 1))), (4, .int (nI (b_ * 96 + k_))), (1, .int (nI (he w))), (0, .ref (h))]) hx hb dX0_releaseHeld_54 hl (k := 2) rfl rfl (by decide) rfl (fun ls hl => ?_)
          refine lv_goto (tgt := 9) hx hb dX0_releaseHeld_57 (by decide) ?_
          exact ih (i_ + 1) (f_ + 1) (S_2) _ _ ls (by omega) (by omega) (by simp only [lfN]; rw [if_neg hun]; omega) (by simp only [cmpR, dspB]; rw [if_neg hun, if_neg hun, dspB_comm hwc hR.wf hc hsc _ (by omega) (by omega) (by omega) i_ hi_, hx_, hS_2, ← hf_]; exact RC_buf (by omega) (by rw [hsd]; exact hb0) hk_ hc hRT) hP hD hS (lv_sub hl [0, 1, 3, 4] rfl)
        · have hun : un w (bst w i_) = 0 := by rw [← hur]; exact h_28
          refine n_if_eq (tgt := 48) hx hb dX0_releaseHeld_31 (by decide) (by omega) (fun _ => ?_) (fun h => absurd h (by decide))
          refine lv_aload_n hx hb dX0_releaseHeld_48 rfl (lv_at hl 4 rfl) ?_
          refine lv_iload hx hb dX0_releaseHeld_49 (lv_at hl 0 rfl) ?_
          refine goWv (pre := []) (wc := stW cI h a T) (suf := []) (kV (As := [.int (nI (b_ * 96 + k_))]) (rest := []) F (c_X0_dispatch l D cI cO _ h a T (dspB (cmpR w i_) w i_) c0 hRT (b_) (k_) hc hb_ hk_) ywX0_dispatch qw198 qw200 qs10 ⟨rfl, rfl⟩ ⟨Nat.le_of_ble_eq_true rfl, Nat.le_of_ble_eq_true rfl⟩ (preV (preW hP hC hD) hC hP (ci := 0) (q0 := 0) rfl rfl rfl) rfl hl.1 rfl (Nat.le_of_ble_eq_true rfl) dX0_releaseHeld_51 ⟨Nat.zero_le _, Nat.zero_le _⟩) (by simpa only [List.append_assoc, List.nil_append, List.append_nil] using hP) (by simpa only [List.append_assoc, List.nil_append, List.append_nil] using hD) hS hA (fun T_1 H locs h_51 hP hD hS => ?_)
          replace hP : va_P D vwCl (stW cI h a T_1) H := by simpa only [List.append_assoc, List.nil_append, List.append_nil] using hP
          replace hD : va_D A (stW cI h a T_1) := by simpa only [List.append_assoc, List.nil_append, List.append_nil] using hD
          obtain ⟨hR_51, hf_51, hg_51⟩ := h_51
          refine n_iinc (a := i_) (b := 1) (lv' := [(3, .int (nI (i_ + 1))), (4, .int (nI (b_ * 96 + k_))), (2, .int (nI (f_))), (1, .int (nI (he w))), (0, .ref (h))]) hx hb dX0_releaseHeld_54 hl (k := 1) rfl rfl (by decide) rfl (fun ls hl => ?_)
          refine lv_goto (tgt := 9) hx hb dX0_releaseHeld_57 (by decide) ?_
          exact ih (i_ + 1) (f_) (T_1) _ _ ls (by omega) (by omega) (by simp only [lfN]; rw [if_pos hun]; omega) (by simp only [cmpR, dspB]; rw [if_pos hun, if_pos hun, hM_]; exact hR_51) hP hD hS (lv_sub hl [0, 2, 3, 4] rfl)
  exact lp_9 _ (0) (0) (S) _ _ ls (Nat.lt_succ_self _) (Nat.zero_le _) (rfl) (hR) hP hD hS (lv_sub hl [0, 1, 2, 3] rfl)
end
section
/-! the hash -/
def mx (h : Int64) (v : Int32) : Int64 := 31 * h + Int32.toInt64 v
def mxN (f : Nat → Int32) (h : Int64) : Nat → Int64
  | 0 => h
  | n + 1 => mx (mxN f h n) (f n)
def mxC (w : Nat → Int32) (h : Int64) : Int64 := mx (mx (mx (mx (mx (mx (mx (mx h (w 462)) (w 463)) (w 464)) (w 465)) (w 466)) (w 467)) (w 468)) (w 469)
def mxQ (w : Nat → Int32) (p : Nat) (h : Int64) : Int64 := mxN (fun j => nI (msg w p j / 128)) (mx h (nI (le w p))) (le w p)
def mxK (w : Nat → Int32) (i : Nat) (h : Int64) : Nat → Int64
  | 0 => h
  | l + 1 => mxQ w (i * 4 + l) (mx (mxK w i h l) (nI (ac w (4 * i + l))))
def mxS (w : Nat → Int32) (h : Int64) : Nat → Int64
  | 0 => h
  | i + 1 => mxK w i (mx (mxS w h i) (nI (mn w i))) (mn w i)
def mxR (w : Nat → Int32) (d : Nat) (h : Int64) : Nat → Int64
  | 0 => h
  | i + 1 => mx (mx (mxR w d h i) (w (197 + 4 * d + i))) (w (221 + 4 * d + i))
def mxT (w : Nat → Int32) (d : Nat) (h : Int64) : Nat → Int64
  | 0 => h
  | s + 1 => mx (mx (mxT w d h s) (lkm w (rts w d) s)) (nI (if un w (d * 16 + s) = 0 then 0 else 1))
def mxD (w : Nat → Int32) (d : Nat) (h : Int64) : Int64 := mxT w d (mxR w d h (nn w)) 16
def mxDs (w : Nat → Int32) (h : Int64) : Nat → Int64
  | 0 => h
  | d + 1 => mxD w d (mxDs w h d)
def mxH (w : Nat → Int32) (h : Int64) : Int64 := mxN (fun j => nI (nv (w (342 + j)) / 128)) (mx h (nI (he w))) (he w)
/-! how many links a destination's streams use -/
def usd (w : Nat → Int32) (d : Nat) : Nat → Nat
  | 0 => 0
  | s + 1 => if lkm w (rts w d) s = -1 then usd w d s else usd w d s ||| 2 ^ nv (lkm w (rts w d) s)
theorem lk_lkm {w : Nat → Int32} {d s : Nat} (hs : s < 16) : lk w (d * 16 + s) = lkm w (rts w d) s := by
  unfold lk
  rw [show (d * 16 + s) / 16 = d by omega, show (d * 16 + s) % 16 = s by omega]
theorem usd_lt {c : Nat} {w : Nat → Int32} (h : WF c w) {d : Nat} (hd : d < 6) : ∀ n, n ≤ 16 → usd w d n < 65536
  | 0, _ => by simp [usd]
  | n + 1, hn => by
    have ih := usd_lt h hd n (by omega)
    simp only [usd]
    by_cases e : lkm w (rts w d) n = -1
    · rw [if_pos e]; exact ih
    · rw [if_neg e]
      have e2 := e
      rw [← lk_lkm (by omega)] at e2
      obtain ⟨p, hp, -, -, hq⟩ := lk_some h (by omega) e2
      rw [lk_lkm (by omega)] at hq
      rw [hq, nv_nI (by omega)]
      exact Nat.or_lt_two_pow (n := 16) ih (Nat.pow_lt_pow_right (by decide) hp)
theorem nI_or (a b : Nat) : nI a ||| nI b = nI (a ||| b) := by
  apply Int32.toBitVec_inj.mp
  simp only [Int32.toBitVec_or, nI, Int32.toBitVec_ofNat]
  exact (BitVec.ofNat_or ..).symm
theorem nI_and (a b : Nat) : nI a &&& nI b = nI (a &&& b) := by
  apply Int32.toBitVec_inj.mp
  simp only [Int32.toBitVec_and, nI, Int32.toBitVec_ofNat]
  exact (BitVec.ofNat_and ..).symm
theorem shl16 : ∀ p, p < 16 → nI 1 <<< (nI p &&& 31) = nI (2 ^ p) := by decide +kernel
theorem or16 {m p : Nat} (hp : p < 16) : nI m ||| (nI 1 <<< (nI p &&& 31)) = nI (m ||| 2 ^ p) := by rw [shl16 p hp, nI_or]
def bnA (x : Nat) : Nat := x - (x / 2 ^ 1 &&& 1431655765)
def bnB (x : Nat) : Nat := (x &&& 858993459) + (x / 2 ^ 2 &&& 858993459)
def bnC (x : Nat) : Nat := (x + x / 2 ^ 4) &&& 252645135
def bnD (x : Nat) : Nat := x + x / 2 ^ 8
def bnE (x : Nat) : Nat := x + x / 2 ^ 16
theorem and_le1 (x m : Nat) : x &&& m ≤ x := Nat.and_le_left
theorem bcA_n {x : Nat} (h : x < 2 ^ 31) : bcA (nI x) = nI (bnA x) := by
  unfold bcA bnA
  rw [pk_ushrN (by omega) (nI 1) 1 (by decide), show (1431655765 : Int32) = nI 1431655765 from by decide, nI_and, pk_sub (Nat.le_trans (and_le1 _ _) (by omega))]
theorem bcB_n {x : Nat} (h : x < 2 ^ 31) : bcB (nI x) = nI (bnB x) := by
  unfold bcB bnB
  rw [pk_ushrN (by omega) (nI 2) 2 (by decide), show (858993459 : Int32) = nI 858993459 from by decide, nI_and, nI_and, nI_add]
theorem bcC_n {x : Nat} (h : x < 2 ^ 31) : bcC (nI x) = nI (bnC x) := by
  unfold bcC bnC
  rw [pk_ushrN (by omega) (nI 4) 4 (by decide), show (252645135 : Int32) = nI 252645135 from by decide, nI_add, nI_and]
theorem bcD_n {x : Nat} (h : x < 2 ^ 31) : bcD (nI x) = nI (bnD x) := by
  unfold bcD bnD
  rw [pk_ushrN (by omega) (nI 8) 8 (by decide), nI_add]
theorem bcE_n {x : Nat} (h : x < 2 ^ 31) : bcE (nI x) = nI (bnE x) := by
  unfold bcE bnE
  rw [pk_ushrN (by omega) (nI 16) 16 (by decide), nI_add]
theorem and_split {a m b n : Nat} (ha : a < 256) (hm : m < 256) : (2 ^ 8 * b + a) &&& (2 ^ 8 * n + m) = 2 ^ 8 * (b &&& n) + (a &&& m) := by
  have hl : a &&& m < 2 ^ 8 := Nat.lt_of_le_of_lt (and_le1 a m) (by omega)
  apply Nat.eq_of_testBit_eq
  intro i
  rw [Nat.testBit_and, Nat.testBit_two_pow_mul_add _ (by omega), Nat.testBit_two_pow_mul_add _ (by omega), Nat.testBit_two_pow_mul_add _ hl]
  by_cases h : i < 8
  · rw [if_pos h, if_pos h, if_pos h, Nat.testBit_and]
  · rw [if_neg h, if_neg h, if_neg h, Nat.testBit_and]
def b8A (t : Nat) : Nat := t - (t / 2 &&& 85)
def b8B (t : Nat) : Nat := (t &&& 51) + (t / 4 &&& 51)
def b8C (t : Nat) : Nat := (t + t / 16) &&& 15
theorem b8_1 : ∀ t, t < 2 → ∀ a, a < 256 → (128 * t + a / 2) &&& 85 = a / 2 &&& 85 := by decide +kernel
theorem b8_2 : ∀ b, b < 256 → b / 2 &&& 5592405 = b / 2 &&& 85 := by decide +kernel
theorem b8_3 : ∀ t, t < 4 → ∀ a, a < 256 → (64 * t + a / 4) &&& 51 = a / 4 &&& 51 := by decide +kernel
theorem b8_4 : ∀ b, b < 256 → b / 4 &&& 3355443 = b / 4 &&& 51 ∧ b &&& 3355443 = b &&& 51 := by decide +kernel
theorem b8_5 : ∀ a, a < 256 → b8A a < 256 ∧ b8B (b8A a) ≤ 68 ∧ b8B (b8A a) % 16 ≤ 4 ∧ b8C (b8B (b8A a)) = cb a 8 ∧ cb a 8 ≤ 8 := by decide +kernel
theorem b8_6 : ∀ t, t < 5 → ∀ p, p < 69 → (p + p / 16 + 16 * t) &&& 15 = (p + p / 16) &&& 15 := by decide +kernel
theorem b8_7 : ∀ q, q < 69 → (q + q / 16) &&& 986895 = (q + q / 16) &&& 15 := by decide +kernel
theorem bnA_s {a b : Nat} (ha : a < 256) (hb : b < 256) : bnA (2 ^ 8 * b + a) = 2 ^ 8 * b8A b + b8A a := by
  unfold bnA b8A
  rw [show (2 ^ 8 * b + a) / 2 ^ 1 = 2 ^ 8 * (b / 2) + (128 * (b % 2) + a / 2) by omega, show (1431655765 : Nat) = 2 ^ 8 * 5592405 + 85 by decide, and_split (by omega) (by omega), b8_1 _ (by omega) a ha, b8_2 b hb]
  have h1 := and_le1 (b / 2) 85
  have h2 := and_le1 (a / 2) 85
  omega
theorem bnB_s {p q : Nat} (hp : p < 256) (hq : q < 256) : bnB (2 ^ 8 * q + p) = 2 ^ 8 * b8B q + b8B p := by
  unfold bnB b8B
  rw [show (2 ^ 8 * q + p) / 2 ^ 2 = 2 ^ 8 * (q / 4) + (64 * (q % 4) + p / 4) by omega, show (858993459 : Nat) = 2 ^ 8 * 3355443 + 51 by decide, and_split (by omega) (by omega), and_split (by omega) (by omega), b8_3 _ (by omega) p hp, (b8_4 q hq).1, (b8_4 q hq).2]
  omega
theorem bnC_s {p q : Nat} (hp : p ≤ 68) (hq : q ≤ 68) (hq4 : q % 16 ≤ 4) : bnC (2 ^ 8 * q + p) = 2 ^ 8 * b8C q + b8C p := by
  unfold bnC b8C
  rw [show 2 ^ 8 * q + p + (2 ^ 8 * q + p) / 2 ^ 4 = 2 ^ 8 * (q + q / 16) + (p + p / 16 + 16 * (q % 16)) by omega, show (252645135 : Nat) = 2 ^ 8 * 986895 + 15 by decide, and_split (by omega) (by omega), b8_6 _ (by omega) p (by omega), b8_7 q (by omega)]
theorem tb_bit (m i : Nat) : tb m i = if Nat.testBit m i = true then 1 else 0 := by
  unfold tb
  rw [Nat.testBit_eq_decide_div_mod_eq]
  rcases Nat.mod_two_eq_zero_or_one (m / 2 ^ i) with h | h <;> simp [h]
theorem cb_lo {a b : Nat} (ha : a < 256) : ∀ n, n ≤ 8 → cb (2 ^ 8 * b + a) n = cb a n
  | 0, _ => rfl
  | n + 1, hn => by
    simp only [cb]
    have e : (2 ^ 8 * b + a).testBit n = a.testBit n := by rw [Nat.testBit_two_pow_mul_add _ (by omega), if_pos (by omega)]
    rw [cb_lo ha n (by omega), tb_bit, tb_bit, e]
theorem cb_hi {a b : Nat} (ha : a < 256) : ∀ n, cb (2 ^ 8 * b + a) (8 + n) = cb b n + cb a 8
  | 0 => by rw [show 8 + 0 = 8 from rfl, cb_lo ha 8 (Nat.le_refl _)]; simp [cb]
  | n + 1 => by
    show cb (2 ^ 8 * b + a) (8 + n) + tb (2 ^ 8 * b + a) (8 + n) = cb b n + tb b n + cb a 8
    have e : (2 ^ 8 * b + a).testBit (8 + n) = b.testBit n := by rw [Nat.testBit_two_pow_mul_add _ (by omega), if_neg (by omega), Nat.add_sub_cancel_left]
    rw [cb_hi ha n, tb_bit, tb_bit, e]
    omega
theorem cb_s {a b : Nat} (ha : a < 256) : cb (2 ^ 8 * b + a) 16 = cb b 8 + cb a 8 := cb_hi ha 8
theorem bc65 {x : Nat} (h : x < 65536) : bcE (bcD (bcC (bcB (bcA (nI x))))) &&& nI 63 = nI (cb x 16) := by
  have a1 : bnA x < 65536 := by unfold bnA; omega
  have a2 : bnB (bnA x) < 2 ^ 20 := by unfold bnB; have := and_le1 (bnA x) 858993459; have := and_le1 (bnA x / 2 ^ 2) 858993459; omega
  have a3 : bnC (bnB (bnA x)) < 2 ^ 22 := by unfold bnC; have := and_le1 (bnB (bnA x) + bnB (bnA x) / 2 ^ 4) 252645135; omega
  have a4 : bnD (bnC (bnB (bnA x))) < 2 ^ 23 := by unfold bnD; omega
  rw [bcA_n (by omega), bcB_n (by omega), bcC_n (by omega), bcD_n (by omega), bcE_n (by omega), nI_and]
  have hx : x = 2 ^ 8 * (x / 256) + x % 256 := by omega
  have ha : x % 256 < 256 := by omega
  have hb : x / 256 < 256 := by omega
  generalize x % 256 = a at *
  generalize x / 256 = b at *
  subst hx
  obtain ⟨p1, p2, p3, p4, p5⟩ := b8_5 a ha
  obtain ⟨q1, q2, q3, q4, q5⟩ := b8_5 b hb
  rw [bnA_s ha hb, bnB_s p1 q1, bnC_s p2 q2 q3, p4, q4, cb_s ha]
  clear a1 a2 a3 a4 p1 p2 p3 p4 q1 q2 q3 q4 h
  generalize cb a 8 = m at *
  generalize cb b 8 = q at *
  unfold bnD bnE
  rw [show (63 : Nat) = 2 ^ 6 - 1 by decide, Nat.and_two_pow_sub_one_eq_mod]
  have r1 : (2 ^ 8 * q + m) / 2 ^ 8 = q := by omega
  have s1 : (2 ^ 8 * q + m + q) / 2 ^ 16 = 0 := by omega
  rw [r1, s1]
  exact congrArg nI (by omega)
end
