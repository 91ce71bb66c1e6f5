theorem law_AOw : Cond.arrayOver (.object RX0) ∈ lw_tbl := List.mem_append_right _ (List.mem_of_getElem? (i := 105) (by decide +kernel))
section LP
variable {p : Program} {l : Launch} {e : Env} {s : State} {m : MethodId} {args : Array Value} {below : List Frame} {meth : Method} {c : Code} {Q : State → Prop} {D : va_G} {cI cO : ClassId} {A : Nat → Prop} {b L : Nat} {xs : Nat → Int32} {o us rg : Nat} {g : Nat → Nat} {ga : Nat → Nat → Nat} {h : Nat} {a : Nat → Nat} {lb hm : Nat} {bm : Nat → Nat} {c0 j : Nat} {u : CV} {v : MV} {H : Heap} {locs : List Loc} {ls : Array Slot}
set_option maxHeartbeats 4000000 in
set_option maxRecDepth 100000 in
theorem law_loop (F : CallFix p m c cL_law 4 s args WL RL) (hC : CT D cI cO s) (hA : ∀ q, s.heap.size ≤ q → A q) (hX : va_X b L xs s s.heap) (hbl : b < s.heap.size) (hbA : ¬ A b) (hL : L ≤ 2048)
    (hend : ∀ (H : Heap) (locs : List Loc) (ls : Array Slot), va_S A s.heap H locs → W p l e room_1 s m args below meth c H locs 600000 7302250 Q (F0 m 928 ls [])) :
    ∀ (fu c0 : Nat) (u : CV) (v : MV) (H : Heap) (locs : List Loc) (ls : Array Slot), L - 4 * c0 < fu → 4 * c0 ≤ L → RF c0 u v → va_P D vwCl (cvU cI cO o us rg g ga h a lb u ++ mdU cI hm bm v) H → va_D A (cvU cI cO o us rg g ga h a lb u ++ mdU cI hm bm v) → va_S A s.heap H locs → lv_has ls 4 [(0, .ref b), (1, .ref o), (2, .ref hm), (3, .int (nI (4 * c0)))] → W p l e room_1 s m args below meth c H locs 600000 7302250 Q (F0 m 18 ls []) := by
  have hx := F.1
  have hb := F.2.1
  intro fu
  induction fu with
  | zero => intro c0 u v H locs ls hmu; exact absurd hmu (Nat.not_lt_zero _)
  | succ fu ih =>
    intro c0 u v H locs ls hmu hle hF hP hD hS hl
    refine lv_iload_n hx hb dL_law_18 rfl (lv_at hl 3 rfl) ?_
    refine lv_aload_n hx hb dL_law_19 rfl (lv_at hl 0 rfl) ?_
    refine va_slen hx hb hX hbl hbA hS dL_law_20 ?_
    refine w_cv (y := nI L) rfl ?_
    refine lv_iconst (v := (nI (4))) hx hb dL_law_21 (by decide) ?_
    by_cases h4 : 4 ≤ L
    · refine n_isub hx hb dL_law_22 h4 ?_
      refine n_icmp_gt (tgt := 928) hx hb dL_law_23 (by decide) (by omega) (by omega) (fun c9 => hend _ _ _ hS) (fun c9 => ?_)
      refine lv_aload_n hx hb dL_law_26 rfl (lv_at hl 0 rfl) ?_
      refine lv_iload_n hx hb dL_law_27 rfl (lv_at hl 3 rfl) ?_
      refine va_sld hx hb hX hbl hbA hS (vp_in_nI (by omega) (by omega)) dL_law_28 ?_
      refine lv_bipush (v := (nI (31))) hx hb dL_law_29 (by decide) ?_
      refine lv_iand hx hb dL_law_31 ?_
      obtain ⟨t, ht, he⟩ := and31 (xs (nI (4 * c0)).toNatClampNeg)
      refine w_cv (y := nI t) he ?_
      have K : ∀ (u : CV) (v : MV) (H : Heap) (locs : List Loc) (ls : Array Slot), RF (c0 + 1) u v → va_P D vwCl (cvU cI cO o us rg g ga h a lb u ++ mdU cI hm bm v) H → va_D A (cvU cI cO o us rg g ga h a lb u ++ mdU cI hm bm v) → va_S A s.heap H locs → lv_has ls 4 [(0, .ref b), (1, .ref o), (2, .ref hm), (3, .int (nI (4 * c0)))] → W p l e room_1 s m args below meth c H locs 600000 7302250 Q (F0 m 922 ls []) := by
        intro u v H locs ls hF hP hD hS hl
        refine n_iinc (a := 4 * c0) (b := 4) (lv' := [(3, .int (nI (4 * c0 + 4))), (0, .ref b), (1, .ref o), (2, .ref hm)]) hx hb dL_law_922 hl (k := 3) rfl rfl (by decide) rfl (fun ls hl => ?_)
        refine lv_goto (tgt := 18) hx hb dL_law_925 (by decide) ?_
        exact ih (c0 + 1) u v _ _ ls (by omega) (by omega) hF hP hD hS (lv_sub hl [1, 2, 3, 0] rfl)
      have hc9 : c0 < 900 := by omega
      have hj : 4 * c0 + 4 ≤ L := by omega
      clear he
      rcases (show t < 8 ∨ (8 ≤ t ∧ t < 16) ∨ (16 ≤ t ∧ t < 24) ∨ (24 ≤ t ∧ t < 32) by omega) with hq | hq | hq | hq
      · rcases (show t = 0 ∨ t = 1 ∨ t = 2 ∨ t = 3 ∨ t = 4 ∨ t = 5 ∨ t = 6 ∨ t = 7 by omega) with rfl | rfl | rfl | rfl | rfl | rfl | rfl | rfl
        · exact lv_tableIn (tgt := 164) (off := 132) hx hb dL_law_32 (by decide) (by decide) (by decide) (by decide) (lc_0 F hC hA hX hbl hbA hc9 hj hL hF hP hD hS hl K)
        · exact lv_tableIn (tgt := 187) (off := 155) hx hb dL_law_32 (by decide) (by decide) (by decide) (by decide) (lc_1 F hC hA hX hbl hbA hc9 hj hL hF hP hD hS hl K)
        · exact lv_tableIn (tgt := 220) (off := 188) hx hb dL_law_32 (by decide) (by decide) (by decide) (by decide) (lc_2 F hC hA hX hbl hbA hc9 hj hL hF hP hD hS hl K)
        · exact lv_tableIn (tgt := 253) (off := 221) hx hb dL_law_32 (by decide) (by decide) (by decide) (by decide) (lc_3 F hC hA hX hbl hbA hc9 hj hL hF hP hD hS hl K)
        · exact lv_tableIn (tgt := 296) (off := 264) hx hb dL_law_32 (by decide) (by decide) (by decide) (by decide) (lc_4 F hC hA hX hbl hbA hc9 hj hL hF hP hD hS hl K)
        · exact lv_tableIn (tgt := 329) (off := 297) hx hb dL_law_32 (by decide) (by decide) (by decide) (by decide) (lc_5 F hC hA hX hbl hbA hc9 hj hL hF hP hD hS hl K)
        · exact lv_tableIn (tgt := 372) (off := 340) hx hb dL_law_32 (by decide) (by decide) (by decide) (by decide) (lc_6 F hC hA hX hbl hbA hc9 hj hL hF hP hD hS hl K)
        · exact lv_tableIn (tgt := 405) (off := 373) hx hb dL_law_32 (by decide) (by decide) (by decide) (by decide) (lc_7 F hC hA hX hbl hbA hc9 hj hL hF hP hD hS hl K)
      · rcases (show t = 8 ∨ t = 9 ∨ t = 10 ∨ t = 11 ∨ t = 12 ∨ t = 13 ∨ t = 14 ∨ t = 15 by omega) with rfl | rfl | rfl | rfl | rfl | rfl | rfl | rfl
        · exact lv_tableIn (tgt := 438) (off := 406) hx hb dL_law_32 (by decide) (by decide) (by decide) (by decide) (lc_8 F hC hA hX hbl hbA hc9 hj hL hF hP hD hS hl K)
        · exact lv_tableIn (tgt := 481) (off := 449) hx hb dL_law_32 (by decide) (by decide) (by decide) (by decide) (lc_9 F hC hA hX hbl hbA hc9 hj hL hF hP hD hS hl K)
        · exact lv_tableIn (tgt := 514) (off := 482) hx hb dL_law_32 (by decide) (by decide) (by decide) (by decide) (lc_10 F hC hA hX hbl hbA hc9 hj hL hF hP hD hS hl K)
        · exact lv_tableIn (tgt := 557) (off := 525) hx hb dL_law_32 (by decide) (by decide) (by decide) (by decide) (lc_11 F hC hA hX hbl hbA hc9 hj hL hF hP hD hS hl K)
        · exact lv_tableIn (tgt := 590) (off := 558) hx hb dL_law_32 (by decide) (by decide) (by decide) (by decide) (lc_12 F hC hA hX hbl hbA hc9 hj hL hF hP hD hS hl K)
        · exact lv_tableIn (tgt := 613) (off := 581) hx hb dL_law_32 (by decide) (by decide) (by decide) (by decide) (lc_13 F hC hA hX hbl hbA hc9 hj hL hF hP hD hS hl K)
        · exact lv_tableIn (tgt := 646) (off := 614) hx hb dL_law_32 (by decide) (by decide) (by decide) (by decide) (lc_14 F hC hA hX hbl hbA hc9 hj hL hF hP hD hS hl K)
        · exact lv_tableIn (tgt := 689) (off := 657) hx hb dL_law_32 (by decide) (by decide) (by decide) (by decide) (lc_15 F hC hA hX hbl hbA hc9 hj hL hF hP hD hS hl K)
      · rcases (show t = 16 ∨ t = 17 ∨ t = 18 ∨ t = 19 ∨ t = 20 ∨ t = 21 ∨ t = 22 ∨ t = 23 by omega) with rfl | rfl | rfl | rfl | rfl | rfl | rfl | rfl
        · exact lv_tableIn (tgt := 712) (off := 680) hx hb dL_law_32 (by decide) (by decide) (by decide) (by decide) (lc_16 F hC hA hX hbl hbA hc9 hj hL hF hP hD hS hl K)
        · exact lv_tableIn (tgt := 725) (off := 693) hx hb dL_law_32 (by decide) (by decide) (by decide) (by decide) (lc_17 F hC hA hX hbl hbA hc9 hj hL hF hP hD hS hl K)
        · exact lv_tableIn (tgt := 738) (off := 706) hx hb dL_law_32 (by decide) (by decide) (by decide) (by decide) (lc_18 F hC hA hX hbl hbA hc9 hj hL hF hP hD hS hl K)
        · exact lv_tableIn (tgt := 771) (off := 739) hx hb dL_law_32 (by decide) (by decide) (by decide) (by decide) (lc_19 F hC hA hX hbl hbA hc9 hj hL hF hP hD hS hl K)
        · exact lv_tableIn (tgt := 784) (off := 752) hx hb dL_law_32 (by decide) (by decide) (by decide) (by decide) (lc_20 F hC hA hX hbl hbA hc9 hj hL hF hP hD hS hl K)
        · exact lv_tableIn (tgt := 797) (off := 765) hx hb dL_law_32 (by decide) (by decide) (by decide) (by decide) (lc_21 F hC hA hX hbl hbA hc9 hj hL hF hP hD hS hl K)
        · exact lv_tableIn (tgt := 810) (off := 778) hx hb dL_law_32 (by decide) (by decide) (by decide) (by decide) (lc_22 F hC hA hX hbl hbA hc9 hj hL hF hP hD hS hl K)
        · exact lv_tableIn (tgt := 823) (off := 791) hx hb dL_law_32 (by decide) (by decide) (by decide) (by decide) (lc_23 F hC hA hX hbl hbA hc9 hj hL hF hP hD hS hl K)
      · rcases (show t = 24 ∨ t = 25 ∨ t = 26 ∨ t = 27 ∨ t = 28 ∨ t = 29 ∨ t = 30 ∨ t = 31 by omega) with rfl | rfl | rfl | rfl | rfl | rfl | rfl | rfl
        · exact lv_tableIn (tgt := 836) (off := 804) hx hb dL_law_32 (by decide) (by decide) (by decide) (by decide) (lc_24 F hC hA hX hbl hbA hc9 hj hL hF hP hD hS hl K)
        · exact lv_tableIn (tgt := 849) (off := 817) hx hb dL_law_32 (by decide) (by decide) (by decide) (by decide) (lc_25 F hC hA hX hbl hbA hc9 hj hL hF hP hD hS hl K)
        · exact lv_tableIn (tgt := 872) (off := 840) hx hb dL_law_32 (by decide) (by decide) (by decide) (by decide) (lc_26 F hC hA hX hbl hbA hc9 hj hL hF hP hD hS hl K)
        · exact lv_tableIn (tgt := 885) (off := 853) hx hb dL_law_32 (by decide) (by decide) (by decide) (by decide) (lc_27 F hC hA hX hbl hbA hc9 hj hL hF hP hD hS hl K)
        · exact lv_tableIn (tgt := 908) (off := 876) hx hb dL_law_32 (by decide) (by decide) (by decide) (by decide) (lc_28 F hC hA hX hbl hbA hc9 hj hL hF hP hD hS hl K)
        · exact lv_tableOut (tgt := 922) hx hb dL_law_32 (Or.inr (by decide)) (by decide) (K u v _ _ ls (RF_same hF) hP hD hS hl)
        · exact lv_tableOut (tgt := 922) hx hb dL_law_32 (Or.inr (by decide)) (by decide) (K u v _ _ ls (RF_same hF) hP hD hS hl)
        · exact lv_tableOut (tgt := 922) hx hb dL_law_32 (Or.inr (by decide)) (by decide) (K u v _ _ ls (RF_same hF) hP hD hS hl)
    · have hc0 : c0 = 0 := by omega
      subst hc0
      refine lv_isub hx hb dL_law_22 ?_
      refine lv_icmp_gt (tgt := 928) hx hb dL_law_23 (by decide) (fun c9 => hend _ _ _ hS) (fun c9 => ?_)
      exfalso
      have hL3 : L = 0 ∨ L = 1 ∨ L = 2 ∨ L = 3 := by omega
      clear hP hD hS hl hX hmu hle hend ih
      rcases hL3 with rfl | rfl | rfl | rfl <;> exact absurd (by decide) c9
end LP
set_option maxHeartbeats 4000000 in
set_option maxRecDepth 100000 in
theorem law_CT {s : State} {args : Array Value} (hts : ∀ w ∈ lw_tbl, w.before args s = true) : ∃ (D : va_G) (cI cO : ClassId), CT D cI cO s := by
  have hw : ∀ w ∈ WL, w.before args s = true := fun w h => hts w (List.mem_filter.mp h).1
  obtain ⟨d0, i0, k0⟩ := u_known (C := RX0) (T := TX0) (N := 19) (n := 19) hw inX0 (hw _ qw18)
  obtain ⟨d1, i1, k1⟩ := u_known (C := RX1) (T := TX1) (N := 3) (n := 3) hw inX1 (hw _ qw99)
  obtain ⟨d2, i2, k2⟩ := u_known (C := RX2) (T := TX2) (N := 6) (n := 6) hw inX2 (hw _ qw10)
  obtain ⟨d3, i3, k3⟩ := u_known (C := RX3) (T := TX3) (N := 7) (n := 7) hw inX3 (hw _ qw451)
  obtain ⟨cI, kA, comp, f1, f2, f3⟩ := Cond.arrayClass_spec (hw _ qw97)
  obtain ⟨comp2, cO, kB, g1, g2, g3, g4, g5⟩ := Cond.arrayOver_spec (hts _ law_AOw)
  refine ⟨(fun k => if k = 0 then d0 else if k = 1 then d1 else if k = 2 then d2 else d3, fun k => if k = 0 then i0 else if k = 1 then i1 else if k = 2 then i2 else i3), cI, cO, ⟨?_, ?_⟩, ?_, ?_⟩
  · intro k q hq
    match k, hq with
    | 0, hq => cases hq; exact k0
    | 1, hq => cases hq; exact k1
    | 2, hq => cases hq; exact k2
    | 3, hq => cases hq; exact k3
    | k + 4, hq => simp [vwCl] at hq
  · intro k q hq
    match k, hq with
    | 0, hq => cases hq; exact ⟨fun n z => ⟨fun k h => (by cases h), kA, f2, comp, f3⟩, f1⟩
    | 1, hq => cases hq; exact ⟨fun n z => ⟨fun k h => (by cases h), kB, g3, comp2, g4⟩, ⟨kB, comp2, g3, g4, g1, g5⟩⟩
    | k + 2, hq => simp at hq
  · exact List.forall_mem_cons.mpr ⟨va_Nw.of rfl (hts _ qw27), List.forall_mem_cons.mpr ⟨va_Nw.of rfl (hts _ qw29), List.forall_mem_cons.mpr ⟨va_Nw.of rfl (hts _ qw32), List.forall_mem_cons.mpr ⟨va_Nw.of rfl (hts _ qw34), List.forall_mem_cons.mpr ⟨va_Nw.of rfl (hts _ qw36), List.forall_mem_cons.mpr ⟨va_Nw.of rfl (hts _ qw38), List.forall_mem_cons.mpr ⟨va_Nw.of rfl (hts _ qw40), List.forall_mem_cons.mpr ⟨va_Nw.of rfl (hts _ qw41), List.forall_mem_cons.mpr ⟨va_Nw.of rfl (hts _ qw44), List.forall_mem_cons.mpr ⟨va_Nw.of rfl (hts _ qw48), List.forall_mem_cons.mpr ⟨va_Nw.of rfl (hts _ qw50), List.forall_mem_cons.mpr ⟨va_Nw.of rfl (hts _ qw52), List.forall_mem_cons.mpr ⟨va_Nw.of rfl (hts _ qw54), List.forall_mem_cons.mpr ⟨va_Nw.of rfl (hts _ qw110), fun _ h => absurd h List.not_mem_nil⟩⟩⟩⟩⟩⟩⟩⟩⟩⟩⟩⟩⟩⟩
  · exact List.forall_mem_cons.mpr ⟨va_Nw.of rfl (hts _ qw19), List.forall_mem_cons.mpr ⟨va_Nw.of rfl (hts _ qw100), List.forall_mem_cons.mpr ⟨va_Nw.of rfl (hts _ qw106), List.forall_mem_cons.mpr ⟨va_Nw.of rfl (hts _ qw149), List.forall_mem_cons.mpr ⟨va_Nw.of rfl (hts _ qw153), List.forall_mem_cons.mpr ⟨va_Nw.of rfl (hts _ qw167), List.forall_mem_cons.mpr ⟨va_Nw.of rfl (hts _ qw175), List.forall_mem_cons.mpr ⟨va_Nw.of rfl (hts _ qw183), List.forall_mem_cons.mpr ⟨va_Nw.of rfl (hts _ qw191), List.forall_mem_cons.mpr ⟨va_Nw.of rfl (hts _ qw195), List.forall_mem_cons.mpr ⟨va_Nw.of rfl (hts _ qw202), List.forall_mem_cons.mpr ⟨va_Nw.of rfl (hts _ qw220), List.forall_mem_cons.mpr ⟨va_Nw.of rfl (hts _ qw233), List.forall_mem_cons.mpr ⟨va_Nw.of rfl (hts _ qw240), List.forall_mem_cons.mpr ⟨va_Nw.of rfl (hts _ qw244), List.forall_mem_cons.mpr ⟨va_Nw.of rfl (hts _ qw248), List.forall_mem_cons.mpr ⟨va_Nw.of rfl (hts _ qw257), List.forall_mem_cons.mpr ⟨va_Nw.of rfl (hts _ qw265), List.forall_mem_cons.mpr ⟨va_Nw.of rfl (hts _ qw284), List.forall_mem_cons.mpr ⟨va_Nw.of rfl (hts _ qw296), List.forall_mem_cons.mpr ⟨va_Nw.of rfl (hts _ qw300), List.forall_mem_cons.mpr ⟨va_Nw.of rfl (hts _ qw321), List.forall_mem_cons.mpr ⟨va_Nw.of rfl (hts _ qw329), List.forall_mem_cons.mpr ⟨va_Nw.of rfl (hts _ qw334), List.forall_mem_cons.mpr ⟨va_Nw.of rfl (hts _ qw338), List.forall_mem_cons.mpr ⟨va_Nw.of rfl (hts _ qw341), List.forall_mem_cons.mpr ⟨va_Nw.of rfl (hts _ qw361), List.forall_mem_cons.mpr ⟨va_Nw.of rfl (hts _ qw374), List.forall_mem_cons.mpr ⟨va_Nw.of rfl (hts _ qw403), List.forall_mem_cons.mpr ⟨va_Nw.of rfl (hts _ qw411), List.forall_mem_cons.mpr ⟨va_Nw.of rfl (hts _ qw428), List.forall_mem_cons.mpr ⟨va_Nw.of rfl (hts _ qw432), List.forall_mem_cons.mpr ⟨va_Nw.of rfl (hts _ qw433), List.forall_mem_cons.mpr ⟨va_Nw.of rfl (hts _ qw442), List.forall_mem_cons.mpr ⟨va_Nw.of rfl (hts _ qw446), fun _ h => absurd h List.not_mem_nil⟩⟩⟩⟩⟩⟩⟩⟩⟩⟩⟩⟩⟩⟩⟩⟩⟩⟩⟩⟩⟩⟩⟩⟩⟩⟩⟩⟩⟩⟩⟩⟩⟩⟩⟩
