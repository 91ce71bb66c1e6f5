/-! rows that are alike below 470; the first row; how the class's values stand to the reference's behind each call -/
theorem RC_congr {c : Nat} {w v : Nat → Int32} {S : Nat → Nat → Int32} (hk : ∀ k, k < 470 → v k = w k) (h : RC c S w) : RC c S v := by
  have e0 : nn v = nn w := by unfold nn; rw [hk 0 (by omega)]
  have e1 : ∀ i, i < 4 → mn v i = mn w i := fun i hi => by unfold mn; rw [hk _ (by omega)]
  have e2 : ∀ p, p < 16 → ac v p = ac w p := fun p hp => by unfold ac; rw [hk _ (by omega)]
  have e3 : ∀ p, p < 16 → le v p = le w p := fun p hp => by unfold le; rw [hk _ (by omega)]
  have e4 : ∀ d, d < 6 → ∀ i, i < 4 → pq v d i = pq w d i := fun d hd i hi => by unfold pq; rw [hk _ (by omega)]
  have e5 : ∀ k, k < 96 → un v k = un w k := fun k h9 => by unfold un; rw [hk _ (by omega)]
  have e6 : he v = he w := by unfold he; rw [hk _ (by omega)]
  have e7 : tm v = tm w := by unfold tm; rw [hk _ (by omega)]
  have e8 : hd v = hd w := by unfold hd; rw [hk _ (by omega)]
  have e9 : sn v = sn w := by unfold sn; rw [hk _ (by omega)]
  have ea : ∀ i, i < 4 → am v i = am w i := fun i hi => by unfold am; rw [e2 (4 * i) (by omega), e2 (4 * i + 1) (by omega), e2 (4 * i + 2) (by omega), e2 (4 * i + 3) (by omega)]
  have hW : WF c v := by
    refine ⟨?_, fun i hi => ?_, fun p hp => ?_, fun i hi j hj hm => ?_, fun p hp => ?_, fun p hp hn => ?_, fun p hp j hj => ?_, fun d hd i hi => ?_, fun d hd i hi hn => ?_, fun k h9 => ?_, ?_, fun j hj => ?_, fun k h9 => ?_, ?_, ?_, ?_⟩
    · rw [e0, hk 0 (by omega)]; exact h.wf.n
    · rw [e1 i hi, hk _ (by omega)]; exact h.wf.m i hi
    · rw [e2 p hp, hk _ (by omega)]; exact h.wf.a p hp
    · rw [e2 _ (by omega)]; exact h.wf.a0 i hi j hj (by rw [← e1 i hi]; exact hm)
    · rw [e3 p hp, hk _ (by omega)]; exact h.wf.l p hp
    · rw [e3 p hp]; exact h.wf.l0 p hp (by rw [← e0]; exact hn)
    · rw [e3 p hp] at hj
      have h10 := (h.wf.l p hp).2
      rw [e9, hk _ (by omega)]; exact h.wf.q p hp j hj
    · rw [hk _ (by omega)]; exact h.wf.s d hd i hi
    · rw [hk _ (by omega)] at hn
      rw [e4 d hd i hi, hk _ (by omega)]; exact h.wf.p d hd i hi hn
    · rw [e5 k h9, e7, hk _ (by omega)]; exact h.wf.u k h9
    · rw [e6, hk _ (by omega)]; exact h.wf.h
    · rw [e6] at hj
      have h24 := h.wf.h.2
      rw [e9, hk _ (by omega)]; exact h.wf.b j hj
    · rw [e9, hk _ (by omega)]; exact h.wf.g k h9
    · rw [e7, hk _ (by omega)]; exact h.wf.t
    · rw [e8, hk _ (by omega)]; exact h.wf.d
    · rw [e9, hk _ (by omega)]; exact h.wf.e
  refine ⟨hW, ?_, fun i hi => ?_, fun i hi => ?_, fun p hp => ?_, fun p hp j hj => ?_, fun d hd i hi => ?_, fun d hd i hi => ?_, fun k h9 => ?_, fun k h9 => ?_, fun j hj => ?_⟩
  · rw [hk 462 (by omega), hk 463 (by omega), hk 464 (by omega), hk 465 (by omega), hk 466 (by omega), hk 467 (by omega), hk 468 (by omega), hk 469 (by omega), hk 0 (by omega), hk 341 (by omega)]
    exact h.i
  · rw [hk _ (by omega)]; exact h.2.2.1 i hi
  · rw [ea i hi]; exact h.a i hi
  · rw [hk _ (by omega)]; exact h.2.2.2.2.1 p hp
  · rw [e3 p hp] at hj
    have h10 := (h.wf.l p hp).2
    rw [hk _ (by omega)]; exact h.q p hp j hj
  · rw [hk _ (by omega)]; exact h.s d hd i hi
  · rw [hk _ (by omega)]; exact h.p d hd i hi
  · rw [e5 k h9, e7, hk _ (by omega)]; exact h.u k h9
  · rw [hk _ (by omega)]; exact h.g k h9
  · rw [e6] at hj
    have h24 := h.wf.h.2
    rw [hk _ (by omega)]; exact h.b j hj
theorem RC_0 : RC 0 SZr w0 := by
  have z : ∀ k, ¬ k = 463 → ¬ ((197 ≤ k ∧ k < 245) ∨ (366 ≤ k ∧ k < 462)) → w0 k = nI 0 := fun k a b => by unfold w0; rw [if_neg a, if_neg b]
  have y : ∀ k, ((197 ≤ k ∧ k < 245) ∨ (366 ≤ k ∧ k < 462)) → w0 k = -1 := fun k b => by unfold w0; rw [if_neg (by omega), if_pos b]
  have n0 : nv (nI 0) = 0 := nv_nI (by decide)
  have e0 : nn w0 = 0 := by unfold nn; rw [z _ (by omega) (by omega)]; exact n0
  have e1 : ∀ i, i < 4 → mn w0 i = 0 := fun i hi => by unfold mn; rw [z _ (by omega) (by omega)]; exact n0
  have e2 : ∀ p, p < 16 → ac w0 p = 0 := fun p hp => by unfold ac; rw [z _ (by omega) (by omega)]; exact n0
  have e3 : ∀ p, p < 16 → le w0 p = 0 := fun p hp => by unfold le; rw [z _ (by omega) (by omega)]; exact n0
  have e5 : ∀ k, k < 96 → un w0 k = 0 := fun k h9 => by unfold un; rw [z _ (by omega) (by omega)]; exact n0
  have e6 : he w0 = 0 := by unfold he; rw [z _ (by omega) (by omega)]; exact n0
  have e7 : tm w0 = 0 := by unfold tm; rw [z _ (by omega) (by omega)]; exact n0
  have k3 : w0 463 = nI 3 := by unfold w0; rw [if_pos rfl]
  have e8 : hd w0 = 3 := by unfold hd; rw [k3]; exact nv_nI (by decide)
  have e9 : sn w0 = 0 := by unfold sn; rw [z _ (by omega) (by omega)]; exact n0
  have hW : WF 0 w0 := by
    refine ⟨?_, fun i hi => ?_, fun p hp => ?_, fun i hi j hj hm => ?_, fun p hp => ?_, fun p hp hn => ?_, fun p hp j hj => ?_, fun d hd i hi => ?_, fun d hd i hi hn => ?_, fun k h9 => ?_, ?_, fun j hj => ?_, fun k h9 => ?_, ?_, ?_, ?_⟩
    · rw [e0]; exact ⟨z _ (by omega) (by omega), by omega⟩
    · rw [e1 i hi]; exact ⟨z _ (by omega) (by omega), by omega⟩
    · rw [e2 p hp]; exact ⟨z _ (by omega) (by omega), by omega⟩
    · exact e2 _ (by omega)
    · rw [e3 p hp]; exact ⟨z _ (by omega) (by omega), by omega⟩
    · exact e3 p hp
    · rw [e3 p hp] at hj; omega
    · exact Or.inl (y _ (by omega))
    · exact absurd (y _ (by omega)) hn
    · rw [e5 k h9]; exact ⟨z _ (by omega) (by omega), by omega, Or.inl rfl⟩
    · rw [e6]; exact ⟨z _ (by omega) (by omega), by omega⟩
    · rw [e6] at hj; omega
    · exact Or.inl (y _ (by omega))
    · rw [e7]; exact ⟨z _ (by omega) (by omega), by omega⟩
    · rw [e8]; exact ⟨k3, by omega⟩
    · rw [e9]; exact ⟨z _ (by omega) (by omega), by omega⟩
  refine ⟨hW, ?_, fun i hi => ?_, fun i hi => ?_, fun p hp => ?_, fun p hp j hj => ?_, fun d hd i hi => ?_, fun d hd i hi => ?_, fun k h9 => ?_, fun k h9 => ?_, fun j hj => ?_⟩
  · rw [z 462 (by omega) (by omega), k3, z 464 (by omega) (by omega), z 465 (by omega) (by omega), z 466 (by omega) (by omega), z 467 (by omega) (by omega), z 468 (by omega) (by omega), z 469 (by omega) (by omega), z 0 (by omega) (by omega), z 341 (by omega) (by omega)]
    exact ⟨rfl, rfl, rfl, rfl, rfl, rfl, rfl, rfl, rfl, rfl⟩
  · rw [z _ (by omega) (by omega)]; rfl
  · rw [show am w0 i = 0 from by unfold am; rw [e2 (4 * i) (by omega), e2 (4 * i + 1) (by omega), e2 (4 * i + 2) (by omega), e2 (4 * i + 3) (by omega)]]; rfl
  · rw [z _ (by omega) (by omega)]; rfl
  · rw [e3 p hp] at hj; omega
  · rw [y _ (by omega)]; rfl
  · rw [y _ (by omega)]; rfl
  · exact ⟨fun _ => ⟨0, Nat.zero_le _, rfl⟩, fun h => absurd (e5 k h9) h⟩
  · rw [y _ (by omega)]; unfold trg; rw [if_pos rfl]; rfl
  · rw [e6] at hj; omega
/-- how the class's values stand to the reference's, behind c calls -/
def RF (c : Nat) (u : CV) (v : MV) : Prop := ∃ x n : Nat, x < 4 ∧ n ≤ 4 ∧ u.2.2.2.1 = nI x ∧ u.2.2.2.2.1 = nI n ∧ v.2.2.2.2.2.1 = nI n ∧ (v.2.2.1 0 = u.1.1 ∧ v.2.2.1 1 = u.1.2.1 ∧ v.2.2.1 2 = u.1.2.2) ∧ RC c u.2.1 v.1 ∧ ∀ i, i < n → RC c (u.2.2.2.2.2 ((x + 4 - n + i) % 4)) (fun k => v.2.1 (470 * i + k))
section ST
variable {c x n : Nat} {E : Int32 × Int32 × Int32} {G : Nat → Nat → Nat → Int32} {w past er : Nat → Int32} {o : OP} {u : CV} {v : MV}
theorem RF_err (hx : x < 4) (hn : n ≤ 4) (he : er 0 = E.1 ∧ er 1 = E.2.1 ∧ er 2 = E.2.2) (hG : ∀ i, i < n → RC c (G ((x + 4 - n + i) % 4)) (fun k => past (470 * i + k))) {e : Nat} (h3 : e < 3) (h1 : u.1 = incE E e ∧ RC c u.2.1 w ∧ u.2.2.2 = (nI x, nI n, G)) (h2 : v.1 = w ∧ v.2.1 = past ∧ v.2.2.1 = upd er e (er e + nI 1) ∧ v.2.2.2.2.2.1 = nI n) : RF (c + 1) u v := by
  obtain ⟨p1, p2, p3⟩ := h1
  obtain ⟨q1, q2, q3, q4⟩ := h2
  refine ⟨x, n, hx, hn, congrArg (fun q => q.1) p3, congrArg (fun q => q.2.1) p3, q4, ?_, by rw [q1]; exact p2.mono (by omega), fun i hi => by rw [q2, show u.2.2.2.2.2 = G from congrArg (fun q => q.2.2) p3]; exact (hG i hi).mono (by omega)⟩
  rw [q3, p1]
  rcases (show e = 0 ∨ e = 1 ∨ e = 2 by omega) with rfl | rfl | rfl
  · exact ⟨by rw [upd_eq, he.1]; rfl, by rw [pk_un (by decide)]; exact he.2.1, by rw [pk_un (by decide)]; exact he.2.2⟩
  · exact ⟨by rw [pk_un (by decide)]; exact he.1, by rw [upd_eq, he.2.1]; rfl, by rw [pk_un (by decide)]; exact he.2.2⟩
  · exact ⟨by rw [pk_un (by decide)]; exact he.1, by rw [pk_un (by decide)]; exact he.2.1, by rw [upd_eq, he.2.2]; rfl⟩
theorem RF_step (hx : x < 4) (hn : n ≤ 4) (he : er 0 = E.1 ∧ er 1 = E.2.1 ∧ er 2 = E.2.2) (hG : ∀ i, i < n → RC c (G ((x + 4 - n + i) % 4)) (fun k => past (470 * i + k))) (hk : o.2.1 ≤ 4) (h1 : nxC c x n E G w o u) (h2 : nxM n w past er o v) : RF (c + 1) u v := by
  obtain ⟨a0, a1, ae⟩ := h1
  obtain ⟨b0, b1, be⟩ := h2
  rcases (show o.2.1 = 0 ∨ o.2.1 = 1 ∨ o.2.1 = 0 + 2 ∨ o.2.1 = 1 + 2 ∨ o.2.1 = 2 + 2 by omega) with k | k | k | k | k
  · obtain ⟨p1, p2, p3⟩ := a0 k
    obtain ⟨q1, q2, q3, q4⟩ := b0 k
    exact ⟨x, n, hx, hn, congrArg (fun q => q.1) p3, congrArg (fun q => q.2.1) p3, q4, by rw [q3, p1]; exact he, by rw [q1]; exact p2.mono (by omega), fun i hi => by rw [q2, show u.2.2.2.2.2 = G from congrArg (fun q => q.2.2) p3]; exact (hG i hi).mono (by omega)⟩
  · obtain ⟨p1, p2, p3, p4, T, p5, p6⟩ := a1 k
    obtain ⟨q1, q2, q3, q4⟩ := b1 k
    have hs : sn1 n = min (n + 1) 4 := by unfold sn1; split <;> omega
    refine ⟨(x + 1) % 4, min (n + 1) 4, by omega, by omega, p3, p4, by rw [q4, hs], by rw [q3, p1]; exact he, by rw [q1]; exact p2, fun i hi => ?_⟩
    have hq : ∀ k, k < 470 → v.2.1 (470 * i + k) = pshP past n w i k := q2 i (by rw [hs]; exact hi)
    rw [p6]
    by_cases h4 : n = 4
    · by_cases hi3 : i < 3
      · rw [vG_ne (show ((x + 1) % 4 + 4 - min (n + 1) 4 + i) % 4 ≠ x by omega), show ((x + 1) % 4 + 4 - min (n + 1) 4 + i) % 4 = (x + 4 - n + (i + 1)) % 4 by omega]
        exact (RC_congr (fun k hk => by show v.2.1 (470 * i + k) = _; rw [hq k hk]; unfold pshP; rw [if_pos h4, if_pos hi3]) (hG (i + 1) (by omega))).mono (by omega)
      · rw [show ((x + 1) % 4 + 4 - min (n + 1) 4 + i) % 4 = x by omega, vG_eq]
        exact (RC_congr (fun k hk => by show v.2.1 (470 * i + k) = _; rw [hq k hk]; unfold pshP; rw [if_pos h4, if_neg hi3]) p5).mono (by omega)
    · by_cases hin : i = n
      · rw [show ((x + 1) % 4 + 4 - min (n + 1) 4 + i) % 4 = x by omega, vG_eq]
        exact (RC_congr (fun k hk => by show v.2.1 (470 * i + k) = _; rw [hq k hk]; unfold pshP; rw [if_neg h4, if_pos hin]) p5).mono (by omega)
      · rw [vG_ne (show ((x + 1) % 4 + 4 - min (n + 1) 4 + i) % 4 ≠ x by omega), show ((x + 1) % 4 + 4 - min (n + 1) 4 + i) % 4 = (x + 4 - n + i) % 4 by omega]
        exact (RC_congr (fun k hk => by show v.2.1 (470 * i + k) = _; rw [hq k hk]; unfold pshP; rw [if_neg h4, if_neg hin]) (hG i (by omega))).mono (by omega)
  · exact RF_err hx hn he hG (by decide) (ae 0 k) (be 0 k)
  · exact RF_err hx hn he hG (by decide) (ae 1 k) (be 1 k)
  · exact RF_err hx hn he hG (by decide) (ae 2 k) (be 2 k)
theorem RF_undo {r1 r2 : Int32} (hx : x < 4) (hn : n ≤ 4) (he : er 0 = E.1 ∧ er 1 = E.2.1 ∧ er 2 = E.2.2) (hG : ∀ i, i < n → RC c (G ((x + 4 - n + i) % 4)) (fun k => past (470 * i + k)))
    (h1 : (n = 0 → r1 = -3 ∧ u.1 = incE E 1 ∧ RC c u.2.1 w ∧ u.2.2.2 = (nI x, nI n, G)) ∧ (¬ n = 0 → r1 = nI (n - 1) ∧ u.1 = E ∧ CPY u.2.1 (G ((x + 3) % 4)) ∧ u.2.2.2 = (nI ((x + 3) % 4), nI (n - 1), G))) (h2 : nxU n w past er r2 v) : r1 = r2 ∧ RF (c + 1) u v := by
  by_cases h0 : n = 0
  · obtain ⟨p0, p1⟩ := h1.1 h0
    obtain ⟨q0, q1⟩ := h2.1 h0
    exact ⟨by rw [p0, q0], RF_err hx hn he hG (by decide) p1 q1⟩
  · obtain ⟨p0, p1, p2, p3⟩ := h1.2 h0
    obtain ⟨q0, q1, q2, q3, q4⟩ := h2.2 h0
    refine ⟨by rw [p0, q0], (x + 3) % 4, n - 1, by omega, by omega, congrArg (fun q => q.1) p3, congrArg (fun q => q.2.1) p3, q4, by rw [q3, p1]; exact he, ?_, fun i hi => ?_⟩
    · have h9 := hG (n - 1) (by omega)
      rw [show (x + 4 - n + (n - 1)) % 4 = (x + 3) % 4 by omega] at h9
      exact (RC_cpy p2 (RC_congr q1 h9)).mono (by omega)
    · rw [q2, show u.2.2.2.2.2 = G from congrArg (fun q => q.2.2) p3, show ((x + 3) % 4 + 4 - (n - 1) + i) % 4 = (x + 4 - n + i) % 4 by omega]
      exact (hG i (by omega)).mono (by omega)
end ST
theorem RF_hash {c : Nat} {u : CV} {w past er bf tk : Nat → Int32} {sv : Int32} {hs hs2 : Int64} (h : RF c u (w, past, er, bf, tk, sv, hs)) : RF (c + 1) u (w, past, er, bf, tk, sv, hs2) := by
  obtain ⟨x, n, a1, a2, a3, a4, a5, a6, a7, a8⟩ := h
  exact ⟨x, n, a1, a2, a3, a4, a5, a6, a7.mono (by omega), fun i hi => (a8 i hi).mono (by omega)⟩
theorem RF_same {c : Nat} {u : CV} {v : MV} (h : RF c u v) : RF (c + 1) u v := by
  obtain ⟨x, n, a1, a2, a3, a4, a5, a6, a7, a8⟩ := h
  exact ⟨x, n, a1, a2, a3, a4, a5, a6, a7.mono (by omega), fun i hi => (a8 i hi).mono (by omega)⟩
/-! kinds -/
theorem itc_k {p : Prop} {a b : OP} (ha : a.2.1 ≤ 4) (hb : b.2.1 ≤ 4) : (itc p a b).2.1 ≤ 4 := by
  by_cases h : p
  · rw [itc_t h]; exact ha
  · rw [itc_f h]; exact hb
section KD
variable {w er : Nat → Int32} {x y z : Int32} {j : Nat}
theorem kd_oAdd : (oAdd w x).2.1 ≤ 4 := itc_k (by split <;> exact Nat.le_of_ble_eq_true rfl) (Nat.le_of_ble_eq_true rfl)
theorem kd_oFail : (oFail w x y).2.1 ≤ 4 := itc_k (by split <;> exact Nat.le_of_ble_eq_true rfl) (Nat.le_of_ble_eq_true rfl)
theorem kd_oRest : (oRest w x y).2.1 ≤ 4 := itc_k (by split <;> exact Nat.le_of_ble_eq_true rfl) (Nat.le_of_ble_eq_true rfl)
theorem kd_oAck : (oAck w x y z).2.1 ≤ 4 := itc_k (Nat.le_of_ble_eq_true rfl) (Nat.le_of_ble_eq_true rfl)
theorem kd_oQl : (oQl w x y).2.1 ≤ 4 := itc_k (Nat.le_of_ble_eq_true rfl) (Nat.le_of_ble_eq_true rfl)
theorem kd_oQd : (oQd w x y z).2.1 ≤ 4 := itc_k (Nat.le_of_ble_eq_true rfl) (Nat.le_of_ble_eq_true rfl)
theorem kd_oCg : (oCg w x y).2.1 ≤ 4 := itc_k (Nat.le_of_ble_eq_true rfl) (Nat.le_of_ble_eq_true rfl)
theorem kd_oAc : (oAc w x y).2.1 ≤ 4 := itc_k (Nat.le_of_ble_eq_true rfl) (Nat.le_of_ble_eq_true rfl)
theorem kd_oAr : (oAr w x y z).2.1 ≤ 4 := itc_k (by split <;> exact Nat.le_of_ble_eq_true rfl) (Nat.le_of_ble_eq_true rfl)
theorem kd_oRr : (oRr w x y).2.1 ≤ 4 := itc_k (by split <;> exact Nat.le_of_ble_eq_true rfl) (Nat.le_of_ble_eq_true rfl)
theorem kd_oSr : (oSr w x y z).2.1 ≤ 4 := itc_k (by split <;> exact Nat.le_of_ble_eq_true rfl) (Nat.le_of_ble_eq_true rfl)
theorem kd_oRs : (oRs w x y).2.1 ≤ 4 := itc_k (Nat.le_of_ble_eq_true rfl) (Nat.le_of_ble_eq_true rfl)
theorem kd_oCr : (oCr w x).2.1 ≤ 4 := itc_k (Nat.le_of_ble_eq_true rfl) (Nat.le_of_ble_eq_true rfl)
theorem kd_oCl : (oCl w x y).2.1 ≤ 4 := itc_k (Nat.le_of_ble_eq_true rfl) (Nat.le_of_ble_eq_true rfl)
theorem kd_oSnd : (oSnd w x y z).2.1 ≤ 4 := itc_k (Nat.le_of_ble_eq_true rfl) (Nat.le_of_ble_eq_true rfl)
theorem kd_oHt : (oHt w x).2.1 ≤ 4 := itc_k (Nat.le_of_ble_eq_true rfl) (Nat.le_of_ble_eq_true rfl)
theorem kd_oTk : (oTk w).2.1 ≤ 4 := Nat.le_of_ble_eq_true rfl
theorem kd_oGet : (oGet w j).2.1 ≤ 4 := Nat.le_of_ble_eq_true rfl
theorem kd_oIh : (oIh w x y).2.1 ≤ 4 := itc_k (Nat.le_of_ble_eq_true rfl) (Nat.le_of_ble_eq_true rfl)
theorem kd_oSp : (oSp w x).2.1 ≤ 4 := itc_k (Nat.le_of_ble_eq_true rfl) (Nat.le_of_ble_eq_true rfl)
theorem kd_oEc : (oEc w er x).2.1 ≤ 4 := itc_k (Nat.le_of_ble_eq_true rfl) (Nat.le_of_ble_eq_true rfl)
end KD
/-! what the law's switch sees -/
theorem and31 (x : Int32) : ∃ t, t < 32 ∧ x &&& nI 31 = nI t := by
  have hx : x = nI x.toBitVec.toNat := by
    apply Int32.toBitVec_inj.1
    show x.toBitVec = BitVec.ofNat 32 x.toBitVec.toNat
    simp
  have h := nI_and x.toBitVec.toNat 31
  rw [← hx] at h
  have h2 : x.toBitVec.toNat &&& 31 = x.toBitVec.toNat % 32 := Nat.and_two_pow_sub_one_eq_mod x.toBitVec.toNat 5
  exact ⟨x.toBitVec.toNat % 32, Nat.mod_lt _ (by decide), by rw [h, h2]⟩
theorem dg_eq {w er : Nat → Int32} {e0 e1 e2 : Int32} {n : Nat} (h0 : er 0 = e0) (h1 : er 1 = e1) (h2 : er 2 = e2) : mxH w (mxDs w (mxS w (mx (mxC w (mx (mx (mx (mx 12144 e0) e1) e2) (nI n))) (nI (nn w))) (nn w)) 6) = dgs w er n := by
  unfold dgs
  rw [h0, h1, h2]
