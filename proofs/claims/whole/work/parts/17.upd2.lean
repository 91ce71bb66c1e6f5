set_option maxHeartbeats 1000000 in
theorem RC_grt {c : Nat} {S : Nat → Nat → Int32} {w : Nat → Int32} {a k0 : Nat} (ha : a < sn w) (hk0 : k0 < 96) (hc : c < 1000) (hR : RC c S w) : RC (c) (va_up S 17 (upd (S 17) k0 (nI a))) (upd w (366 + k0) (nI (128 * a + k0))) := by
  have h := hR.wf
  have hsn := h.e.2
  have hs2 : sn (upd w (366 + k0) (nI (128 * a + k0))) = sn w := by unfold sn; rw [pk_un (by omega)]
  refine ⟨⟨(by
      try simp (disch := omega) only [nn, mn, ac, le, pq, un, he, tm, hd, sn, am, pk_un, sup_ne] at ⊢
      exact h.n ),
    (fun i hi => by
      try simp (disch := omega) only [nn, mn, ac, le, pq, un, he, tm, hd, sn, am, pk_un, sup_ne] at ⊢
      exact h.m i hi),
    (fun p hp => by
      try simp (disch := omega) only [nn, mn, ac, le, pq, un, he, tm, hd, sn, am, pk_un, sup_ne] at ⊢
      exact h.a p hp),
    (fun i hi j hj hij => by
      try simp (disch := omega) only [nn, mn, ac, le, pq, un, he, tm, hd, sn, am, pk_un, sup_ne] at hij ⊢
      exact h.a0 i hi j hj hij),
    (fun p hp => by
      try simp (disch := omega) only [nn, mn, ac, le, pq, un, he, tm, hd, sn, am, pk_un, sup_ne] at ⊢
      exact h.l p hp),
    (fun p hp hn0 => by
      try simp (disch := omega) only [nn, mn, ac, le, pq, un, he, tm, hd, sn, am, pk_un, sup_ne] at hn0 ⊢
      exact h.l0 p hp hn0),
    (fun p hp j hj => by
      have hb10 : nv (w (21 + p)) ≤ 10 := (h.l p hp).2
      try simp (disch := omega) only [nn, mn, ac, le, pq, un, he, tm, hd, sn, am, pk_un, sup_ne] at hj
      try simp (disch := omega) only [nn, mn, ac, le, pq, un, he, tm, hd, sn, am, pk_un, sup_ne]
      exact h.q p hp j hj),
    (fun d hd6 i hi => by
      try simp (disch := omega) only [nn, mn, ac, le, pq, un, he, tm, hd, sn, am, pk_un, sup_ne] at ⊢
      exact h.s d hd6 i hi),
    (fun d hd6 i hi hne => by
      try simp (disch := omega) only [nn, mn, ac, le, pq, un, he, tm, hd, sn, am, pk_un, sup_ne] at hne ⊢
      exact h.p d hd6 i hi hne),
    (fun k hk => by
      try simp (disch := omega) only [nn, mn, ac, le, pq, un, he, tm, hd, sn, am, pk_un, sup_ne] at ⊢
      exact h.u k hk),
    (by
      try simp (disch := omega) only [nn, mn, ac, le, pq, un, he, tm, hd, sn, am, pk_un, sup_ne] at ⊢
      exact h.h ),
    (fun j hj => by
      have hb24 : nv (w 341) ≤ 24 := h.h.2
      try simp (disch := omega) only [nn, mn, ac, le, pq, un, he, tm, hd, sn, am, pk_un, sup_ne] at hj
      try simp (disch := omega) only [nn, mn, ac, le, pq, un, he, tm, hd, sn, am, pk_un, sup_ne]
      exact h.b j hj),
    (fun k hk => by
      rw [hs2]
      by_cases e : k = k0
      · subst e; rw [upd_eq]; exact Or.inr ⟨a, ha, rfl⟩
      · rw [pk_un (by omega)]; exact h.g k hk),
    (by
      try simp (disch := omega) only [nn, mn, ac, le, pq, un, he, tm, hd, sn, am, pk_un, sup_ne] at ⊢
      exact h.t ),
    (by
      try simp (disch := omega) only [nn, mn, ac, le, pq, un, he, tm, hd, sn, am, pk_un, sup_ne] at ⊢
      exact h.d ),
    (by
      try simp (disch := omega) only [nn, mn, ac, le, pq, un, he, tm, hd, sn, am, pk_un, sup_ne] at ⊢
      exact h.e )⟩,
    (by
      try simp (disch := omega) only [nn, mn, ac, le, pq, un, he, tm, hd, sn, am, pk_un, sup_ne] at ⊢
      exact hR.i ),
    (fun i hi => by
      try simp (disch := omega) only [nn, mn, ac, le, pq, un, he, tm, hd, sn, am, pk_un, sup_ne] at ⊢
      exact hR.m0 i hi),
    (fun i hi => by
      try simp (disch := omega) only [nn, mn, ac, le, pq, un, he, tm, hd, sn, am, pk_un, sup_ne] at ⊢
      exact hR.a i hi),
    (fun p hp => by
      try simp (disch := omega) only [nn, mn, ac, le, pq, un, he, tm, hd, sn, am, pk_un, sup_ne] at ⊢
      exact hR.l0 p hp),
    (fun p hp j hj => by
      have hb10 : nv (w (21 + p)) ≤ 10 := (h.l p hp).2
      try simp (disch := omega) only [nn, mn, ac, le, pq, un, he, tm, hd, sn, am, pk_un, sup_ne] at hj
      try simp (disch := omega) only [nn, mn, ac, le, pq, un, he, tm, hd, sn, am, pk_un, sup_ne]
      exact hR.q p hp j hj),
    (fun d hd6 i hi => by
      try simp (disch := omega) only [nn, mn, ac, le, pq, un, he, tm, hd, sn, am, pk_un, sup_ne] at ⊢
      exact hR.s d hd6 i hi),
    (fun d hd6 i hi => by
      try simp (disch := omega) only [nn, mn, ac, le, pq, un, he, tm, hd, sn, am, pk_un, sup_ne] at ⊢
      exact hR.p d hd6 i hi),
    (fun k hk => by
      try simp (disch := omega) only [nn, mn, ac, le, pq, un, he, tm, hd, sn, am, pk_un, sup_ne] at ⊢
      exact hR.u k hk),
    (fun k hk => by
      rw [sup_eq]
      by_cases e : k = k0
      · subst e; rw [upd_eq, upd_eq, trg_ok (by omega) hk]
      · rw [pk_un e, pk_un (by omega)]; exact hR.g k hk),
    (fun j hj => by
      have hb24 : nv (w 341) ≤ 24 := h.h.2
      try simp (disch := omega) only [nn, mn, ac, le, pq, un, he, tm, hd, sn, am, pk_un, sup_ne] at hj
      try simp (disch := omega) only [nn, mn, ac, le, pq, un, he, tm, hd, sn, am, pk_un, sup_ne]
      exact hR.b j hj)⟩

set_option maxHeartbeats 1000000 in
theorem RC_hold {c : Nat} {S : Nat → Nat → Int32} {w : Nat → Int32} {a k0 : Nat} (hh : he w < 24) (ha : a < sn w) (hk0 : k0 < 96) (hc : c < 1000) (hR : RC c S w) : RC (c) (va_up (va_up S 18 (upd (S 18) (he w) (nI (a * 96 + k0)))) 9 (fun _ => nI (he w + 1))) (upd (upd w (342 + he w) (nI (128 * a + k0))) 341 (nI (he w + 1))) := by
  have h := hR.wf
  have hsn := h.e.2
  have hhx : nv (w 341) < 24 := hh
  have hs2 : sn (upd (upd w (342 + he w) (nI (128 * a + k0))) 341 (nI (he w + 1))) = sn w := by unfold sn; rw [pk_un (by omega), pk_un (by omega)]
  have hh2 : he (upd (upd w (342 + he w) (nI (128 * a + k0))) 341 (nI (he w + 1))) = he w + 1 := by unfold he at hh ⊢; rw [upd_eq, nv_nI (by omega)]
  refine ⟨⟨(by
      try simp (disch := omega) only [nn, mn, ac, le, pq, un, he, tm, hd, sn, am, pk_un, sup_ne] at ⊢
      exact h.n ),
    (fun i hi => by
      try simp (disch := omega) only [nn, mn, ac, le, pq, un, he, tm, hd, sn, am, pk_un, sup_ne] at ⊢
      exact h.m i hi),
    (fun p hp => by
      try simp (disch := omega) only [nn, mn, ac, le, pq, un, he, tm, hd, sn, am, pk_un, sup_ne] at ⊢
      exact h.a p hp),
    (fun i hi j hj hij => by
      try simp (disch := omega) only [nn, mn, ac, le, pq, un, he, tm, hd, sn, am, pk_un, sup_ne] at hij ⊢
      exact h.a0 i hi j hj hij),
    (fun p hp => by
      try simp (disch := omega) only [nn, mn, ac, le, pq, un, he, tm, hd, sn, am, pk_un, sup_ne] at ⊢
      exact h.l p hp),
    (fun p hp hn0 => by
      try simp (disch := omega) only [nn, mn, ac, le, pq, un, he, tm, hd, sn, am, pk_un, sup_ne] at hn0 ⊢
      exact h.l0 p hp hn0),
    (fun p hp j hj => by
      have hb10 : nv (w (21 + p)) ≤ 10 := (h.l p hp).2
      try simp (disch := omega) only [nn, mn, ac, le, pq, un, he, tm, hd, sn, am, pk_un, sup_ne] at hj
      try simp (disch := omega) only [nn, mn, ac, le, pq, un, he, tm, hd, sn, am, pk_un, sup_ne]
      exact h.q p hp j hj),
    (fun d hd6 i hi => by
      try simp (disch := omega) only [nn, mn, ac, le, pq, un, he, tm, hd, sn, am, pk_un, sup_ne] at ⊢
      exact h.s d hd6 i hi),
    (fun d hd6 i hi hne => by
      try simp (disch := omega) only [nn, mn, ac, le, pq, un, he, tm, hd, sn, am, pk_un, sup_ne] at hne ⊢
      exact h.p d hd6 i hi hne),
    (fun k hk => by
      try simp (disch := omega) only [nn, mn, ac, le, pq, un, he, tm, hd, sn, am, pk_un, sup_ne] at ⊢
      exact h.u k hk),
    (by rw [hh2, upd_eq]; exact ⟨rfl, by omega⟩),
    (fun j hj => by
      rw [hh2] at hj
      rw [hs2, pk_un (by omega)]
      by_cases e : j = he w
      · subst e; rw [upd_eq]; exact ⟨a, k0, ha, hk0, rfl⟩
      · rw [pk_un (by omega)]; exact h.b j (by omega)),
    (fun k hk => by
      try simp (disch := omega) only [nn, mn, ac, le, pq, un, he, tm, hd, sn, am, pk_un, sup_ne] at ⊢
      exact h.g k hk),
    (by
      try simp (disch := omega) only [nn, mn, ac, le, pq, un, he, tm, hd, sn, am, pk_un, sup_ne] at ⊢
      exact h.t ),
    (by
      try simp (disch := omega) only [nn, mn, ac, le, pq, un, he, tm, hd, sn, am, pk_un, sup_ne] at ⊢
      exact h.d ),
    (by
      try simp (disch := omega) only [nn, mn, ac, le, pq, un, he, tm, hd, sn, am, pk_un, sup_ne] at ⊢
      exact h.e )⟩,
    ⟨(by (try simp (disch := omega) only [pk_un, sup_ne]); exact hR.i.1), (by (try simp (disch := omega) only [pk_un, sup_ne]); exact hR.i.2.1), (by (try simp (disch := omega) only [pk_un, sup_ne]); exact hR.i.2.2.1), (by (try simp (disch := omega) only [pk_un, sup_ne]); exact hR.i.2.2.2.1), (by (try simp (disch := omega) only [pk_un, sup_ne]); exact hR.i.2.2.2.2.1), (by (try simp (disch := omega) only [pk_un, sup_ne]); exact hR.i.2.2.2.2.2.1), (by (try simp (disch := omega) only [pk_un, sup_ne]); exact hR.i.2.2.2.2.2.2.1), (by (try simp (disch := omega) only [pk_un, sup_ne]); exact hR.i.2.2.2.2.2.2.2.1), (by (try simp (disch := omega) only [pk_un, sup_ne]); exact hR.i.2.2.2.2.2.2.2.2.1), (by rw [sup_eq, upd_eq])⟩,
    (fun i hi => by
      try simp (disch := omega) only [nn, mn, ac, le, pq, un, he, tm, hd, sn, am, pk_un, sup_ne] at ⊢
      exact hR.m0 i hi),
    (fun i hi => by
      try simp (disch := omega) only [nn, mn, ac, le, pq, un, he, tm, hd, sn, am, pk_un, sup_ne] at ⊢
      exact hR.a i hi),
    (fun p hp => by
      try simp (disch := omega) only [nn, mn, ac, le, pq, un, he, tm, hd, sn, am, pk_un, sup_ne] at ⊢
      exact hR.l0 p hp),
    (fun p hp j hj => by
      have hb10 : nv (w (21 + p)) ≤ 10 := (h.l p hp).2
      try simp (disch := omega) only [nn, mn, ac, le, pq, un, he, tm, hd, sn, am, pk_un, sup_ne] at hj
      try simp (disch := omega) only [nn, mn, ac, le, pq, un, he, tm, hd, sn, am, pk_un, sup_ne]
      exact hR.q p hp j hj),
    (fun d hd6 i hi => by
      try simp (disch := omega) only [nn, mn, ac, le, pq, un, he, tm, hd, sn, am, pk_un, sup_ne] at ⊢
      exact hR.s d hd6 i hi),
    (fun d hd6 i hi => by
      try simp (disch := omega) only [nn, mn, ac, le, pq, un, he, tm, hd, sn, am, pk_un, sup_ne] at ⊢
      exact hR.p d hd6 i hi),
    (fun k hk => by
      try simp (disch := omega) only [nn, mn, ac, le, pq, un, he, tm, hd, sn, am, pk_un, sup_ne] at ⊢
      exact hR.u k hk),
    (fun k hk => by
      try simp (disch := omega) only [nn, mn, ac, le, pq, un, he, tm, hd, sn, am, pk_un, sup_ne] at ⊢
      exact hR.g k hk),
    (fun j hj => by
      rw [hh2] at hj
      rw [sup_ne (by decide), sup_eq, pk_un (f := upd w _ _) (by omega)]
      by_cases e : j = he w
      · subst e; rw [upd_eq, upd_eq, trm_ok (by omega) hk0]
      · rw [pk_un e, pk_un (by omega)]; exact hR.b j (by omega))⟩

set_option maxHeartbeats 1000000 in
theorem RC_buf {c : Nat} {S : Nat → Nat → Int32} {w : Nat → Int32} {a k0 j0 : Nat} (hj0 : j0 < he w) (ha : a < sn w) (hk0 : k0 < 96) (hc : c < 1000) (hR : RC c S w) : RC (c) (va_up S 18 (upd (S 18) j0 (nI (a * 96 + k0)))) (upd w (342 + j0) (nI (128 * a + k0))) := by
  have h := hR.wf
  have hsn := h.e.2
  have hhx := h.h.2
  have hs2 : sn (upd w (342 + j0) (nI (128 * a + k0))) = sn w := by unfold sn; rw [pk_un (by omega)]
  have hh2 : he (upd w (342 + j0) (nI (128 * a + k0))) = he w := by unfold he; rw [pk_un (by omega)]
  refine ⟨⟨(by
      try simp (disch := omega) only [nn, mn, ac, le, pq, un, he, tm, hd, sn, am, pk_un, sup_ne] at ⊢
      exact h.n ),
    (fun i hi => by
      try simp (disch := omega) only [nn, mn, ac, le, pq, un, he, tm, hd, sn, am, pk_un, sup_ne] at ⊢
      exact h.m i hi),
    (fun p hp => by
      try simp (disch := omega) only [nn, mn, ac, le, pq, un, he, tm, hd, sn, am, pk_un, sup_ne] at ⊢
      exact h.a p hp),
    (fun i hi j hj hij => by
      try simp (disch := omega) only [nn, mn, ac, le, pq, un, he, tm, hd, sn, am, pk_un, sup_ne] at hij ⊢
      exact h.a0 i hi j hj hij),
    (fun p hp => by
      try simp (disch := omega) only [nn, mn, ac, le, pq, un, he, tm, hd, sn, am, pk_un, sup_ne] at ⊢
      exact h.l p hp),
    (fun p hp hn0 => by
      try simp (disch := omega) only [nn, mn, ac, le, pq, un, he, tm, hd, sn, am, pk_un, sup_ne] at hn0 ⊢
      exact h.l0 p hp hn0),
    (fun p hp j hj => by
      have hb10 : nv (w (21 + p)) ≤ 10 := (h.l p hp).2
      try simp (disch := omega) only [nn, mn, ac, le, pq, un, he, tm, hd, sn, am, pk_un, sup_ne] at hj
      try simp (disch := omega) only [nn, mn, ac, le, pq, un, he, tm, hd, sn, am, pk_un, sup_ne]
      exact h.q p hp j hj),
    (fun d hd6 i hi => by
      try simp (disch := omega) only [nn, mn, ac, le, pq, un, he, tm, hd, sn, am, pk_un, sup_ne] at ⊢
      exact h.s d hd6 i hi),
    (fun d hd6 i hi hne => by
      try simp (disch := omega) only [nn, mn, ac, le, pq, un, he, tm, hd, sn, am, pk_un, sup_ne] at hne ⊢
      exact h.p d hd6 i hi hne),
    (fun k hk => by
      try simp (disch := omega) only [nn, mn, ac, le, pq, un, he, tm, hd, sn, am, pk_un, sup_ne] at ⊢
      exact h.u k hk),
    (by
      try simp (disch := omega) only [nn, mn, ac, le, pq, un, he, tm, hd, sn, am, pk_un, sup_ne] at ⊢
      exact h.h ),
    (fun j hj => by
      rw [hh2] at hj
      rw [hs2]
      by_cases e : j = j0
      · subst e; rw [upd_eq]; exact ⟨a, k0, ha, hk0, rfl⟩
      · rw [pk_un (by omega)]; exact h.b j (by omega)),
    (fun k hk => by
      try simp (disch := omega) only [nn, mn, ac, le, pq, un, he, tm, hd, sn, am, pk_un, sup_ne] at ⊢
      exact h.g k hk),
    (by
      try simp (disch := omega) only [nn, mn, ac, le, pq, un, he, tm, hd, sn, am, pk_un, sup_ne] at ⊢
      exact h.t ),
    (by
      try simp (disch := omega) only [nn, mn, ac, le, pq, un, he, tm, hd, sn, am, pk_un, sup_ne] at ⊢
      exact h.d ),
    (by
      try simp (disch := omega) only [nn, mn, ac, le, pq, un, he, tm, hd, sn, am, pk_un, sup_ne] at ⊢
      exact h.e )⟩,
    (by
      try simp (disch := omega) only [nn, mn, ac, le, pq, un, he, tm, hd, sn, am, pk_un, sup_ne] at ⊢
      exact hR.i ),
    (fun i hi => by
      try simp (disch := omega) only [nn, mn, ac, le, pq, un, he, tm, hd, sn, am, pk_un, sup_ne] at ⊢
      exact hR.m0 i hi),
    (fun i hi => by
      try simp (disch := omega) only [nn, mn, ac, le, pq, un, he, tm, hd, sn, am, pk_un, sup_ne] at ⊢
      exact hR.a i hi),
    (fun p hp => by
      try simp (disch := omega) only [nn, mn, ac, le, pq, un, he, tm, hd, sn, am, pk_un, sup_ne] at ⊢
      exact hR.l0 p hp),
    (fun p hp j hj => by
      have hb10 : nv (w (21 + p)) ≤ 10 := (h.l p hp).2
      try simp (disch := omega) only [nn, mn, ac, le, pq, un, he, tm, hd, sn, am, pk_un, sup_ne] at hj
      try simp (disch := omega) only [nn, mn, ac, le, pq, un, he, tm, hd, sn, am, pk_un, sup_ne]
      exact hR.q p hp j hj),
    (fun d hd6 i hi => by
      try simp (disch := omega) only [nn, mn, ac, le, pq, un, he, tm, hd, sn, am, pk_un, sup_ne] at ⊢
      exact hR.s d hd6 i hi),
    (fun d hd6 i hi => by
      try simp (disch := omega) only [nn, mn, ac, le, pq, un, he, tm, hd, sn, am, pk_un, sup_ne] at ⊢
      exact hR.p d hd6 i hi),
    (fun k hk => by
      try simp (disch := omega) only [nn, mn, ac, le, pq, un, he, tm, hd, sn, am, pk_un, sup_ne] at ⊢
      exact hR.u k hk),
    (fun k hk => by
      try simp (disch := omega) only [nn, mn, ac, le, pq, un, he, tm, hd, sn, am, pk_un, sup_ne] at ⊢
      exact hR.g k hk),
    (fun j hj => by
      rw [hh2] at hj
      rw [sup_eq]
      by_cases e : j = j0
      · subst e; rw [upd_eq, upd_eq, trm_ok (by omega) hk0]
      · rw [pk_un e, pk_un (by omega)]; exact hR.b j (by omega))⟩

set_option maxHeartbeats 1000000 in
theorem RC_cut {c : Nat} {S : Nat → Nat → Int32} {w : Nat → Int32} {q0 : Nat} (hq0 : q0 ≤ he w) (hR : RC c S w) : RC (c) (va_up S 9 (fun _ => nI q0)) (upd w 341 (nI q0)) := by
  have h := hR.wf
  have hhx := h.h.2
  have hh2 : he (upd w 341 (nI q0)) = q0 := by unfold he; rw [upd_eq, nv_nI (by omega)]
  refine ⟨⟨(by
      try simp (disch := omega) only [nn, mn, ac, le, pq, un, he, tm, hd, sn, am, pk_un, sup_ne] at ⊢
      exact h.n ),
    (fun i hi => by
      try simp (disch := omega) only [nn, mn, ac, le, pq, un, he, tm, hd, sn, am, pk_un, sup_ne] at ⊢
      exact h.m i hi),
    (fun p hp => by
      try simp (disch := omega) only [nn, mn, ac, le, pq, un, he, tm, hd, sn, am, pk_un, sup_ne] at ⊢
      exact h.a p hp),
    (fun i hi j hj hij => by
      try simp (disch := omega) only [nn, mn, ac, le, pq, un, he, tm, hd, sn, am, pk_un, sup_ne] at hij ⊢
      exact h.a0 i hi j hj hij),
    (fun p hp => by
      try simp (disch := omega) only [nn, mn, ac, le, pq, un, he, tm, hd, sn, am, pk_un, sup_ne] at ⊢
      exact h.l p hp),
    (fun p hp hn0 => by
      try simp (disch := omega) only [nn, mn, ac, le, pq, un, he, tm, hd, sn, am, pk_un, sup_ne] at hn0 ⊢
      exact h.l0 p hp hn0),
    (fun p hp j hj => by
      have hb10 : nv (w (21 + p)) ≤ 10 := (h.l p hp).2
      try simp (disch := omega) only [nn, mn, ac, le, pq, un, he, tm, hd, sn, am, pk_un, sup_ne] at hj
      try simp (disch := omega) only [nn, mn, ac, le, pq, un, he, tm, hd, sn, am, pk_un, sup_ne]
      exact h.q p hp j hj),
    (fun d hd6 i hi => by
      try simp (disch := omega) only [nn, mn, ac, le, pq, un, he, tm, hd, sn, am, pk_un, sup_ne] at ⊢
      exact h.s d hd6 i hi),
    (fun d hd6 i hi hne => by
      try simp (disch := omega) only [nn, mn, ac, le, pq, un, he, tm, hd, sn, am, pk_un, sup_ne] at hne ⊢
      exact h.p d hd6 i hi hne),
    (fun k hk => by
      try simp (disch := omega) only [nn, mn, ac, le, pq, un, he, tm, hd, sn, am, pk_un, sup_ne] at ⊢
      exact h.u k hk),
    (by rw [hh2, upd_eq]; exact ⟨rfl, by omega⟩),
    (fun j hj => by
      rw [hh2] at hj
      rw [pk_un (by omega), show sn (upd w 341 (nI q0)) = sn w by unfold sn; rw [pk_un (by omega)]]; exact h.b j (by omega)),
    (fun k hk => by
      try simp (disch := omega) only [nn, mn, ac, le, pq, un, he, tm, hd, sn, am, pk_un, sup_ne] at ⊢
      exact h.g k hk),
    (by
      try simp (disch := omega) only [nn, mn, ac, le, pq, un, he, tm, hd, sn, am, pk_un, sup_ne] at ⊢
      exact h.t ),
    (by
      try simp (disch := omega) only [nn, mn, ac, le, pq, un, he, tm, hd, sn, am, pk_un, sup_ne] at ⊢
      exact h.d ),
    (by
      try simp (disch := omega) only [nn, mn, ac, le, pq, un, he, tm, hd, sn, am, pk_un, sup_ne] at ⊢
      exact h.e )⟩,
    ⟨(by (try simp (disch := omega) only [pk_un, sup_ne]); exact hR.i.1), (by (try simp (disch := omega) only [pk_un, sup_ne]); exact hR.i.2.1), (by (try simp (disch := omega) only [pk_un, sup_ne]); exact hR.i.2.2.1), (by (try simp (disch := omega) only [pk_un, sup_ne]); exact hR.i.2.2.2.1), (by (try simp (disch := omega) only [pk_un, sup_ne]); exact hR.i.2.2.2.2.1), (by (try simp (disch := omega) only [pk_un, sup_ne]); exact hR.i.2.2.2.2.2.1), (by (try simp (disch := omega) only [pk_un, sup_ne]); exact hR.i.2.2.2.2.2.2.1), (by (try simp (disch := omega) only [pk_un, sup_ne]); exact hR.i.2.2.2.2.2.2.2.1), (by (try simp (disch := omega) only [pk_un, sup_ne]); exact hR.i.2.2.2.2.2.2.2.2.1), (by rw [sup_eq, upd_eq])⟩,
    (fun i hi => by
      try simp (disch := omega) only [nn, mn, ac, le, pq, un, he, tm, hd, sn, am, pk_un, sup_ne] at ⊢
      exact hR.m0 i hi),
    (fun i hi => by
      try simp (disch := omega) only [nn, mn, ac, le, pq, un, he, tm, hd, sn, am, pk_un, sup_ne] at ⊢
      exact hR.a i hi),
    (fun p hp => by
      try simp (disch := omega) only [nn, mn, ac, le, pq, un, he, tm, hd, sn, am, pk_un, sup_ne] at ⊢
      exact hR.l0 p hp),
    (fun p hp j hj => by
      have hb10 : nv (w (21 + p)) ≤ 10 := (h.l p hp).2
      try simp (disch := omega) only [nn, mn, ac, le, pq, un, he, tm, hd, sn, am, pk_un, sup_ne] at hj
      try simp (disch := omega) only [nn, mn, ac, le, pq, un, he, tm, hd, sn, am, pk_un, sup_ne]
      exact hR.q p hp j hj),
    (fun d hd6 i hi => by
      try simp (disch := omega) only [nn, mn, ac, le, pq, un, he, tm, hd, sn, am, pk_un, sup_ne] at ⊢
      exact hR.s d hd6 i hi),
    (fun d hd6 i hi => by
      try simp (disch := omega) only [nn, mn, ac, le, pq, un, he, tm, hd, sn, am, pk_un, sup_ne] at ⊢
      exact hR.p d hd6 i hi),
    (fun k hk => by
      try simp (disch := omega) only [nn, mn, ac, le, pq, un, he, tm, hd, sn, am, pk_un, sup_ne] at ⊢
      exact hR.u k hk),
    (fun k hk => by
      try simp (disch := omega) only [nn, mn, ac, le, pq, un, he, tm, hd, sn, am, pk_un, sup_ne] at ⊢
      exact hR.g k hk),
    (fun j hj => by
      rw [hh2] at hj
      rw [sup_ne (by decide), pk_un (by omega)]; exact hR.b j (by omega))⟩

set_option maxHeartbeats 1000000 in
theorem RC_sent {c : Nat} {S : Nat → Nat → Int32} {w : Nat → Int32} (hc : c < 1000) (hR : RC c S w) : RC (c + 1) (va_up S 2 (fun _ => nI (sn w + 1))) (upd w 464 (nI (sn w + 1))) := by
  have h := hR.wf
  have hsn := h.e.2
  have hs2 : sn (upd w 464 (nI (sn w + 1))) = sn w + 1 := by unfold sn at hsn ⊢; rw [upd_eq, nv_nI (by omega)]
  refine ⟨⟨(by
      try simp (disch := omega) only [nn, mn, ac, le, pq, un, he, tm, hd, sn, am, pk_un, sup_ne] at ⊢
      exact h.n ),
    (fun i hi => by
      try simp (disch := omega) only [nn, mn, ac, le, pq, un, he, tm, hd, sn, am, pk_un, sup_ne] at ⊢
      exact h.m i hi),
    (fun p hp => by
      try simp (disch := omega) only [nn, mn, ac, le, pq, un, he, tm, hd, sn, am, pk_un, sup_ne] at ⊢
      exact h.a p hp),
    (fun i hi j hj hij => by
      try simp (disch := omega) only [nn, mn, ac, le, pq, un, he, tm, hd, sn, am, pk_un, sup_ne] at hij ⊢
      exact h.a0 i hi j hj hij),
    (fun p hp => by
      try simp (disch := omega) only [nn, mn, ac, le, pq, un, he, tm, hd, sn, am, pk_un, sup_ne] at ⊢
      exact h.l p hp),
    (fun p hp hn0 => by
      try simp (disch := omega) only [nn, mn, ac, le, pq, un, he, tm, hd, sn, am, pk_un, sup_ne] at hn0 ⊢
      exact h.l0 p hp hn0),
    (fun p hp j hj => by
      have hb10 : nv (w (21 + p)) ≤ 10 := (h.l p hp).2
      simp (disch := omega) only [le, pk_un] at hj
      rw [hs2, pk_un (by omega)]; exact okM_mono (h.q p hp j hj) (by omega)),
    (fun d hd6 i hi => by
      try simp (disch := omega) only [nn, mn, ac, le, pq, un, he, tm, hd, sn, am, pk_un, sup_ne] at ⊢
      exact h.s d hd6 i hi),
    (fun d hd6 i hi hne => by
      try simp (disch := omega) only [nn, mn, ac, le, pq, un, he, tm, hd, sn, am, pk_un, sup_ne] at hne ⊢
      exact h.p d hd6 i hi hne),
    (fun k hk => by simp (disch := omega) only [un, tm, pk_un]; exact ⟨(h.u k hk).1, Nat.le_trans (h.u k hk).2.1 (by omega), (h.u k hk).2.2⟩),
    (by
      try simp (disch := omega) only [nn, mn, ac, le, pq, un, he, tm, hd, sn, am, pk_un, sup_ne] at ⊢
      exact h.h ),
    (fun j hj => by
      have hb24 : nv (w 341) ≤ 24 := h.h.2
      simp (disch := omega) only [he, pk_un] at hj
      rw [hs2, pk_un (by omega)]; exact okM_mono (h.b j hj) (by omega)),
    (fun k hk => by
      rw [hs2, pk_un (by omega)]
      rcases h.g k hk with e | ⟨a, ha, e⟩
      · exact Or.inl e
      · exact Or.inr ⟨a, by omega, e⟩),
    (by simp (disch := omega) only [tm, pk_un]; exact ⟨h.t.1, Nat.le_succ_of_le h.t.2⟩),
    (by
      try simp (disch := omega) only [nn, mn, ac, le, pq, un, he, tm, hd, sn, am, pk_un, sup_ne] at ⊢
      exact h.d ),
    (by rw [hs2, upd_eq]; exact ⟨rfl, by omega⟩)⟩,
    ⟨(by (try simp (disch := omega) only [pk_un, sup_ne]); exact hR.i.1), (by (try simp (disch := omega) only [pk_un, sup_ne]); exact hR.i.2.1), (by rw [sup_eq, upd_eq]), (by (try simp (disch := omega) only [pk_un, sup_ne]); exact hR.i.2.2.2.1), (by (try simp (disch := omega) only [pk_un, sup_ne]); exact hR.i.2.2.2.2.1), (by (try simp (disch := omega) only [pk_un, sup_ne]); exact hR.i.2.2.2.2.2.1), (by (try simp (disch := omega) only [pk_un, sup_ne]); exact hR.i.2.2.2.2.2.2.1), (by (try simp (disch := omega) only [pk_un, sup_ne]); exact hR.i.2.2.2.2.2.2.2.1), (by (try simp (disch := omega) only [pk_un, sup_ne]); exact hR.i.2.2.2.2.2.2.2.2.1), (by (try simp (disch := omega) only [pk_un, sup_ne]); exact hR.i.2.2.2.2.2.2.2.2.2)⟩,
    (fun i hi => by
      try simp (disch := omega) only [nn, mn, ac, le, pq, un, he, tm, hd, sn, am, pk_un, sup_ne] at ⊢
      exact hR.m0 i hi),
    (fun i hi => by
      try simp (disch := omega) only [nn, mn, ac, le, pq, un, he, tm, hd, sn, am, pk_un, sup_ne] at ⊢
      exact hR.a i hi),
    (fun p hp => by
      try simp (disch := omega) only [nn, mn, ac, le, pq, un, he, tm, hd, sn, am, pk_un, sup_ne] at ⊢
      exact hR.l0 p hp),
    (fun p hp j hj => by
      have hb10 : nv (w (21 + p)) ≤ 10 := (h.l p hp).2
      try simp (disch := omega) only [nn, mn, ac, le, pq, un, he, tm, hd, sn, am, pk_un, sup_ne] at hj
      try simp (disch := omega) only [nn, mn, ac, le, pq, un, he, tm, hd, sn, am, pk_un, sup_ne]
      exact hR.q p hp j hj),
    (fun d hd6 i hi => by
      try simp (disch := omega) only [nn, mn, ac, le, pq, un, he, tm, hd, sn, am, pk_un, sup_ne] at ⊢
      exact hR.s d hd6 i hi),
    (fun d hd6 i hi => by
      try simp (disch := omega) only [nn, mn, ac, le, pq, un, he, tm, hd, sn, am, pk_un, sup_ne] at ⊢
      exact hR.p d hd6 i hi),
    (fun k hk => by
      try simp (disch := omega) only [nn, mn, ac, le, pq, un, he, tm, hd, sn, am, pk_un, sup_ne] at ⊢
      exact hR.u k hk),
    (fun k hk => by
      try simp (disch := omega) only [nn, mn, ac, le, pq, un, he, tm, hd, sn, am, pk_un, sup_ne] at ⊢
      exact hR.g k hk),
    (fun j hj => by
      have hb24 : nv (w 341) ≤ 24 := h.h.2
      try simp (disch := omega) only [nn, mn, ac, le, pq, un, he, tm, hd, sn, am, pk_un, sup_ne] at hj
      try simp (disch := omega) only [nn, mn, ac, le, pq, un, he, tm, hd, sn, am, pk_un, sup_ne]
      exact hR.b j hj)⟩

set_option maxHeartbeats 1000000 in
theorem RC_until {c : Nat} {S : Nat → Nat → Int32} {w : Nat → Int32} {k0 : Nat} (hk0 : k0 < 96) (hh : ¬ hd w = 0) (hc : c < 1000) (hR : RC c S w) : RC (c) (va_up S 16 (upd (S 16) k0 (nI (tm w + hd w)))) (upd w (245 + k0) (nI (tm w + hd w))) := by
  have h := hR.wf
  have ht := h.t.2
  have hd9 := h.d.2
  have ht2 : tm (upd w (245 + k0) (nI (tm w + hd w))) = tm w := by unfold tm; rw [pk_un (by omega)]
  have hu : ∀ k, k < 96 → un (upd w (245 + k0) (nI (tm w + hd w))) k = if k = k0 then tm w + hd w else un w k := fun k hk => by
    unfold un
    by_cases e : k = k0
    · subst e; rw [upd_eq, if_pos rfl, nv_nI (by omega)]
    · rw [if_neg e, pk_un (by omega)]
  refine ⟨⟨(by
      try simp (disch := omega) only [nn, mn, ac, le, pq, un, he, tm, hd, sn, am, pk_un, sup_ne] at ⊢
      exact h.n ),
    (fun i hi => by
      try simp (disch := omega) only [nn, mn, ac, le, pq, un, he, tm, hd, sn, am, pk_un, sup_ne] at ⊢
      exact h.m i hi),
    (fun p hp => by
      try simp (disch := omega) only [nn, mn, ac, le, pq, un, he, tm, hd, sn, am, pk_un, sup_ne] at ⊢
      exact h.a p hp),
    (fun i hi j hj hij => by
      try simp (disch := omega) only [nn, mn, ac, le, pq, un, he, tm, hd, sn, am, pk_un, sup_ne] at hij ⊢
      exact h.a0 i hi j hj hij),
    (fun p hp => by
      try simp (disch := omega) only [nn, mn, ac, le, pq, un, he, tm, hd, sn, am, pk_un, sup_ne] at ⊢
      exact h.l p hp),
    (fun p hp hn0 => by
      try simp (disch := omega) only [nn, mn, ac, le, pq, un, he, tm, hd, sn, am, pk_un, sup_ne] at hn0 ⊢
      exact h.l0 p hp hn0),
    (fun p hp j hj => by
      have hb10 : nv (w (21 + p)) ≤ 10 := (h.l p hp).2
      try simp (disch := omega) only [nn, mn, ac, le, pq, un, he, tm, hd, sn, am, pk_un, sup_ne] at hj
      try simp (disch := omega) only [nn, mn, ac, le, pq, un, he, tm, hd, sn, am, pk_un, sup_ne]
      exact h.q p hp j hj),
    (fun d hd6 i hi => by
      try simp (disch := omega) only [nn, mn, ac, le, pq, un, he, tm, hd, sn, am, pk_un, sup_ne] at ⊢
      exact h.s d hd6 i hi),
    (fun d hd6 i hi hne => by
      try simp (disch := omega) only [nn, mn, ac, le, pq, un, he, tm, hd, sn, am, pk_un, sup_ne] at hne ⊢
      exact h.p d hd6 i hi hne),
    (fun k hk => by
      rw [hu k hk, ht2]
      by_cases e : k = k0
      · subst e; rw [if_pos rfl, upd_eq]; exact ⟨rfl, by omega, by omega⟩
      · rw [if_neg e, pk_un (by omega)]; exact h.u k hk),
    (by
      try simp (disch := omega) only [nn, mn, ac, le, pq, un, he, tm, hd, sn, am, pk_un, sup_ne] at ⊢
      exact h.h ),
    (fun j hj => by
      have hb24 : nv (w 341) ≤ 24 := h.h.2
      try simp (disch := omega) only [nn, mn, ac, le, pq, un, he, tm, hd, sn, am, pk_un, sup_ne] at hj
      try simp (disch := omega) only [nn, mn, ac, le, pq, un, he, tm, hd, sn, am, pk_un, sup_ne]
      exact h.b j hj),
    (fun k hk => by
      try simp (disch := omega) only [nn, mn, ac, le, pq, un, he, tm, hd, sn, am, pk_un, sup_ne] at ⊢
      exact h.g k hk),
    (by
      try simp (disch := omega) only [nn, mn, ac, le, pq, un, he, tm, hd, sn, am, pk_un, sup_ne] at ⊢
      exact h.t ),
    (by
      try simp (disch := omega) only [nn, mn, ac, le, pq, un, he, tm, hd, sn, am, pk_un, sup_ne] at ⊢
      exact h.d ),
    (by
      try simp (disch := omega) only [nn, mn, ac, le, pq, un, he, tm, hd, sn, am, pk_un, sup_ne] at ⊢
      exact h.e )⟩,
    (by
      try simp (disch := omega) only [nn, mn, ac, le, pq, un, he, tm, hd, sn, am, pk_un, sup_ne] at ⊢
      exact hR.i ),
    (fun i hi => by
      try simp (disch := omega) only [nn, mn, ac, le, pq, un, he, tm, hd, sn, am, pk_un, sup_ne] at ⊢
      exact hR.m0 i hi),
    (fun i hi => by
      try simp (disch := omega) only [nn, mn, ac, le, pq, un, he, tm, hd, sn, am, pk_un, sup_ne] at ⊢
      exact hR.a i hi),
    (fun p hp => by
      try simp (disch := omega) only [nn, mn, ac, le, pq, un, he, tm, hd, sn, am, pk_un, sup_ne] at ⊢
      exact hR.l0 p hp),
    (fun p hp j hj => by
      have hb10 : nv (w (21 + p)) ≤ 10 := (h.l p hp).2
      try simp (disch := omega) only [nn, mn, ac, le, pq, un, he, tm, hd, sn, am, pk_un, sup_ne] at hj
      try simp (disch := omega) only [nn, mn, ac, le, pq, un, he, tm, hd, sn, am, pk_un, sup_ne]
      exact hR.q p hp j hj),
    (fun d hd6 i hi => by
      try simp (disch := omega) only [nn, mn, ac, le, pq, un, he, tm, hd, sn, am, pk_un, sup_ne] at ⊢
      exact hR.s d hd6 i hi),
    (fun d hd6 i hi => by
      try simp (disch := omega) only [nn, mn, ac, le, pq, un, he, tm, hd, sn, am, pk_un, sup_ne] at ⊢
      exact hR.p d hd6 i hi),
    (fun k hk => by
      rw [hu k hk, ht2, sup_eq]
      by_cases e : k = k0
      · subst e; rw [if_pos rfl, upd_eq, upd_eq]; exact ⟨fun e => absurd e (by omega), fun _ => rfl⟩
      · rw [if_neg e, pk_un e, pk_un (by omega)]; exact hR.u k hk),
    (fun k hk => by
      try simp (disch := omega) only [nn, mn, ac, le, pq, un, he, tm, hd, sn, am, pk_un, sup_ne] at ⊢
      exact hR.g k hk),
    (fun j hj => by
      have hb24 : nv (w 341) ≤ 24 := h.h.2
      try simp (disch := omega) only [nn, mn, ac, le, pq, un, he, tm, hd, sn, am, pk_un, sup_ne] at hj
      try simp (disch := omega) only [nn, mn, ac, le, pq, un, he, tm, hd, sn, am, pk_un, sup_ne]
      exact hR.b j hj)⟩

set_option maxHeartbeats 1000000 in
theorem RC_ht {c : Nat} {S : Nat → Nat → Int32} {w : Nat → Int32} {q0 : Nat} (hq0 : q0 ≤ 9) (hR : RC c S w) : RC (c) (va_up S 1 (fun _ => nI q0)) (upd w 463 (nI q0)) := by
  have h := hR.wf
  have hh2 : hd (upd w 463 (nI q0)) = q0 := by unfold hd; rw [upd_eq, nv_nI (by omega)]
  refine ⟨⟨(by
      try simp (disch := omega) only [nn, mn, ac, le, pq, un, he, tm, hd, sn, am, pk_un, sup_ne] at ⊢
      exact h.n ),
    (fun i hi => by
      try simp (disch := omega) only [nn, mn, ac, le, pq, un, he, tm, hd, sn, am, pk_un, sup_ne] at ⊢
      exact h.m i hi),
    (fun p hp => by
      try simp (disch := omega) only [nn, mn, ac, le, pq, un, he, tm, hd, sn, am, pk_un, sup_ne] at ⊢
      exact h.a p hp),
    (fun i hi j hj hij => by
      try simp (disch := omega) only [nn, mn, ac, le, pq, un, he, tm, hd, sn, am, pk_un, sup_ne] at hij ⊢
      exact h.a0 i hi j hj hij),
    (fun p hp => by
      try simp (disch := omega) only [nn, mn, ac, le, pq, un, he, tm, hd, sn, am, pk_un, sup_ne] at ⊢
      exact h.l p hp),
    (fun p hp hn0 => by
      try simp (disch := omega) only [nn, mn, ac, le, pq, un, he, tm, hd, sn, am, pk_un, sup_ne] at hn0 ⊢
      exact h.l0 p hp hn0),
    (fun p hp j hj => by
      have hb10 : nv (w (21 + p)) ≤ 10 := (h.l p hp).2
      try simp (disch := omega) only [nn, mn, ac, le, pq, un, he, tm, hd, sn, am, pk_un, sup_ne] at hj
      try simp (disch := omega) only [nn, mn, ac, le, pq, un, he, tm, hd, sn, am, pk_un, sup_ne]
      exact h.q p hp j hj),
    (fun d hd6 i hi => by
      try simp (disch := omega) only [nn, mn, ac, le, pq, un, he, tm, hd, sn, am, pk_un, sup_ne] at ⊢
      exact h.s d hd6 i hi),
    (fun d hd6 i hi hne => by
      try simp (disch := omega) only [nn, mn, ac, le, pq, un, he, tm, hd, sn, am, pk_un, sup_ne] at hne ⊢
      exact h.p d hd6 i hi hne),
    (fun k hk => by
      try simp (disch := omega) only [nn, mn, ac, le, pq, un, he, tm, hd, sn, am, pk_un, sup_ne] at ⊢
      exact h.u k hk),
    (by
      try simp (disch := omega) only [nn, mn, ac, le, pq, un, he, tm, hd, sn, am, pk_un, sup_ne] at ⊢
      exact h.h ),
    (fun j hj => by
      have hb24 : nv (w 341) ≤ 24 := h.h.2
      try simp (disch := omega) only [nn, mn, ac, le, pq, un, he, tm, hd, sn, am, pk_un, sup_ne] at hj
      try simp (disch := omega) only [nn, mn, ac, le, pq, un, he, tm, hd, sn, am, pk_un, sup_ne]
      exact h.b j hj),
    (fun k hk => by
      try simp (disch := omega) only [nn, mn, ac, le, pq, un, he, tm, hd, sn, am, pk_un, sup_ne] at ⊢
      exact h.g k hk),
    (by
      try simp (disch := omega) only [nn, mn, ac, le, pq, un, he, tm, hd, sn, am, pk_un, sup_ne] at ⊢
      exact h.t ),
    (by rw [hh2, upd_eq]; exact ⟨rfl, hq0⟩),
    (by
      try simp (disch := omega) only [nn, mn, ac, le, pq, un, he, tm, hd, sn, am, pk_un, sup_ne] at ⊢
      exact h.e )⟩,
    ⟨(by (try simp (disch := omega) only [pk_un, sup_ne]); exact hR.i.1), (by rw [sup_eq, upd_eq]), (by (try simp (disch := omega) only [pk_un, sup_ne]); exact hR.i.2.2.1), (by (try simp (disch := omega) only [pk_un, sup_ne]); exact hR.i.2.2.2.1), (by (try simp (disch := omega) only [pk_un, sup_ne]); exact hR.i.2.2.2.2.1), (by (try simp (disch := omega) only [pk_un, sup_ne]); exact hR.i.2.2.2.2.2.1), (by (try simp (disch := omega) only [pk_un, sup_ne]); exact hR.i.2.2.2.2.2.2.1), (by (try simp (disch := omega) only [pk_un, sup_ne]); exact hR.i.2.2.2.2.2.2.2.1), (by (try simp (disch := omega) only [pk_un, sup_ne]); exact hR.i.2.2.2.2.2.2.2.2.1), (by (try simp (disch := omega) only [pk_un, sup_ne]); exact hR.i.2.2.2.2.2.2.2.2.2)⟩,
    (fun i hi => by
      try simp (disch := omega) only [nn, mn, ac, le, pq, un, he, tm, hd, sn, am, pk_un, sup_ne] at ⊢
      exact hR.m0 i hi),
    (fun i hi => by
      try simp (disch := omega) only [nn, mn, ac, le, pq, un, he, tm, hd, sn, am, pk_un, sup_ne] at ⊢
      exact hR.a i hi),
    (fun p hp => by
      try simp (disch := omega) only [nn, mn, ac, le, pq, un, he, tm, hd, sn, am, pk_un, sup_ne] at ⊢
      exact hR.l0 p hp),
    (fun p hp j hj => by
      have hb10 : nv (w (21 + p)) ≤ 10 := (h.l p hp).2
      try simp (disch := omega) only [nn, mn, ac, le, pq, un, he, tm, hd, sn, am, pk_un, sup_ne] at hj
      try simp (disch := omega) only [nn, mn, ac, le, pq, un, he, tm, hd, sn, am, pk_un, sup_ne]
      exact hR.q p hp j hj),
    (fun d hd6 i hi => by
      try simp (disch := omega) only [nn, mn, ac, le, pq, un, he, tm, hd, sn, am, pk_un, sup_ne] at ⊢
      exact hR.s d hd6 i hi),
    (fun d hd6 i hi => by
      try simp (disch := omega) only [nn, mn, ac, le, pq, un, he, tm, hd, sn, am, pk_un, sup_ne] at ⊢
      exact hR.p d hd6 i hi),
    (fun k hk => by
      try simp (disch := omega) only [nn, mn, ac, le, pq, un, he, tm, hd, sn, am, pk_un, sup_ne] at ⊢
      exact hR.u k hk),
    (fun k hk => by
      try simp (disch := omega) only [nn, mn, ac, le, pq, un, he, tm, hd, sn, am, pk_un, sup_ne] at ⊢
      exact hR.g k hk),
    (fun j hj => by
      have hb24 : nv (w 341) ≤ 24 := h.h.2
      try simp (disch := omega) only [nn, mn, ac, le, pq, un, he, tm, hd, sn, am, pk_un, sup_ne] at hj
      try simp (disch := omega) only [nn, mn, ac, le, pq, un, he, tm, hd, sn, am, pk_un, sup_ne]
      exact hR.b j hj)⟩

set_option maxHeartbeats 1000000 in
theorem RC_mv {c : Nat} {S : Nat → Nat → Int32} {w : Nat → Int32} {p0 j0 j1 : Nat} (hp0 : p0 < 16) (hj0 : j0 < le w p0) (hj1 : j1 < le w p0) (hR : RC c S w) : RC (c) (va_up S 13 (upd (S 13) (p0 * 10 + j0) (S 13 (p0 * 10 + j1)))) (upd w (37 + 10 * p0 + j0) (w (37 + 10 * p0 + j1))) := by
  have h := hR.wf
  have hl10 := (h.l p0 hp0).2
  refine ⟨⟨(by
      try simp (disch := omega) only [nn, mn, ac, le, pq, un, he, tm, hd, sn, am, pk_un, sup_ne] at ⊢
      exact h.n ),
    (fun i hi => by
      try simp (disch := omega) only [nn, mn, ac, le, pq, un, he, tm, hd, sn, am, pk_un, sup_ne] at ⊢
      exact h.m i hi),
    (fun p hp => by
      try simp (disch := omega) only [nn, mn, ac, le, pq, un, he, tm, hd, sn, am, pk_un, sup_ne] at ⊢
      exact h.a p hp),
    (fun i hi j hj hij => by
      try simp (disch := omega) only [nn, mn, ac, le, pq, un, he, tm, hd, sn, am, pk_un, sup_ne] at hij ⊢
      exact h.a0 i hi j hj hij),
    (fun p hp => by
      try simp (disch := omega) only [nn, mn, ac, le, pq, un, he, tm, hd, sn, am, pk_un, sup_ne] at ⊢
      exact h.l p hp),
    (fun p hp hn0 => by
      try simp (disch := omega) only [nn, mn, ac, le, pq, un, he, tm, hd, sn, am, pk_un, sup_ne] at hn0 ⊢
      exact h.l0 p hp hn0),
    (fun p hp j hj => by
      have hl1 := (h.l p hp).2
      have hs2 : sn (upd w (37 + 10 * p0 + j0) (w (37 + 10 * p0 + j1))) = sn w := by unfold sn; rw [pk_un (by omega)]
      have hj2 : j < le w p := by simp (disch := omega) only [le, pk_un] at hj; exact hj
      rw [hs2]
      by_cases e : 37 + 10 * p + j = 37 + 10 * p0 + j0
      · rw [e, upd_eq]; exact h.q p0 hp0 j1 hj1
      · rw [pk_un e]; exact h.q p hp j hj2),
    (fun d hd6 i hi => by
      try simp (disch := omega) only [nn, mn, ac, le, pq, un, he, tm, hd, sn, am, pk_un, sup_ne] at ⊢
      exact h.s d hd6 i hi),
    (fun d hd6 i hi hne => by
      try simp (disch := omega) only [nn, mn, ac, le, pq, un, he, tm, hd, sn, am, pk_un, sup_ne] at hne ⊢
      exact h.p d hd6 i hi hne),
    (fun k hk => by
      try simp (disch := omega) only [nn, mn, ac, le, pq, un, he, tm, hd, sn, am, pk_un, sup_ne] at ⊢
      exact h.u k hk),
    (by
      try simp (disch := omega) only [nn, mn, ac, le, pq, un, he, tm, hd, sn, am, pk_un, sup_ne] at ⊢
      exact h.h ),
    (fun j hj => by
      have hb24 : nv (w 341) ≤ 24 := h.h.2
      try simp (disch := omega) only [nn, mn, ac, le, pq, un, he, tm, hd, sn, am, pk_un, sup_ne] at hj
      try simp (disch := omega) only [nn, mn, ac, le, pq, un, he, tm, hd, sn, am, pk_un, sup_ne]
      exact h.b j hj),
    (fun k hk => by
      try simp (disch := omega) only [nn, mn, ac, le, pq, un, he, tm, hd, sn, am, pk_un, sup_ne] at ⊢
      exact h.g k hk),
    (by
      try simp (disch := omega) only [nn, mn, ac, le, pq, un, he, tm, hd, sn, am, pk_un, sup_ne] at ⊢
      exact h.t ),
    (by
      try simp (disch := omega) only [nn, mn, ac, le, pq, un, he, tm, hd, sn, am, pk_un, sup_ne] at ⊢
      exact h.d ),
    (by
      try simp (disch := omega) only [nn, mn, ac, le, pq, un, he, tm, hd, sn, am, pk_un, sup_ne] at ⊢
      exact h.e )⟩,
    (by
      try simp (disch := omega) only [nn, mn, ac, le, pq, un, he, tm, hd, sn, am, pk_un, sup_ne] at ⊢
      exact hR.i ),
    (fun i hi => by
      try simp (disch := omega) only [nn, mn, ac, le, pq, un, he, tm, hd, sn, am, pk_un, sup_ne] at ⊢
      exact hR.m0 i hi),
    (fun i hi => by
      try simp (disch := omega) only [nn, mn, ac, le, pq, un, he, tm, hd, sn, am, pk_un, sup_ne] at ⊢
      exact hR.a i hi),
    (fun p hp => by
      try simp (disch := omega) only [nn, mn, ac, le, pq, un, he, tm, hd, sn, am, pk_un, sup_ne] at ⊢
      exact hR.l0 p hp),
    (fun p hp j hj => by
      have hl1 := (h.l p hp).2
      have hj2 : j < le w p := by simp (disch := omega) only [le, pk_un] at hj; exact hj
      rw [sup_eq]
      by_cases e : 37 + 10 * p + j = 37 + 10 * p0 + j0
      · rw [e, show p * 10 + j = p0 * 10 + j0 by omega, upd_eq, upd_eq]; exact hR.q p0 hp0 j1 hj1
      · rw [pk_un e, pk_un (by omega)]; exact hR.q p hp j hj2),
    (fun d hd6 i hi => by
      try simp (disch := omega) only [nn, mn, ac, le, pq, un, he, tm, hd, sn, am, pk_un, sup_ne] at ⊢
      exact hR.s d hd6 i hi),
    (fun d hd6 i hi => by
      try simp (disch := omega) only [nn, mn, ac, le, pq, un, he, tm, hd, sn, am, pk_un, sup_ne] at ⊢
      exact hR.p d hd6 i hi),
    (fun k hk => by
      try simp (disch := omega) only [nn, mn, ac, le, pq, un, he, tm, hd, sn, am, pk_un, sup_ne] at ⊢
      exact hR.u k hk),
    (fun k hk => by
      try simp (disch := omega) only [nn, mn, ac, le, pq, un, he, tm, hd, sn, am, pk_un, sup_ne] at ⊢
      exact hR.g k hk),
    (fun j hj => by
      have hb24 : nv (w 341) ≤ 24 := h.h.2
      try simp (disch := omega) only [nn, mn, ac, le, pq, un, he, tm, hd, sn, am, pk_un, sup_ne] at hj
      try simp (disch := omega) only [nn, mn, ac, le, pq, un, he, tm, hd, sn, am, pk_un, sup_ne]
      exact hR.b j hj)⟩

set_option maxHeartbeats 1000000 in
theorem RC_len {c : Nat} {S : Nat → Nat → Int32} {w : Nat → Int32} {p0 q0 : Nat} (hp0 : p0 < 16) (hq0 : q0 ≤ le w p0) (hR : RC c S w) : RC (c) (va_up S 12 (upd (S 12) p0 (nI q0))) (upd w (21 + p0) (nI q0)) := by
  have h := hR.wf
  have hl10 := (h.l p0 hp0).2
  have hle : ∀ p, p < 16 → le (upd w (21 + p0) (nI q0)) p = if p = p0 then q0 else le w p := fun p hp => by
    unfold le at hl10 hq0 ⊢
    by_cases e : p = p0
    · subst e; rw [upd_eq, if_pos rfl, nv_nI (by omega)]
    · rw [if_neg e, pk_un (by omega)]
  refine ⟨⟨(by
      try simp (disch := omega) only [nn, mn, ac, le, pq, un, he, tm, hd, sn, am, pk_un, sup_ne] at ⊢
      exact h.n ),
    (fun i hi => by
      try simp (disch := omega) only [nn, mn, ac, le, pq, un, he, tm, hd, sn, am, pk_un, sup_ne] at ⊢
      exact h.m i hi),
    (fun p hp => by
      try simp (disch := omega) only [nn, mn, ac, le, pq, un, he, tm, hd, sn, am, pk_un, sup_ne] at ⊢
      exact h.a p hp),
    (fun i hi j hj hij => by
      try simp (disch := omega) only [nn, mn, ac, le, pq, un, he, tm, hd, sn, am, pk_un, sup_ne] at hij ⊢
      exact h.a0 i hi j hj hij),
    (fun p hp => by
      by_cases e : p = p0
      · subst e; rw [hle p hp, if_pos rfl, upd_eq]; exact ⟨rfl, by omega⟩
      · rw [hle p hp, if_neg e, pk_un (by omega)]; exact h.l p hp),
    (fun p hp hn0 => by
      have hz := h.l0 p hp (by simp (disch := omega) only [nn, pk_un] at hn0; exact hn0)
      rw [hle p hp]
      by_cases e : p = p0
      · subst e; rw [if_pos rfl]; omega
      · rw [if_neg e]; exact hz),
    (fun p hp j hj => by
      have hl1 := (h.l p hp).2
      have hj2 : j < le w p := by
        rw [hle p hp] at hj
        by_cases e : p = p0
        · subst e; rw [if_pos rfl] at hj; omega
        · rw [if_neg e] at hj; exact hj
      rw [show sn (upd w (21 + p0) (nI q0)) = sn w by unfold sn; rw [pk_un (by omega)], pk_un (by omega)]; exact h.q p hp j hj2),
    (fun d hd6 i hi => by
      try simp (disch := omega) only [nn, mn, ac, le, pq, un, he, tm, hd, sn, am, pk_un, sup_ne] at ⊢
      exact h.s d hd6 i hi),
    (fun d hd6 i hi hne => by
      try simp (disch := omega) only [nn, mn, ac, le, pq, un, he, tm, hd, sn, am, pk_un, sup_ne] at hne ⊢
      exact h.p d hd6 i hi hne),
    (fun k hk => by
      try simp (disch := omega) only [nn, mn, ac, le, pq, un, he, tm, hd, sn, am, pk_un, sup_ne] at ⊢
      exact h.u k hk),
    (by
      try simp (disch := omega) only [nn, mn, ac, le, pq, un, he, tm, hd, sn, am, pk_un, sup_ne] at ⊢
      exact h.h ),
    (fun j hj => by
      have hb24 : nv (w 341) ≤ 24 := h.h.2
      try simp (disch := omega) only [nn, mn, ac, le, pq, un, he, tm, hd, sn, am, pk_un, sup_ne] at hj
      try simp (disch := omega) only [nn, mn, ac, le, pq, un, he, tm, hd, sn, am, pk_un, sup_ne]
      exact h.b j hj),
    (fun k hk => by
      try simp (disch := omega) only [nn, mn, ac, le, pq, un, he, tm, hd, sn, am, pk_un, sup_ne] at ⊢
      exact h.g k hk),
    (by
      try simp (disch := omega) only [nn, mn, ac, le, pq, un, he, tm, hd, sn, am, pk_un, sup_ne] at ⊢
      exact h.t ),
    (by
      try simp (disch := omega) only [nn, mn, ac, le, pq, un, he, tm, hd, sn, am, pk_un, sup_ne] at ⊢
      exact h.d ),
    (by
      try simp (disch := omega) only [nn, mn, ac, le, pq, un, he, tm, hd, sn, am, pk_un, sup_ne] at ⊢
      exact h.e )⟩,
    (by
      try simp (disch := omega) only [nn, mn, ac, le, pq, un, he, tm, hd, sn, am, pk_un, sup_ne] at ⊢
      exact hR.i ),
    (fun i hi => by
      try simp (disch := omega) only [nn, mn, ac, le, pq, un, he, tm, hd, sn, am, pk_un, sup_ne] at ⊢
      exact hR.m0 i hi),
    (fun i hi => by
      try simp (disch := omega) only [nn, mn, ac, le, pq, un, he, tm, hd, sn, am, pk_un, sup_ne] at ⊢
      exact hR.a i hi),
    (fun p hp => by
      rw [sup_eq]
      by_cases e : p = p0
      · subst e; rw [upd_eq, upd_eq]
      · rw [pk_un e, pk_un (by omega)]; exact hR.l0 p hp),
    (fun p hp j hj => by
      have hl1 := (h.l p hp).2
      have hj2 : j < le w p := by
        rw [hle p hp] at hj
        by_cases e : p = p0
        · subst e; rw [if_pos rfl] at hj; omega
        · rw [if_neg e] at hj; exact hj
      rw [sup_ne (by decide), pk_un (by omega)]; exact hR.q p hp j hj2),
    (fun d hd6 i hi => by
      try simp (disch := omega) only [nn, mn, ac, le, pq, un, he, tm, hd, sn, am, pk_un, sup_ne] at ⊢
      exact hR.s d hd6 i hi),
    (fun d hd6 i hi => by
      try simp (disch := omega) only [nn, mn, ac, le, pq, un, he, tm, hd, sn, am, pk_un, sup_ne] at ⊢
      exact hR.p d hd6 i hi),
    (fun k hk => by
      try simp (disch := omega) only [nn, mn, ac, le, pq, un, he, tm, hd, sn, am, pk_un, sup_ne] at ⊢
      exact hR.u k hk),
    (fun k hk => by
      try simp (disch := omega) only [nn, mn, ac, le, pq, un, he, tm, hd, sn, am, pk_un, sup_ne] at ⊢
      exact hR.g k hk),
    (fun j hj => by
      have hb24 : nv (w 341) ≤ 24 := h.h.2
      try simp (disch := omega) only [nn, mn, ac, le, pq, un, he, tm, hd, sn, am, pk_un, sup_ne] at hj
      try simp (disch := omega) only [nn, mn, ac, le, pq, un, he, tm, hd, sn, am, pk_un, sup_ne]
      exact hR.b j hj)⟩

set_option maxHeartbeats 1000000 in
theorem RC_flag {c : Nat} {S : Nat → Nat → Int32} {w : Nat → Int32} {i0 l0 v0 : Nat} (hi0 : i0 < 4) (hl0 : l0 < mn w i0) (hv : v0 ≤ 1) (hR : RC c S w) : RC (c) (va_up S 11 (upd (S 11) i0 (nI (am w i0 + v0 * 2 ^ l0 - ac w (4 * i0 + l0) * 2 ^ l0)))) (upd w (5 + (4 * i0 + l0)) (nI v0)) := by
  have h := hR.wf
  have hm4 := (h.m i0 hi0).2
  have hac : ∀ p, p < 16 → ac (upd w (5 + (4 * i0 + l0)) (nI v0)) p = if p = 4 * i0 + l0 then v0 else ac w p := fun p hp => by
    unfold ac
    by_cases e : p = 4 * i0 + l0
    · rw [if_pos e, e, upd_eq, nv_nI (by omega)]
    · rw [if_neg e, pk_un (by omega)]
  have hmm : ∀ i, i < 4 → mn (upd w (5 + (4 * i0 + l0)) (nI v0)) i = mn w i := fun i hi => by unfold mn; rw [pk_un (by omega)]
  have ham : ∀ i, i < 4 → am (upd w (5 + (4 * i0 + l0)) (nI v0)) i = if i = i0 then am w i0 + v0 * 2 ^ l0 - ac w (4 * i0 + l0) * 2 ^ l0 else am w i := fun i hi => by
    have a0 := (h.a (4 * i) (by omega)).2
    have a1 := (h.a (4 * i + 1) (by omega)).2
    have a2 := (h.a (4 * i + 2) (by omega)).2
    have a3 := (h.a (4 * i + 3) (by omega)).2
    unfold am
    rw [hac _ (by omega), hac _ (by omega), hac _ (by omega), hac _ (by omega)]
    by_cases e : i = i0
    · subst e
      rcases (show l0 = 0 ∨ l0 = 1 ∨ l0 = 2 ∨ l0 = 3 by omega) with rfl | rfl | rfl | rfl <;> simp <;> omega
    · rw [if_neg (by omega), if_neg (by omega), if_neg (by omega), if_neg (by omega), if_neg e]
  refine ⟨⟨(by
      try simp (disch := omega) only [nn, mn, ac, le, pq, un, he, tm, hd, sn, am, pk_un, sup_ne] at ⊢
      exact h.n ),
    (fun i hi => by
      try simp (disch := omega) only [nn, mn, ac, le, pq, un, he, tm, hd, sn, am, pk_un, sup_ne] at ⊢
      exact h.m i hi),
    (fun p hp => by
      rw [hac p hp]
      by_cases e : p = 4 * i0 + l0
      · rw [if_pos e, e, upd_eq]; exact ⟨rfl, hv⟩
      · rw [if_neg e, pk_un (by omega)]; exact h.a p hp),
    (fun i hi j hj hij => by
      rw [hmm i hi] at hij
      rw [hac _ (by omega), if_neg (fun e => by
        have e1 : i = i0 := by omega
        subst e1
        omega)]
      exact h.a0 i hi j hj hij),
    (fun p hp => by
      try simp (disch := omega) only [nn, mn, ac, le, pq, un, he, tm, hd, sn, am, pk_un, sup_ne] at ⊢
      exact h.l p hp),
    (fun p hp hn0 => by
      try simp (disch := omega) only [nn, mn, ac, le, pq, un, he, tm, hd, sn, am, pk_un, sup_ne] at hn0 ⊢
      exact h.l0 p hp hn0),
    (fun p hp j hj => by
      have hb10 : nv (w (21 + p)) ≤ 10 := (h.l p hp).2
      try simp (disch := omega) only [nn, mn, ac, le, pq, un, he, tm, hd, sn, am, pk_un, sup_ne] at hj
      try simp (disch := omega) only [nn, mn, ac, le, pq, un, he, tm, hd, sn, am, pk_un, sup_ne]
      exact h.q p hp j hj),
    (fun d hd6 i hi => by
      try simp (disch := omega) only [nn, mn, ac, le, pq, un, he, tm, hd, sn, am, pk_un, sup_ne] at ⊢
      exact h.s d hd6 i hi),
    (fun d hd6 i hi hne => by
      try simp (disch := omega) only [nn, mn, ac, le, pq, un, he, tm, hd, sn, am, pk_un, sup_ne] at hne ⊢
      exact h.p d hd6 i hi hne),
    (fun k hk => by
      try simp (disch := omega) only [nn, mn, ac, le, pq, un, he, tm, hd, sn, am, pk_un, sup_ne] at ⊢
      exact h.u k hk),
    (by
      try simp (disch := omega) only [nn, mn, ac, le, pq, un, he, tm, hd, sn, am, pk_un, sup_ne] at ⊢
      exact h.h ),
    (fun j hj => by
      have hb24 : nv (w 341) ≤ 24 := h.h.2
      try simp (disch := omega) only [nn, mn, ac, le, pq, un, he, tm, hd, sn, am, pk_un, sup_ne] at hj
      try simp (disch := omega) only [nn, mn, ac, le, pq, un, he, tm, hd, sn, am, pk_un, sup_ne]
      exact h.b j hj),
    (fun k hk => by
      try simp (disch := omega) only [nn, mn, ac, le, pq, un, he, tm, hd, sn, am, pk_un, sup_ne] at ⊢
      exact h.g k hk),
    (by
      try simp (disch := omega) only [nn, mn, ac, le, pq, un, he, tm, hd, sn, am, pk_un, sup_ne] at ⊢
      exact h.t ),
    (by
      try simp (disch := omega) only [nn, mn, ac, le, pq, un, he, tm, hd, sn, am, pk_un, sup_ne] at ⊢
      exact h.d ),
    (by
      try simp (disch := omega) only [nn, mn, ac, le, pq, un, he, tm, hd, sn, am, pk_un, sup_ne] at ⊢
      exact h.e )⟩,
    (by
      try simp (disch := omega) only [nn, mn, ac, le, pq, un, he, tm, hd, sn, am, pk_un, sup_ne] at ⊢
      exact hR.i ),
    (fun i hi => by
      try simp (disch := omega) only [nn, mn, ac, le, pq, un, he, tm, hd, sn, am, pk_un, sup_ne] at ⊢
      exact hR.m0 i hi),
    (fun i hi => by
      rw [ham i hi, sup_eq]
      by_cases e : i = i0
      · subst e; rw [upd_eq, if_pos rfl]
      · rw [pk_un e, if_neg e]; exact hR.a i hi),
    (fun p hp => by
      try simp (disch := omega) only [nn, mn, ac, le, pq, un, he, tm, hd, sn, am, pk_un, sup_ne] at ⊢
      exact hR.l0 p hp),
    (fun p hp j hj => by
      have hb10 : nv (w (21 + p)) ≤ 10 := (h.l p hp).2
      try simp (disch := omega) only [nn, mn, ac, le, pq, un, he, tm, hd, sn, am, pk_un, sup_ne] at hj
      try simp (disch := omega) only [nn, mn, ac, le, pq, un, he, tm, hd, sn, am, pk_un, sup_ne]
      exact hR.q p hp j hj),
    (fun d hd6 i hi => by
      try simp (disch := omega) only [nn, mn, ac, le, pq, un, he, tm, hd, sn, am, pk_un, sup_ne] at ⊢
      exact hR.s d hd6 i hi),
    (fun d hd6 i hi => by
      try simp (disch := omega) only [nn, mn, ac, le, pq, un, he, tm, hd, sn, am, pk_un, sup_ne] at ⊢
      exact hR.p d hd6 i hi),
    (fun k hk => by
      try simp (disch := omega) only [nn, mn, ac, le, pq, un, he, tm, hd, sn, am, pk_un, sup_ne] at ⊢
      exact hR.u k hk),
    (fun k hk => by
      try simp (disch := omega) only [nn, mn, ac, le, pq, un, he, tm, hd, sn, am, pk_un, sup_ne] at ⊢
      exact hR.g k hk),
    (fun j hj => by
      have hb24 : nv (w 341) ≤ 24 := h.h.2
      try simp (disch := omega) only [nn, mn, ac, le, pq, un, he, tm, hd, sn, am, pk_un, sup_ne] at hj
      try simp (disch := omega) only [nn, mn, ac, le, pq, un, he, tm, hd, sn, am, pk_un, sup_ne]
      exact hR.b j hj)⟩

set_option maxHeartbeats 1000000 in
theorem RC_rst {c : Nat} {S : Nat → Nat → Int32} {w : Nat → Int32} {d0 i0 : Nat} {x : Int32} (hd0 : d0 < 6) (hi0 : i0 < 4) (hx : okS x) (hpr : ¬ x = -1 → w (221 + 4 * d0 + i0) = nI (pq w d0 i0) ∧ pq w d0 i0 ≤ 2) (hR : RC c S w) : RC (c) (va_up S 14 (upd (S 14) (d0 * 4 + i0) x)) (upd w (197 + 4 * d0 + i0) x) := by
  have h := hR.wf
  refine ⟨⟨(by
      try simp (disch := omega) only [nn, mn, ac, le, pq, un, he, tm, hd, sn, am, pk_un, sup_ne] at ⊢
      exact h.n ),
    (fun i hi => by
      try simp (disch := omega) only [nn, mn, ac, le, pq, un, he, tm, hd, sn, am, pk_un, sup_ne] at ⊢
      exact h.m i hi),
    (fun p hp => by
      try simp (disch := omega) only [nn, mn, ac, le, pq, un, he, tm, hd, sn, am, pk_un, sup_ne] at ⊢
      exact h.a p hp),
    (fun i hi j hj hij => by
      try simp (disch := omega) only [nn, mn, ac, le, pq, un, he, tm, hd, sn, am, pk_un, sup_ne] at hij ⊢
      exact h.a0 i hi j hj hij),
    (fun p hp => by
      try simp (disch := omega) only [nn, mn, ac, le, pq, un, he, tm, hd, sn, am, pk_un, sup_ne] at ⊢
      exact h.l p hp),
    (fun p hp hn0 => by
      try simp (disch := omega) only [nn, mn, ac, le, pq, un, he, tm, hd, sn, am, pk_un, sup_ne] at hn0 ⊢
      exact h.l0 p hp hn0),
    (fun p hp j hj => by
      have hb10 : nv (w (21 + p)) ≤ 10 := (h.l p hp).2
      try simp (disch := omega) only [nn, mn, ac, le, pq, un, he, tm, hd, sn, am, pk_un, sup_ne] at hj
      try simp (disch := omega) only [nn, mn, ac, le, pq, un, he, tm, hd, sn, am, pk_un, sup_ne]
      exact h.q p hp j hj),
    (fun d hd6 i hi => by
      by_cases e : 197 + 4 * d + i = 197 + 4 * d0 + i0
      · rw [e, upd_eq]; exact hx
      · rw [pk_un e]; exact h.s d hd6 i hi),
    (fun d hd6 i hi hne => by
      have hq : pq (upd w (197 + 4 * d0 + i0) x) d i = pq w d i := by unfold pq; rw [pk_un (by omega)]
      rw [hq, pk_un (show 221 + 4 * d + i ≠ 197 + 4 * d0 + i0 by omega)]
      by_cases e : 197 + 4 * d + i = 197 + 4 * d0 + i0
      · rw [e, upd_eq] at hne
        have e1 : d = d0 := by omega
        have e2 : i = i0 := by omega
        subst e1 e2; exact hpr hne
      · rw [pk_un e] at hne; exact h.p d hd6 i hi hne),
    (fun k hk => by
      try simp (disch := omega) only [nn, mn, ac, le, pq, un, he, tm, hd, sn, am, pk_un, sup_ne] at ⊢
      exact h.u k hk),
    (by
      try simp (disch := omega) only [nn, mn, ac, le, pq, un, he, tm, hd, sn, am, pk_un, sup_ne] at ⊢
      exact h.h ),
    (fun j hj => by
      have hb24 : nv (w 341) ≤ 24 := h.h.2
      try simp (disch := omega) only [nn, mn, ac, le, pq, un, he, tm, hd, sn, am, pk_un, sup_ne] at hj
      try simp (disch := omega) only [nn, mn, ac, le, pq, un, he, tm, hd, sn, am, pk_un, sup_ne]
      exact h.b j hj),
    (fun k hk => by
      try simp (disch := omega) only [nn, mn, ac, le, pq, un, he, tm, hd, sn, am, pk_un, sup_ne] at ⊢
      exact h.g k hk),
    (by
      try simp (disch := omega) only [nn, mn, ac, le, pq, un, he, tm, hd, sn, am, pk_un, sup_ne] at ⊢
      exact h.t ),
    (by
      try simp (disch := omega) only [nn, mn, ac, le, pq, un, he, tm, hd, sn, am, pk_un, sup_ne] at ⊢
      exact h.d ),
    (by
      try simp (disch := omega) only [nn, mn, ac, le, pq, un, he, tm, hd, sn, am, pk_un, sup_ne] at ⊢
      exact h.e )⟩,
    (by
      try simp (disch := omega) only [nn, mn, ac, le, pq, un, he, tm, hd, sn, am, pk_un, sup_ne] at ⊢
      exact hR.i ),
    (fun i hi => by
      try simp (disch := omega) only [nn, mn, ac, le, pq, un, he, tm, hd, sn, am, pk_un, sup_ne] at ⊢
      exact hR.m0 i hi),
    (fun i hi => by
      try simp (disch := omega) only [nn, mn, ac, le, pq, un, he, tm, hd, sn, am, pk_un, sup_ne] at ⊢
      exact hR.a i hi),
    (fun p hp => by
      try simp (disch := omega) only [nn, mn, ac, le, pq, un, he, tm, hd, sn, am, pk_un, sup_ne] at ⊢
      exact hR.l0 p hp),
    (fun p hp j hj => by
      have hb10 : nv (w (21 + p)) ≤ 10 := (h.l p hp).2
      try simp (disch := omega) only [nn, mn, ac, le, pq, un, he, tm, hd, sn, am, pk_un, sup_ne] at hj
      try simp (disch := omega) only [nn, mn, ac, le, pq, un, he, tm, hd, sn, am, pk_un, sup_ne]
      exact hR.q p hp j hj),
    (fun d hd6 i hi => by
      rw [sup_eq]
      by_cases e : 197 + 4 * d + i = 197 + 4 * d0 + i0
      · rw [e, show d * 4 + i = d0 * 4 + i0 by omega, upd_eq, upd_eq]
      · rw [pk_un e, pk_un (by omega)]; exact hR.s d hd6 i hi),
    (fun d hd6 i hi => by
      try simp (disch := omega) only [nn, mn, ac, le, pq, un, he, tm, hd, sn, am, pk_un, sup_ne] at ⊢
      exact hR.p d hd6 i hi),
    (fun k hk => by
      try simp (disch := omega) only [nn, mn, ac, le, pq, un, he, tm, hd, sn, am, pk_un, sup_ne] at ⊢
      exact hR.u k hk),
    (fun k hk => by
      try simp (disch := omega) only [nn, mn, ac, le, pq, un, he, tm, hd, sn, am, pk_un, sup_ne] at ⊢
      exact hR.g k hk),
    (fun j hj => by
      have hb24 : nv (w 341) ≤ 24 := h.h.2
      try simp (disch := omega) only [nn, mn, ac, le, pq, un, he, tm, hd, sn, am, pk_un, sup_ne] at hj
      try simp (disch := omega) only [nn, mn, ac, le, pq, un, he, tm, hd, sn, am, pk_un, sup_ne]
      exact hR.b j hj)⟩

set_option maxHeartbeats 1000000 in
theorem RC_rpr {c : Nat} {S : Nat → Nat → Int32} {w : Nat → Int32} {d0 i0 : Nat} {x : Int32} (hd0 : d0 < 6) (hi0 : i0 < 4) (hx : ¬ w (197 + 4 * d0 + i0) = -1 → ∃ q, q ≤ 2 ∧ x = nI q) (hR : RC c S w) : RC (c) (va_up S 15 (upd (S 15) (d0 * 4 + i0) x)) (upd w (221 + 4 * d0 + i0) x) := by
  have h := hR.wf
  refine ⟨⟨(by
      try simp (disch := omega) only [nn, mn, ac, le, pq, un, he, tm, hd, sn, am, pk_un, sup_ne] at ⊢
      exact h.n ),
    (fun i hi => by
      try simp (disch := omega) only [nn, mn, ac, le, pq, un, he, tm, hd, sn, am, pk_un, sup_ne] at ⊢
      exact h.m i hi),
    (fun p hp => by
      try simp (disch := omega) only [nn, mn, ac, le, pq, un, he, tm, hd, sn, am, pk_un, sup_ne] at ⊢
      exact h.a p hp),
    (fun i hi j hj hij => by
      try simp (disch := omega) only [nn, mn, ac, le, pq, un, he, tm, hd, sn, am, pk_un, sup_ne] at hij ⊢
      exact h.a0 i hi j hj hij),
    (fun p hp => by
      try simp (disch := omega) only [nn, mn, ac, le, pq, un, he, tm, hd, sn, am, pk_un, sup_ne] at ⊢
      exact h.l p hp),
    (fun p hp hn0 => by
      try simp (disch := omega) only [nn, mn, ac, le, pq, un, he, tm, hd, sn, am, pk_un, sup_ne] at hn0 ⊢
      exact h.l0 p hp hn0),
    (fun p hp j hj => by
      have hb10 : nv (w (21 + p)) ≤ 10 := (h.l p hp).2
      try simp (disch := omega) only [nn, mn, ac, le, pq, un, he, tm, hd, sn, am, pk_un, sup_ne] at hj
      try simp (disch := omega) only [nn, mn, ac, le, pq, un, he, tm, hd, sn, am, pk_un, sup_ne]
      exact h.q p hp j hj),
    (fun d hd6 i hi => by
      try simp (disch := omega) only [nn, mn, ac, le, pq, un, he, tm, hd, sn, am, pk_un, sup_ne] at ⊢
      exact h.s d hd6 i hi),
    (fun d hd6 i hi hne => by
      rw [pk_un (by omega)] at hne
      unfold pq
      by_cases e : 221 + 4 * d + i = 221 + 4 * d0 + i0
      · have e1 : d = d0 := by omega
        have e2 : i = i0 := by omega
        subst e1 e2
        obtain ⟨q, hq, rfl⟩ := hx hne
        rw [upd_eq, nv_nI (by omega)]; exact ⟨rfl, hq⟩
      · rw [pk_un e]; exact h.p d hd6 i hi hne),
    (fun k hk => by
      try simp (disch := omega) only [nn, mn, ac, le, pq, un, he, tm, hd, sn, am, pk_un, sup_ne] at ⊢
      exact h.u k hk),
    (by
      try simp (disch := omega) only [nn, mn, ac, le, pq, un, he, tm, hd, sn, am, pk_un, sup_ne] at ⊢
      exact h.h ),
    (fun j hj => by
      have hb24 : nv (w 341) ≤ 24 := h.h.2
      try simp (disch := omega) only [nn, mn, ac, le, pq, un, he, tm, hd, sn, am, pk_un, sup_ne] at hj
      try simp (disch := omega) only [nn, mn, ac, le, pq, un, he, tm, hd, sn, am, pk_un, sup_ne]
      exact h.b j hj),
    (fun k hk => by
      try simp (disch := omega) only [nn, mn, ac, le, pq, un, he, tm, hd, sn, am, pk_un, sup_ne] at ⊢
      exact h.g k hk),
    (by
      try simp (disch := omega) only [nn, mn, ac, le, pq, un, he, tm, hd, sn, am, pk_un, sup_ne] at ⊢
      exact h.t ),
    (by
      try simp (disch := omega) only [nn, mn, ac, le, pq, un, he, tm, hd, sn, am, pk_un, sup_ne] at ⊢
      exact h.d ),
    (by
      try simp (disch := omega) only [nn, mn, ac, le, pq, un, he, tm, hd, sn, am, pk_un, sup_ne] at ⊢
      exact h.e )⟩,
    (by
      try simp (disch := omega) only [nn, mn, ac, le, pq, un, he, tm, hd, sn, am, pk_un, sup_ne] at ⊢
      exact hR.i ),
    (fun i hi => by
      try simp (disch := omega) only [nn, mn, ac, le, pq, un, he, tm, hd, sn, am, pk_un, sup_ne] at ⊢
      exact hR.m0 i hi),
    (fun i hi => by
      try simp (disch := omega) only [nn, mn, ac, le, pq, un, he, tm, hd, sn, am, pk_un, sup_ne] at ⊢
      exact hR.a i hi),
    (fun p hp => by
      try simp (disch := omega) only [nn, mn, ac, le, pq, un, he, tm, hd, sn, am, pk_un, sup_ne] at ⊢
      exact hR.l0 p hp),
    (fun p hp j hj => by
      have hb10 : nv (w (21 + p)) ≤ 10 := (h.l p hp).2
      try simp (disch := omega) only [nn, mn, ac, le, pq, un, he, tm, hd, sn, am, pk_un, sup_ne] at hj
      try simp (disch := omega) only [nn, mn, ac, le, pq, un, he, tm, hd, sn, am, pk_un, sup_ne]
      exact hR.q p hp j hj),
    (fun d hd6 i hi => by
      try simp (disch := omega) only [nn, mn, ac, le, pq, un, he, tm, hd, sn, am, pk_un, sup_ne] at ⊢
      exact hR.s d hd6 i hi),
    (fun d hd6 i hi => by
      rw [sup_eq]
      by_cases e : 221 + 4 * d + i = 221 + 4 * d0 + i0
      · rw [e, show d * 4 + i = d0 * 4 + i0 by omega, upd_eq, upd_eq]
      · rw [pk_un e, pk_un (by omega)]; exact hR.p d hd6 i hi),
    (fun k hk => by
      try simp (disch := omega) only [nn, mn, ac, le, pq, un, he, tm, hd, sn, am, pk_un, sup_ne] at ⊢
      exact hR.u k hk),
    (fun k hk => by
      try simp (disch := omega) only [nn, mn, ac, le, pq, un, he, tm, hd, sn, am, pk_un, sup_ne] at ⊢
      exact hR.g k hk),
    (fun j hj => by
      have hb24 : nv (w 341) ≤ 24 := h.h.2
      try simp (disch := omega) only [nn, mn, ac, le, pq, un, he, tm, hd, sn, am, pk_un, sup_ne] at hj
      try simp (disch := omega) only [nn, mn, ac, le, pq, un, he, tm, hd, sn, am, pk_un, sup_ne]
      exact hR.b j hj)⟩

def tkU (w : Nat → Int32) : Nat → Int32 := fun j => if 245 ≤ j ∧ j < 341 then (if tm w + 1 < un w (j - 245) then w j else nI 0) else if j = 462 then nI (tm w + 1) else w j
theorem tkU_ne {w : Nat → Int32} {j : Nat} (h : ¬ (245 ≤ j ∧ j < 341)) (h2 : j ≠ 462) : tkU w j = w j := by unfold tkU; rw [if_neg h, if_neg h2]
theorem tkU_t {w : Nat → Int32} : tkU w 462 = nI (tm w + 1) := by unfold tkU; rw [if_neg (by omega), if_pos rfl]
theorem tkU_u {w : Nat → Int32} {k : Nat} (hk : k < 96) : tkU w (245 + k) = if tm w + 1 < un w k then w (245 + k) else nI 0 := by unfold tkU; rw [if_pos (by omega), show 245 + k - 245 = k by omega]
set_option maxHeartbeats 1000000 in
theorem RC_tick {c : Nat} {S : Nat → Nat → Int32} {w : Nat → Int32} (hc : c < 1000) (hR : RC c S w) : RC (c + 1) (va_up S 0 (fun _ => nI (tm w + 1))) (tkU w) := by
  have h := hR.wf
  have ht := h.t.2
  have ht2 : tm (tkU w) = tm w + 1 := by show nv (tkU w 462) = _; rw [tkU_t, nv_nI (by omega)]
  have hu : ∀ k, k < 96 → un (tkU w) k = if tm w + 1 < un w k then un w k else 0 := fun k hk => by
    show nv (tkU w (245 + k)) = _
    rw [tkU_u hk]
    by_cases e : tm w + 1 < un w k
    · rw [if_pos e, if_pos e]; rfl
    · rw [if_neg e, if_neg e]; exact nv_nI (by decide)
  refine ⟨⟨(by
      try simp (disch := omega) only [nn, mn, ac, le, pq, un, he, tm, hd, sn, am, pk_un, sup_ne, tkU_ne] at ⊢
      exact h.n ),
    (fun i hi => by
      try simp (disch := omega) only [nn, mn, ac, le, pq, un, he, tm, hd, sn, am, pk_un, sup_ne, tkU_ne] at ⊢
      exact h.m i hi),
    (fun p hp => by
      try simp (disch := omega) only [nn, mn, ac, le, pq, un, he, tm, hd, sn, am, pk_un, sup_ne, tkU_ne] at ⊢
      exact h.a p hp),
    (fun i hi j hj hij => by
      try simp (disch := omega) only [nn, mn, ac, le, pq, un, he, tm, hd, sn, am, pk_un, sup_ne, tkU_ne] at hij ⊢
      exact h.a0 i hi j hj hij),
    (fun p hp => by
      try simp (disch := omega) only [nn, mn, ac, le, pq, un, he, tm, hd, sn, am, pk_un, sup_ne, tkU_ne] at ⊢
      exact h.l p hp),
    (fun p hp hn0 => by
      try simp (disch := omega) only [nn, mn, ac, le, pq, un, he, tm, hd, sn, am, pk_un, sup_ne, tkU_ne] at hn0 ⊢
      exact h.l0 p hp hn0),
    (fun p hp j hj => by
      have hb10 : nv (w (21 + p)) ≤ 10 := (h.l p hp).2
      try simp (disch := omega) only [nn, mn, ac, le, pq, un, he, tm, hd, sn, am, pk_un, sup_ne, tkU_ne] at hj
      try simp (disch := omega) only [nn, mn, ac, le, pq, un, he, tm, hd, sn, am, pk_un, sup_ne, tkU_ne]
      exact h.q p hp j hj),
    (fun d hd6 i hi => by
      try simp (disch := omega) only [nn, mn, ac, le, pq, un, he, tm, hd, sn, am, pk_un, sup_ne, tkU_ne] at ⊢
      exact h.s d hd6 i hi),
    (fun d hd6 i hi hne => by
      try simp (disch := omega) only [nn, mn, ac, le, pq, un, he, tm, hd, sn, am, pk_un, sup_ne, tkU_ne] at hne ⊢
      exact h.p d hd6 i hi hne),
    (fun k hk => by
      have h1 := h.u k hk
      rw [hu k hk, ht2, tkU_u hk]
      by_cases e : tm w + 1 < un w k
      · rw [if_pos e, if_pos e]; exact ⟨h1.1, by omega, by omega⟩
      · rw [if_neg e, if_neg e]; exact ⟨rfl, by omega, Or.inl rfl⟩),
    (by
      try simp (disch := omega) only [nn, mn, ac, le, pq, un, he, tm, hd, sn, am, pk_un, sup_ne, tkU_ne] at ⊢
      exact h.h ),
    (fun j hj => by
      have hb24 : nv (w 341) ≤ 24 := h.h.2
      try simp (disch := omega) only [nn, mn, ac, le, pq, un, he, tm, hd, sn, am, pk_un, sup_ne, tkU_ne] at hj
      try simp (disch := omega) only [nn, mn, ac, le, pq, un, he, tm, hd, sn, am, pk_un, sup_ne, tkU_ne]
      exact h.b j hj),
    (fun k hk => by
      try simp (disch := omega) only [nn, mn, ac, le, pq, un, he, tm, hd, sn, am, pk_un, sup_ne, tkU_ne] at ⊢
      exact h.g k hk),
    (by rw [ht2, tkU_t]; exact ⟨rfl, by omega⟩),
    (by
      try simp (disch := omega) only [nn, mn, ac, le, pq, un, he, tm, hd, sn, am, pk_un, sup_ne, tkU_ne] at ⊢
      exact h.d ),
    (by simp (disch := omega) only [sn, tkU_ne]; exact ⟨h.e.1, Nat.le_succ_of_le h.e.2⟩)⟩,
    ⟨(by rw [sup_eq, tkU_t]), (by (try simp (disch := omega) only [tkU_ne, sup_ne]); exact hR.i.2.1), (by (try simp (disch := omega) only [tkU_ne, sup_ne]); exact hR.i.2.2.1), (by (try simp (disch := omega) only [tkU_ne, sup_ne]); exact hR.i.2.2.2.1), (by (try simp (disch := omega) only [tkU_ne, sup_ne]); exact hR.i.2.2.2.2.1), (by (try simp (disch := omega) only [tkU_ne, sup_ne]); exact hR.i.2.2.2.2.2.1), (by (try simp (disch := omega) only [tkU_ne, sup_ne]); exact hR.i.2.2.2.2.2.2.1), (by (try simp (disch := omega) only [tkU_ne, sup_ne]); exact hR.i.2.2.2.2.2.2.2.1), (by (try simp (disch := omega) only [tkU_ne, sup_ne]); exact hR.i.2.2.2.2.2.2.2.2.1), (by (try simp (disch := omega) only [tkU_ne, sup_ne]); exact hR.i.2.2.2.2.2.2.2.2.2)⟩,
    (fun i hi => by
      try simp (disch := omega) only [nn, mn, ac, le, pq, un, he, tm, hd, sn, am, pk_un, sup_ne, tkU_ne] at ⊢
      exact hR.m0 i hi),
    (fun i hi => by
      try simp (disch := omega) only [nn, mn, ac, le, pq, un, he, tm, hd, sn, am, pk_un, sup_ne, tkU_ne] at ⊢
      exact hR.a i hi),
    (fun p hp => by
      try simp (disch := omega) only [nn, mn, ac, le, pq, un, he, tm, hd, sn, am, pk_un, sup_ne, tkU_ne] at ⊢
      exact hR.l0 p hp),
    (fun p hp j hj => by
      have hb10 : nv (w (21 + p)) ≤ 10 := (h.l p hp).2
      try simp (disch := omega) only [nn, mn, ac, le, pq, un, he, tm, hd, sn, am, pk_un, sup_ne, tkU_ne] at hj
      try simp (disch := omega) only [nn, mn, ac, le, pq, un, he, tm, hd, sn, am, pk_un, sup_ne, tkU_ne]
      exact hR.q p hp j hj),
    (fun d hd6 i hi => by
      try simp (disch := omega) only [nn, mn, ac, le, pq, un, he, tm, hd, sn, am, pk_un, sup_ne, tkU_ne] at ⊢
      exact hR.s d hd6 i hi),
    (fun d hd6 i hi => by
      try simp (disch := omega) only [nn, mn, ac, le, pq, un, he, tm, hd, sn, am, pk_un, sup_ne, tkU_ne] at ⊢
      exact hR.p d hd6 i hi),
    (fun k hk => by
      have h1 := h.u k hk
      have h2 := hR.u k hk
      rw [hu k hk, ht2, tkU_u hk, sup_ne (by decide)]
      by_cases e : tm w + 1 < un w k
      · rw [if_pos e, if_pos e]; exact ⟨fun e0 => absurd e0 (by omega), fun _ => h2.2 (by omega)⟩
      · rw [if_neg e, if_neg e]
        refine ⟨fun _ => ?_, fun e0 => absurd rfl e0⟩
        by_cases e1 : un w k = 0
        · obtain ⟨v, hv, e2⟩ := h2.1 e1
          exact ⟨v, by omega, e2⟩
        · exact ⟨un w k, by omega, (h2.2 e1).trans h1.1⟩),
    (fun k hk => by
      try simp (disch := omega) only [nn, mn, ac, le, pq, un, he, tm, hd, sn, am, pk_un, sup_ne, tkU_ne] at ⊢
      exact hR.g k hk),
    (fun j hj => by
      have hb24 : nv (w 341) ≤ 24 := h.h.2
      try simp (disch := omega) only [nn, mn, ac, le, pq, un, he, tm, hd, sn, am, pk_un, sup_ne, tkU_ne] at hj
      try simp (disch := omega) only [nn, mn, ac, le, pq, un, he, tm, hd, sn, am, pk_un, sup_ne, tkU_ne]
      exact hR.b j hj)⟩

/-- the row with a new linkset of m0 links -/
def addR (w : Nat → Int32) (m0 : Nat) : Nat → Int32 := fun j => if j = 0 then nI (nn w + 1) else if j = 1 + nn w then nI m0 else if 5 + 4 * nn w ≤ j ∧ j < 9 + 4 * nn w then (if j < 5 + 4 * nn w + m0 then nI 1 else nI 0) else if 21 + 4 * nn w ≤ j ∧ j < 25 + 4 * nn w then nI 0 else w j
theorem addR_ne {w : Nat → Int32} {m0 j : Nat} (h0 : j ≠ 0) (h1 : j ≠ 1 + nn w) (h2 : ¬ (5 + 4 * nn w ≤ j ∧ j < 9 + 4 * nn w)) (h3 : ¬ (21 + 4 * nn w ≤ j ∧ j < 25 + 4 * nn w)) : addR w m0 j = w j := by unfold addR; rw [if_neg h0, if_neg h1, if_neg h2, if_neg h3]
set_option maxHeartbeats 1000000 in
theorem RC_add {c : Nat} {S : Nat → Nat → Int32} {w : Nat → Int32} {m0 : Nat} (hn3 : nn w < 4) (hm1 : 1 ≤ m0) (hm4 : m0 ≤ 4) (hR : RC c S w) : RC (c) (va_up (va_up (va_up S 10 (upd (S 10) (nn w) (nI m0))) 11 (upd (S 11) (nn w) (nI (2 ^ m0 - 1)))) 8 (fun _ => nI (nn w + 1))) (addR w m0) := by
  have h := hR.wf
  have hn2 : nn (addR w m0) = nn w + 1 := by show nv (addR w m0 0) = _; rw [show addR w m0 0 = nI (nn w + 1) from if_pos rfl, nv_nI (by omega)]
  have hw0 : addR w m0 0 = nI (nn w + 1) := if_pos rfl
  have hwm : ∀ i, i < 4 → addR w m0 (1 + i) = if i = nn w then nI m0 else w (1 + i) := fun i hi => by
    unfold addR
    rw [if_neg (by omega)]
    by_cases e : i = nn w
    · rw [if_pos (by omega), if_pos e]
    · rw [if_neg (by omega), if_neg (by omega), if_neg (by omega), if_neg e]
  have hwa : ∀ p, p < 16 → addR w m0 (5 + p) = if 4 * nn w ≤ p ∧ p < 4 * nn w + 4 then (if p < 4 * nn w + m0 then nI 1 else nI 0) else w (5 + p) := fun p hp => by
    unfold addR
    rw [if_neg (by omega), if_neg (by omega)]
    by_cases e : 4 * nn w ≤ p ∧ p < 4 * nn w + 4
    · rw [if_pos (by omega), if_pos e]
      by_cases e2 : p < 4 * nn w + m0
      · rw [if_pos (by omega), if_pos e2]
      · rw [if_neg (by omega), if_neg e2]
    · rw [if_neg (by omega), if_neg (by omega), if_neg e]
  have hwl : ∀ p, p < 16 → addR w m0 (21 + p) = if 4 * nn w ≤ p ∧ p < 4 * nn w + 4 then nI 0 else w (21 + p) := fun p hp => by
    unfold addR
    rw [if_neg (by omega), if_neg (by omega), if_neg (by omega)]
    by_cases e : 4 * nn w ≤ p ∧ p < 4 * nn w + 4
    · rw [if_pos (by omega), if_pos e]
    · rw [if_neg (by omega), if_neg e]
  have hmm : ∀ i, i < 4 → mn (addR w m0) i = if i = nn w then m0 else mn w i := fun i hi => by
    show nv (addR w m0 (1 + i)) = _
    rw [hwm i hi]
    by_cases e : i = nn w
    · rw [if_pos e, if_pos e, nv_nI (by omega)]
    · rw [if_neg e, if_neg e]; rfl
  have hac : ∀ p, p < 16 → ac (addR w m0) p = if 4 * nn w ≤ p ∧ p < 4 * nn w + 4 then (if p < 4 * nn w + m0 then 1 else 0) else ac w p := fun p hp => by
    show nv (addR w m0 (5 + p)) = _
    rw [hwa p hp]
    by_cases e : 4 * nn w ≤ p ∧ p < 4 * nn w + 4
    · rw [if_pos e, if_pos e]
      by_cases e2 : p < 4 * nn w + m0
      · rw [if_pos e2, if_pos e2]; exact nv_nI (by decide)
      · rw [if_neg e2, if_neg e2]; exact nv_nI (by decide)
    · rw [if_neg e, if_neg e]; rfl
  have hll : ∀ p, p < 16 → le (addR w m0) p = le w p := fun p hp => by
    show nv (addR w m0 (21 + p)) = _
    rw [hwl p hp]
    by_cases e : 4 * nn w ≤ p ∧ p < 4 * nn w + 4
    · rw [if_pos e, h.l0 p hp e.1]; exact nv_nI (by decide)
    · rw [if_neg e]; rfl
  have hsn : sn (addR w m0) = sn w := by show nv (addR w m0 464) = _; rw [addR_ne (by omega) (by omega) (by omega) (by omega)]; rfl
  have ham : ∀ i, i < 4 → am (addR w m0) i = if i = nn w then 2 ^ m0 - 1 else am w i := fun i hi => by
    unfold am
    rw [hac _ (by omega), hac _ (by omega), hac _ (by omega), hac _ (by omega)]
    by_cases e : i = nn w
    · subst e
      rcases (show m0 = 1 ∨ m0 = 2 ∨ m0 = 3 ∨ m0 = 4 by omega) with rfl | rfl | rfl | rfl <;> simp
    · rw [if_neg (by omega), if_neg (by omega), if_neg (by omega), if_neg (by omega), if_neg e]
  refine ⟨⟨(by rw [hn2, hw0]; exact ⟨rfl, by omega⟩),
    (fun i hi => by
      rw [hmm i hi, hwm i hi]
      by_cases e : i = nn w
      · rw [if_pos e, if_pos e]; exact ⟨rfl, hm4⟩
      · rw [if_neg e, if_neg e]; exact h.m i hi),
    (fun p hp => by
      rw [hac p hp, hwa p hp]
      by_cases e : 4 * nn w ≤ p ∧ p < 4 * nn w + 4
      · rw [if_pos e, if_pos e]
        by_cases e2 : p < 4 * nn w + m0
        · rw [if_pos e2, if_pos e2]; exact ⟨rfl, by omega⟩
        · rw [if_neg e2, if_neg e2]; exact ⟨rfl, by omega⟩
      · rw [if_neg e, if_neg e]; exact h.a p hp),
    (fun i hi j hj hij => by
      rw [hmm i hi] at hij
      rw [hac _ (by omega)]
      by_cases e : i = nn w
      · rw [if_pos e] at hij; rw [if_pos (by omega), if_neg (by omega)]
      · rw [if_neg e] at hij; rw [if_neg (by omega)]; exact h.a0 i hi j hj hij),
    (fun p hp => by
      rw [hll p hp, hwl p hp]
      by_cases e : 4 * nn w ≤ p ∧ p < 4 * nn w + 4
      · rw [if_pos e, h.l0 p hp e.1]; exact ⟨rfl, by omega⟩
      · rw [if_neg e]; exact h.l p hp),
    (fun p hp hn0 => by rw [hll p hp]; exact h.l0 p hp (by omega)),
    (fun p hp j hj => by
      rw [hll p hp] at hj
      have hl1 := (h.l p hp).2
      rw [hsn, addR_ne (by omega) (by omega) (by omega) (by omega)]; exact h.q p hp j hj),
    (fun d hd6 i hi => by
      try simp (disch := omega) only [nn, mn, ac, le, pq, un, he, tm, hd, sn, am, pk_un, sup_ne, addR_ne] at ⊢
      exact h.s d hd6 i hi),
    (fun d hd6 i hi hne => by
      try simp (disch := omega) only [nn, mn, ac, le, pq, un, he, tm, hd, sn, am, pk_un, sup_ne, addR_ne] at hne ⊢
      exact h.p d hd6 i hi hne),
    (fun k hk => by
      try simp (disch := omega) only [nn, mn, ac, le, pq, un, he, tm, hd, sn, am, pk_un, sup_ne, addR_ne] at ⊢
      exact h.u k hk),
    (by
      try simp (disch := omega) only [nn, mn, ac, le, pq, un, he, tm, hd, sn, am, pk_un, sup_ne, addR_ne] at ⊢
      exact h.h ),
    (fun j hj => by
      have hb24 : nv (w 341) ≤ 24 := h.h.2
      try simp (disch := omega) only [nn, mn, ac, le, pq, un, he, tm, hd, sn, am, pk_un, sup_ne, addR_ne] at hj
      try simp (disch := omega) only [nn, mn, ac, le, pq, un, he, tm, hd, sn, am, pk_un, sup_ne, addR_ne]
      exact h.b j hj),
    (fun k hk => by
      try simp (disch := omega) only [nn, mn, ac, le, pq, un, he, tm, hd, sn, am, pk_un, sup_ne, addR_ne] at ⊢
      exact h.g k hk),
    (by
      try simp (disch := omega) only [nn, mn, ac, le, pq, un, he, tm, hd, sn, am, pk_un, sup_ne, addR_ne] at ⊢
      exact h.t ),
    (by
      try simp (disch := omega) only [nn, mn, ac, le, pq, un, he, tm, hd, sn, am, pk_un, sup_ne, addR_ne] at ⊢
      exact h.d ),
    (by
      try simp (disch := omega) only [nn, mn, ac, le, pq, un, he, tm, hd, sn, am, pk_un, sup_ne, addR_ne] at ⊢
      exact h.e )⟩,
    ⟨(by rw [sup_ne (by decide), sup_ne (by decide), sup_ne (by decide), addR_ne (by omega) (by omega) (by omega) (by omega)]; exact hR.i.1), (by rw [sup_ne (by decide), sup_ne (by decide), sup_ne (by decide), addR_ne (by omega) (by omega) (by omega) (by omega)]; exact hR.i.2.1), (by rw [sup_ne (by decide), sup_ne (by decide), sup_ne (by decide), addR_ne (by omega) (by omega) (by omega) (by omega)]; exact hR.i.2.2.1), (by rw [sup_ne (by decide), sup_ne (by decide), sup_ne (by decide), addR_ne (by omega) (by omega) (by omega) (by omega)]; exact hR.i.2.2.2.1), (by rw [sup_ne (by decide), sup_ne (by decide), sup_ne (by decide), addR_ne (by omega) (by omega) (by omega) (by omega)]; exact hR.i.2.2.2.2.1), (by rw [sup_ne (by decide), sup_ne (by decide), sup_ne (by decide), addR_ne (by omega) (by omega) (by omega) (by omega)]; exact hR.i.2.2.2.2.2.1), (by rw [sup_ne (by decide), sup_ne (by decide), sup_ne (by decide), addR_ne (by omega) (by omega) (by omega) (by omega)]; exact hR.i.2.2.2.2.2.2.1), (by rw [sup_ne (by decide), sup_ne (by decide), sup_ne (by decide), addR_ne (by omega) (by omega) (by omega) (by omega)]; exact hR.i.2.2.2.2.2.2.2.1), (by rw [sup_eq, hw0]), (by rw [sup_ne (by decide), sup_ne (by decide), sup_ne (by decide), addR_ne (by omega) (by omega) (by omega) (by omega)]; exact hR.i.2.2.2.2.2.2.2.2.2)⟩,
    (fun i hi => by
      rw [sup_ne (by decide), sup_ne (by decide), sup_eq, hwm i hi]
      by_cases e : i = nn w
      · rw [if_pos e, e, upd_eq]
      · rw [if_neg e, pk_un e]; exact hR.m0 i hi),
    (fun i hi => by
      rw [sup_ne (by decide), sup_eq, ham i hi]
      by_cases e : i = nn w
      · rw [if_pos e, e, upd_eq]
      · rw [if_neg e, pk_un e]; exact hR.a i hi),
    (fun p hp => by
      rw [sup_ne (by decide), sup_ne (by decide), sup_ne (by decide), hwl p hp]
      by_cases e : 4 * nn w ≤ p ∧ p < 4 * nn w + 4
      · rw [if_pos e, hR.l p hp, h.l0 p hp e.1]
      · rw [if_neg e]; exact hR.l0 p hp),
    (fun p hp j hj => by
      rw [hll p hp] at hj
      have hl1 := (h.l p hp).2
      rw [sup_ne (by decide), sup_ne (by decide), sup_ne (by decide), addR_ne (by omega) (by omega) (by omega) (by omega)]; exact hR.q p hp j hj),
    (fun d hd6 i hi => by
      try simp (disch := omega) only [nn, mn, ac, le, pq, un, he, tm, hd, sn, am, pk_un, sup_ne, addR_ne] at ⊢
      exact hR.s d hd6 i hi),
    (fun d hd6 i hi => by
      try simp (disch := omega) only [nn, mn, ac, le, pq, un, he, tm, hd, sn, am, pk_un, sup_ne, addR_ne] at ⊢
      exact hR.p d hd6 i hi),
    (fun k hk => by
      try simp (disch := omega) only [nn, mn, ac, le, pq, un, he, tm, hd, sn, am, pk_un, sup_ne, addR_ne] at ⊢
      exact hR.u k hk),
    (fun k hk => by
      try simp (disch := omega) only [nn, mn, ac, le, pq, un, he, tm, hd, sn, am, pk_un, sup_ne, addR_ne] at ⊢
      exact hR.g k hk),
    (fun j hj => by
      have hb24 : nv (w 341) ≤ 24 := h.h.2
      try simp (disch := omega) only [nn, mn, ac, le, pq, un, he, tm, hd, sn, am, pk_un, sup_ne, addR_ne] at hj
      try simp (disch := omega) only [nn, mn, ac, le, pq, un, he, tm, hd, sn, am, pk_un, sup_ne, addR_ne]
      exact hR.b j hj)⟩
