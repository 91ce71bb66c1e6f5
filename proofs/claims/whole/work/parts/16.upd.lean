theorem sup_ne {f : Nat → Nat → Int32} {k j : Nat} {v : Nat → Int32} (h : j ≠ k) : va_up f k v j = f j := if_neg h
theorem sup_eq {f : Nat → Nat → Int32} {k : Nat} {v : Nat → Int32} : va_up f k v k = v := if_pos rfl
theorem upd_eq {f : Nat → Int32} {k : Nat} {x : Int32} : upd f k x k = x := if_pos rfl
theorem RC.m0 {c : Nat} {S : Nat → Nat → Int32} {w : Nat → Int32} (h : RC c S w) : ∀ i, i < 4 → S 10 i = w (1 + i) := h.2.2.1
theorem RC.l0 {c : Nat} {S : Nat → Nat → Int32} {w : Nat → Int32} (h : RC c S w) : ∀ p, p < 16 → S 12 p = w (21 + p) := h.2.2.2.2.1
theorem okM_mono {x : Int32} {s s' : Nat} (h : okM x s) (hs : s ≤ s') : okM x s' := by
  obtain ⟨a, k, h1, h2, h3⟩ := h
  exact ⟨a, k, by omega, h2, h3⟩
theorem nI_ok {n : Nat} (h : n < 2 ^ 31) : nI n = nI (nv (nI n)) := by rw [nv_nI h]
theorem trm_ok {a k : Nat} (ha : a < 1000) (hk : k < 96) : trm (nI (128 * a + k)) = nI (a * 96 + k) := by
  unfold trm
  rw [nv_nI (by omega), show (128 * a + k) / 128 = a by omega, show (128 * a + k) % 128 = k by omega]
theorem trg_ok {a k : Nat} (ha : a < 1000) (hk : k < 96) : trg (nI (128 * a + k)) = nI a := by
  unfold trg
  rw [if_neg (m1_ne (by omega)), nv_nI (by omega), show (128 * a + k) / 128 = a by omega]
theorem WF.mono {c c' : Nat} {w : Nat → Int32} (h : WF c w) (hc : c ≤ c') : WF c' w := ⟨h.n, h.m, h.a, h.a0, h.l, h.l0, h.q, h.s, h.p, fun k hk => ⟨(h.u k hk).1, Nat.le_trans (h.u k hk).2.1 (by omega), (h.u k hk).2.2⟩, h.h, h.b, h.g, ⟨h.t.1, Nat.le_trans h.t.2 hc⟩, h.d, h.e.1, Nat.le_trans h.e.2 hc⟩
theorem RC.mono {c c' : Nat} {S : Nat → Nat → Int32} {w : Nat → Int32} (h : RC c S w) (hc : c ≤ c') : RC c' S w := ⟨h.wf.mono hc, h.2⟩
set_option maxHeartbeats 1000000 in
theorem RC_inc3 {c : Nat} {S : Nat → Nat → Int32} {w : Nat → Int32}  (hR : RC c S w) : RC (c) (va_up S 3 (fun _ => S 3 0 + nI 1)) (upd w 465 (w 465 + nI 1)) := by
  have h := hR.wf
  refine ⟨⟨(by
      try simp (disch := omega) only [nn, mn, ac, le, pq, un, he, tm, hd, sn, am, pk_un, sup_ne] at ⊢
      exact h.n ),
    (fun i hi => by
      try simp (disch := omega) only [nn, mn, ac, le, pq, un, he, tm, hd, sn, am, pk_un, sup_ne] at ⊢
      exact h.m i hi),
    (fun p hp => by
      try simp (disch := omega) only [nn, mn, ac, le, pq, un, he, tm, hd, sn, am, pk_un, sup_ne] at ⊢
      exact h.a p hp),
    (fun i hi j hj hij => by
      try simp (disch := omega) only [nn, mn, ac, le, pq, un, he, tm, hd, sn, am, pk_un, sup_ne] at hij ⊢
      exact h.a0 i hi j hj hij),
    (fun p hp => by
      try simp (disch := omega) only [nn, mn, ac, le, pq, un, he, tm, hd, sn, am, pk_un, sup_ne] at ⊢
      exact h.l p hp),
    (fun p hp hn0 => by
      try simp (disch := omega) only [nn, mn, ac, le, pq, un, he, tm, hd, sn, am, pk_un, sup_ne] at hn0 ⊢
      exact h.l0 p hp hn0),
    (fun p hp j hj => by
      have hb10 : nv (w (21 + p)) ≤ 10 := (h.l p hp).2
      try simp (disch := omega) only [nn, mn, ac, le, pq, un, he, tm, hd, sn, am, pk_un, sup_ne] at hj
      try simp (disch := omega) only [nn, mn, ac, le, pq, un, he, tm, hd, sn, am, pk_un, sup_ne]
      exact h.q p hp j hj),
    (fun d hd6 i hi => by
      try simp (disch := omega) only [nn, mn, ac, le, pq, un, he, tm, hd, sn, am, pk_un, sup_ne] at ⊢
      exact h.s d hd6 i hi),
    (fun d hd6 i hi hne => by
      try simp (disch := omega) only [nn, mn, ac, le, pq, un, he, tm, hd, sn, am, pk_un, sup_ne] at hne ⊢
      exact h.p d hd6 i hi hne),
    (fun k hk => by
      try simp (disch := omega) only [nn, mn, ac, le, pq, un, he, tm, hd, sn, am, pk_un, sup_ne] at ⊢
      exact h.u k hk),
    (by
      try simp (disch := omega) only [nn, mn, ac, le, pq, un, he, tm, hd, sn, am, pk_un, sup_ne] at ⊢
      exact h.h ),
    (fun j hj => by
      have hb24 : nv (w 341) ≤ 24 := h.h.2
      try simp (disch := omega) only [nn, mn, ac, le, pq, un, he, tm, hd, sn, am, pk_un, sup_ne] at hj
      try simp (disch := omega) only [nn, mn, ac, le, pq, un, he, tm, hd, sn, am, pk_un, sup_ne]
      exact h.b j hj),
    (fun k hk => by
      try simp (disch := omega) only [nn, mn, ac, le, pq, un, he, tm, hd, sn, am, pk_un, sup_ne] at ⊢
      exact h.g k hk),
    (by
      try simp (disch := omega) only [nn, mn, ac, le, pq, un, he, tm, hd, sn, am, pk_un, sup_ne] at ⊢
      exact h.t ),
    (by
      try simp (disch := omega) only [nn, mn, ac, le, pq, un, he, tm, hd, sn, am, pk_un, sup_ne] at ⊢
      exact h.d ),
    (by
      try simp (disch := omega) only [nn, mn, ac, le, pq, un, he, tm, hd, sn, am, pk_un, sup_ne] at ⊢
      exact h.e )⟩,
    ⟨(by rw [sup_ne (by decide), pk_un (by decide)]; exact hR.i.1), (by rw [sup_ne (by decide), pk_un (by decide)]; exact hR.i.2.1), (by rw [sup_ne (by decide), pk_un (by decide)]; exact hR.i.2.2.1), (by rw [sup_eq, upd_eq, hR.i.2.2.2.1]), (by rw [sup_ne (by decide), pk_un (by decide)]; exact hR.i.2.2.2.2.1), (by rw [sup_ne (by decide), pk_un (by decide)]; exact hR.i.2.2.2.2.2.1), (by rw [sup_ne (by decide), pk_un (by decide)]; exact hR.i.2.2.2.2.2.2.1), (by rw [sup_ne (by decide), pk_un (by decide)]; exact hR.i.2.2.2.2.2.2.2.1), (by rw [sup_ne (by decide), pk_un (by decide)]; exact hR.i.2.2.2.2.2.2.2.2.1), (by rw [sup_ne (by decide), pk_un (by decide)]; exact hR.i.2.2.2.2.2.2.2.2.2)⟩,
    (fun i hi => by
      try simp (disch := omega) only [nn, mn, ac, le, pq, un, he, tm, hd, sn, am, pk_un, sup_ne] at ⊢
      exact hR.m0 i hi),
    (fun i hi => by
      try simp (disch := omega) only [nn, mn, ac, le, pq, un, he, tm, hd, sn, am, pk_un, sup_ne] at ⊢
      exact hR.a i hi),
    (fun p hp => by
      try simp (disch := omega) only [nn, mn, ac, le, pq, un, he, tm, hd, sn, am, pk_un, sup_ne] at ⊢
      exact hR.l0 p hp),
    (fun p hp j hj => by
      have hb10 : nv (w (21 + p)) ≤ 10 := (h.l p hp).2
      try simp (disch := omega) only [nn, mn, ac, le, pq, un, he, tm, hd, sn, am, pk_un, sup_ne] at hj
      try simp (disch := omega) only [nn, mn, ac, le, pq, un, he, tm, hd, sn, am, pk_un, sup_ne]
      exact hR.q p hp j hj),
    (fun d hd6 i hi => by
      try simp (disch := omega) only [nn, mn, ac, le, pq, un, he, tm, hd, sn, am, pk_un, sup_ne] at ⊢
      exact hR.s d hd6 i hi),
    (fun d hd6 i hi => by
      try simp (disch := omega) only [nn, mn, ac, le, pq, un, he, tm, hd, sn, am, pk_un, sup_ne] at ⊢
      exact hR.p d hd6 i hi),
    (fun k hk => by
      try simp (disch := omega) only [nn, mn, ac, le, pq, un, he, tm, hd, sn, am, pk_un, sup_ne] at ⊢
      exact hR.u k hk),
    (fun k hk => by
      try simp (disch := omega) only [nn, mn, ac, le, pq, un, he, tm, hd, sn, am, pk_un, sup_ne] at ⊢
      exact hR.g k hk),
    (fun j hj => by
      have hb24 : nv (w 341) ≤ 24 := h.h.2
      try simp (disch := omega) only [nn, mn, ac, le, pq, un, he, tm, hd, sn, am, pk_un, sup_ne] at hj
      try simp (disch := omega) only [nn, mn, ac, le, pq, un, he, tm, hd, sn, am, pk_un, sup_ne]
      exact hR.b j hj)⟩

set_option maxHeartbeats 1000000 in
theorem RC_inc4 {c : Nat} {S : Nat → Nat → Int32} {w : Nat → Int32}  (hR : RC c S w) : RC (c) (va_up S 4 (fun _ => S 4 0 + nI 1)) (upd w 466 (w 466 + nI 1)) := by
  have h := hR.wf
  refine ⟨⟨(by
      try simp (disch := omega) only [nn, mn, ac, le, pq, un, he, tm, hd, sn, am, pk_un, sup_ne] at ⊢
      exact h.n ),
    (fun i hi => by
      try simp (disch := omega) only [nn, mn, ac, le, pq, un, he, tm, hd, sn, am, pk_un, sup_ne] at ⊢
      exact h.m i hi),
    (fun p hp => by
      try simp (disch := omega) only [nn, mn, ac, le, pq, un, he, tm, hd, sn, am, pk_un, sup_ne] at ⊢
      exact h.a p hp),
    (fun i hi j hj hij => by
      try simp (disch := omega) only [nn, mn, ac, le, pq, un, he, tm, hd, sn, am, pk_un, sup_ne] at hij ⊢
      exact h.a0 i hi j hj hij),
    (fun p hp => by
      try simp (disch := omega) only [nn, mn, ac, le, pq, un, he, tm, hd, sn, am, pk_un, sup_ne] at ⊢
      exact h.l p hp),
    (fun p hp hn0 => by
      try simp (disch := omega) only [nn, mn, ac, le, pq, un, he, tm, hd, sn, am, pk_un, sup_ne] at hn0 ⊢
      exact h.l0 p hp hn0),
    (fun p hp j hj => by
      have hb10 : nv (w (21 + p)) ≤ 10 := (h.l p hp).2
      try simp (disch := omega) only [nn, mn, ac, le, pq, un, he, tm, hd, sn, am, pk_un, sup_ne] at hj
      try simp (disch := omega) only [nn, mn, ac, le, pq, un, he, tm, hd, sn, am, pk_un, sup_ne]
      exact h.q p hp j hj),
    (fun d hd6 i hi => by
      try simp (disch := omega) only [nn, mn, ac, le, pq, un, he, tm, hd, sn, am, pk_un, sup_ne] at ⊢
      exact h.s d hd6 i hi),
    (fun d hd6 i hi hne => by
      try simp (disch := omega) only [nn, mn, ac, le, pq, un, he, tm, hd, sn, am, pk_un, sup_ne] at hne ⊢
      exact h.p d hd6 i hi hne),
    (fun k hk => by
      try simp (disch := omega) only [nn, mn, ac, le, pq, un, he, tm, hd, sn, am, pk_un, sup_ne] at ⊢
      exact h.u k hk),
    (by
      try simp (disch := omega) only [nn, mn, ac, le, pq, un, he, tm, hd, sn, am, pk_un, sup_ne] at ⊢
      exact h.h ),
    (fun j hj => by
      have hb24 : nv (w 341) ≤ 24 := h.h.2
      try simp (disch := omega) only [nn, mn, ac, le, pq, un, he, tm, hd, sn, am, pk_un, sup_ne] at hj
      try simp (disch := omega) only [nn, mn, ac, le, pq, un, he, tm, hd, sn, am, pk_un, sup_ne]
      exact h.b j hj),
    (fun k hk => by
      try simp (disch := omega) only [nn, mn, ac, le, pq, un, he, tm, hd, sn, am, pk_un, sup_ne] at ⊢
      exact h.g k hk),
    (by
      try simp (disch := omega) only [nn, mn, ac, le, pq, un, he, tm, hd, sn, am, pk_un, sup_ne] at ⊢
      exact h.t ),
    (by
      try simp (disch := omega) only [nn, mn, ac, le, pq, un, he, tm, hd, sn, am, pk_un, sup_ne] at ⊢
      exact h.d ),
    (by
      try simp (disch := omega) only [nn, mn, ac, le, pq, un, he, tm, hd, sn, am, pk_un, sup_ne] at ⊢
      exact h.e )⟩,
    ⟨(by rw [sup_ne (by decide), pk_un (by decide)]; exact hR.i.1), (by rw [sup_ne (by decide), pk_un (by decide)]; exact hR.i.2.1), (by rw [sup_ne (by decide), pk_un (by decide)]; exact hR.i.2.2.1), (by rw [sup_ne (by decide), pk_un (by decide)]; exact hR.i.2.2.2.1), (by rw [sup_eq, upd_eq, hR.i.2.2.2.2.1]), (by rw [sup_ne (by decide), pk_un (by decide)]; exact hR.i.2.2.2.2.2.1), (by rw [sup_ne (by decide), pk_un (by decide)]; exact hR.i.2.2.2.2.2.2.1), (by rw [sup_ne (by decide), pk_un (by decide)]; exact hR.i.2.2.2.2.2.2.2.1), (by rw [sup_ne (by decide), pk_un (by decide)]; exact hR.i.2.2.2.2.2.2.2.2.1), (by rw [sup_ne (by decide), pk_un (by decide)]; exact hR.i.2.2.2.2.2.2.2.2.2)⟩,
    (fun i hi => by
      try simp (disch := omega) only [nn, mn, ac, le, pq, un, he, tm, hd, sn, am, pk_un, sup_ne] at ⊢
      exact hR.m0 i hi),
    (fun i hi => by
      try simp (disch := omega) only [nn, mn, ac, le, pq, un, he, tm, hd, sn, am, pk_un, sup_ne] at ⊢
      exact hR.a i hi),
    (fun p hp => by
      try simp (disch := omega) only [nn, mn, ac, le, pq, un, he, tm, hd, sn, am, pk_un, sup_ne] at ⊢
      exact hR.l0 p hp),
    (fun p hp j hj => by
      have hb10 : nv (w (21 + p)) ≤ 10 := (h.l p hp).2
      try simp (disch := omega) only [nn, mn, ac, le, pq, un, he, tm, hd, sn, am, pk_un, sup_ne] at hj
      try simp (disch := omega) only [nn, mn, ac, le, pq, un, he, tm, hd, sn, am, pk_un, sup_ne]
      exact hR.q p hp j hj),
    (fun d hd6 i hi => by
      try simp (disch := omega) only [nn, mn, ac, le, pq, un, he, tm, hd, sn, am, pk_un, sup_ne] at ⊢
      exact hR.s d hd6 i hi),
    (fun d hd6 i hi => by
      try simp (disch := omega) only [nn, mn, ac, le, pq, un, he, tm, hd, sn, am, pk_un, sup_ne] at ⊢
      exact hR.p d hd6 i hi),
    (fun k hk => by
      try simp (disch := omega) only [nn, mn, ac, le, pq, un, he, tm, hd, sn, am, pk_un, sup_ne] at ⊢
      exact hR.u k hk),
    (fun k hk => by
      try simp (disch := omega) only [nn, mn, ac, le, pq, un, he, tm, hd, sn, am, pk_un, sup_ne] at ⊢
      exact hR.g k hk),
    (fun j hj => by
      have hb24 : nv (w 341) ≤ 24 := h.h.2
      try simp (disch := omega) only [nn, mn, ac, le, pq, un, he, tm, hd, sn, am, pk_un, sup_ne] at hj
      try simp (disch := omega) only [nn, mn, ac, le, pq, un, he, tm, hd, sn, am, pk_un, sup_ne]
      exact hR.b j hj)⟩

set_option maxHeartbeats 1000000 in
theorem RC_inc5 {c : Nat} {S : Nat → Nat → Int32} {w : Nat → Int32}  (hR : RC c S w) : RC (c) (va_up S 5 (fun _ => S 5 0 + nI 1)) (upd w 467 (w 467 + nI 1)) := by
  have h := hR.wf
  refine ⟨⟨(by
      try simp (disch := omega) only [nn, mn, ac, le, pq, un, he, tm, hd, sn, am, pk_un, sup_ne] at ⊢
      exact h.n ),
    (fun i hi => by
      try simp (disch := omega) only [nn, mn, ac, le, pq, un, he, tm, hd, sn, am, pk_un, sup_ne] at ⊢
      exact h.m i hi),
    (fun p hp => by
      try simp (disch := omega) only [nn, mn, ac, le, pq, un, he, tm, hd, sn, am, pk_un, sup_ne] at ⊢
      exact h.a p hp),
    (fun i hi j hj hij => by
      try simp (disch := omega) only [nn, mn, ac, le, pq, un, he, tm, hd, sn, am, pk_un, sup_ne] at hij ⊢
      exact h.a0 i hi j hj hij),
    (fun p hp => by
      try simp (disch := omega) only [nn, mn, ac, le, pq, un, he, tm, hd, sn, am, pk_un, sup_ne] at ⊢
      exact h.l p hp),
    (fun p hp hn0 => by
      try simp (disch := omega) only [nn, mn, ac, le, pq, un, he, tm, hd, sn, am, pk_un, sup_ne] at hn0 ⊢
      exact h.l0 p hp hn0),
    (fun p hp j hj => by
      have hb10 : nv (w (21 + p)) ≤ 10 := (h.l p hp).2
      try simp (disch := omega) only [nn, mn, ac, le, pq, un, he, tm, hd, sn, am, pk_un, sup_ne] at hj
      try simp (disch := omega) only [nn, mn, ac, le, pq, un, he, tm, hd, sn, am, pk_un, sup_ne]
      exact h.q p hp j hj),
    (fun d hd6 i hi => by
      try simp (disch := omega) only [nn, mn, ac, le, pq, un, he, tm, hd, sn, am, pk_un, sup_ne] at ⊢
      exact h.s d hd6 i hi),
    (fun d hd6 i hi hne => by
      try simp (disch := omega) only [nn, mn, ac, le, pq, un, he, tm, hd, sn, am, pk_un, sup_ne] at hne ⊢
      exact h.p d hd6 i hi hne),
    (fun k hk => by
      try simp (disch := omega) only [nn, mn, ac, le, pq, un, he, tm, hd, sn, am, pk_un, sup_ne] at ⊢
      exact h.u k hk),
    (by
      try simp (disch := omega) only [nn, mn, ac, le, pq, un, he, tm, hd, sn, am, pk_un, sup_ne] at ⊢
      exact h.h ),
    (fun j hj => by
      have hb24 : nv (w 341) ≤ 24 := h.h.2
      try simp (disch := omega) only [nn, mn, ac, le, pq, un, he, tm, hd, sn, am, pk_un, sup_ne] at hj
      try simp (disch := omega) only [nn, mn, ac, le, pq, un, he, tm, hd, sn, am, pk_un, sup_ne]
      exact h.b j hj),
    (fun k hk => by
      try simp (disch := omega) only [nn, mn, ac, le, pq, un, he, tm, hd, sn, am, pk_un, sup_ne] at ⊢
      exact h.g k hk),
    (by
      try simp (disch := omega) only [nn, mn, ac, le, pq, un, he, tm, hd, sn, am, pk_un, sup_ne] at ⊢
      exact h.t ),
    (by
      try simp (disch := omega) only [nn, mn, ac, le, pq, un, he, tm, hd, sn, am, pk_un, sup_ne] at ⊢
      exact h.d ),
    (by
      try simp (disch := omega) only [nn, mn, ac, le, pq, un, he, tm, hd, sn, am, pk_un, sup_ne] at ⊢
      exact h.e )⟩,
    ⟨(by rw [sup_ne (by decide), pk_un (by decide)]; exact hR.i.1), (by rw [sup_ne (by decide), pk_un (by decide)]; exact hR.i.2.1), (by rw [sup_ne (by decide), pk_un (by decide)]; exact hR.i.2.2.1), (by rw [sup_ne (by decide), pk_un (by decide)]; exact hR.i.2.2.2.1), (by rw [sup_ne (by decide), pk_un (by decide)]; exact hR.i.2.2.2.2.1), (by rw [sup_eq, upd_eq, hR.i.2.2.2.2.2.1]), (by rw [sup_ne (by decide), pk_un (by decide)]; exact hR.i.2.2.2.2.2.2.1), (by rw [sup_ne (by decide), pk_un (by decide)]; exact hR.i.2.2.2.2.2.2.2.1), (by rw [sup_ne (by decide), pk_un (by decide)]; exact hR.i.2.2.2.2.2.2.2.2.1), (by rw [sup_ne (by decide), pk_un (by decide)]; exact hR.i.2.2.2.2.2.2.2.2.2)⟩,
    (fun i hi => by
      try simp (disch := omega) only [nn, mn, ac, le, pq, un, he, tm, hd, sn, am, pk_un, sup_ne] at ⊢
      exact hR.m0 i hi),
    (fun i hi => by
      try simp (disch := omega) only [nn, mn, ac, le, pq, un, he, tm, hd, sn, am, pk_un, sup_ne] at ⊢
      exact hR.a i hi),
    (fun p hp => by
      try simp (disch := omega) only [nn, mn, ac, le, pq, un, he, tm, hd, sn, am, pk_un, sup_ne] at ⊢
      exact hR.l0 p hp),
    (fun p hp j hj => by
      have hb10 : nv (w (21 + p)) ≤ 10 := (h.l p hp).2
      try simp (disch := omega) only [nn, mn, ac, le, pq, un, he, tm, hd, sn, am, pk_un, sup_ne] at hj
      try simp (disch := omega) only [nn, mn, ac, le, pq, un, he, tm, hd, sn, am, pk_un, sup_ne]
      exact hR.q p hp j hj),
    (fun d hd6 i hi => by
      try simp (disch := omega) only [nn, mn, ac, le, pq, un, he, tm, hd, sn, am, pk_un, sup_ne] at ⊢
      exact hR.s d hd6 i hi),
    (fun d hd6 i hi => by
      try simp (disch := omega) only [nn, mn, ac, le, pq, un, he, tm, hd, sn, am, pk_un, sup_ne] at ⊢
      exact hR.p d hd6 i hi),
    (fun k hk => by
      try simp (disch := omega) only [nn, mn, ac, le, pq, un, he, tm, hd, sn, am, pk_un, sup_ne] at ⊢
      exact hR.u k hk),
    (fun k hk => by
      try simp (disch := omega) only [nn, mn, ac, le, pq, un, he, tm, hd, sn, am, pk_un, sup_ne] at ⊢
      exact hR.g k hk),
    (fun j hj => by
      have hb24 : nv (w 341) ≤ 24 := h.h.2
      try simp (disch := omega) only [nn, mn, ac, le, pq, un, he, tm, hd, sn, am, pk_un, sup_ne] at hj
      try simp (disch := omega) only [nn, mn, ac, le, pq, un, he, tm, hd, sn, am, pk_un, sup_ne]
      exact hR.b j hj)⟩

set_option maxHeartbeats 1000000 in
theorem RC_inc6 {c : Nat} {S : Nat → Nat → Int32} {w : Nat → Int32}  (hR : RC c S w) : RC (c) (va_up S 6 (fun _ => S 6 0 + nI 1)) (upd w 468 (w 468 + nI 1)) := by
  have h := hR.wf
  refine ⟨⟨(by
      try simp (disch := omega) only [nn, mn, ac, le, pq, un, he, tm, hd, sn, am, pk_un, sup_ne] at ⊢
      exact h.n ),
    (fun i hi => by
      try simp (disch := omega) only [nn, mn, ac, le, pq, un, he, tm, hd, sn, am, pk_un, sup_ne] at ⊢
      exact h.m i hi),
    (fun p hp => by
      try simp (disch := omega) only [nn, mn, ac, le, pq, un, he, tm, hd, sn, am, pk_un, sup_ne] at ⊢
      exact h.a p hp),
    (fun i hi j hj hij => by
      try simp (disch := omega) only [nn, mn, ac, le, pq, un, he, tm, hd, sn, am, pk_un, sup_ne] at hij ⊢
      exact h.a0 i hi j hj hij),
    (fun p hp => by
      try simp (disch := omega) only [nn, mn, ac, le, pq, un, he, tm, hd, sn, am, pk_un, sup_ne] at ⊢
      exact h.l p hp),
    (fun p hp hn0 => by
      try simp (disch := omega) only [nn, mn, ac, le, pq, un, he, tm, hd, sn, am, pk_un, sup_ne] at hn0 ⊢
      exact h.l0 p hp hn0),
    (fun p hp j hj => by
      have hb10 : nv (w (21 + p)) ≤ 10 := (h.l p hp).2
      try simp (disch := omega) only [nn, mn, ac, le, pq, un, he, tm, hd, sn, am, pk_un, sup_ne] at hj
      try simp (disch := omega) only [nn, mn, ac, le, pq, un, he, tm, hd, sn, am, pk_un, sup_ne]
      exact h.q p hp j hj),
    (fun d hd6 i hi => by
      try simp (disch := omega) only [nn, mn, ac, le, pq, un, he, tm, hd, sn, am, pk_un, sup_ne] at ⊢
      exact h.s d hd6 i hi),
    (fun d hd6 i hi hne => by
      try simp (disch := omega) only [nn, mn, ac, le, pq, un, he, tm, hd, sn, am, pk_un, sup_ne] at hne ⊢
      exact h.p d hd6 i hi hne),
    (fun k hk => by
      try simp (disch := omega) only [nn, mn, ac, le, pq, un, he, tm, hd, sn, am, pk_un, sup_ne] at ⊢
      exact h.u k hk),
    (by
      try simp (disch := omega) only [nn, mn, ac, le, pq, un, he, tm, hd, sn, am, pk_un, sup_ne] at ⊢
      exact h.h ),
    (fun j hj => by
      have hb24 : nv (w 341) ≤ 24 := h.h.2
      try simp (disch := omega) only [nn, mn, ac, le, pq, un, he, tm, hd, sn, am, pk_un, sup_ne] at hj
      try simp (disch := omega) only [nn, mn, ac, le, pq, un, he, tm, hd, sn, am, pk_un, sup_ne]
      exact h.b j hj),
    (fun k hk => by
      try simp (disch := omega) only [nn, mn, ac, le, pq, un, he, tm, hd, sn, am, pk_un, sup_ne] at ⊢
      exact h.g k hk),
    (by
      try simp (disch := omega) only [nn, mn, ac, le, pq, un, he, tm, hd, sn, am, pk_un, sup_ne] at ⊢
      exact h.t ),
    (by
      try simp (disch := omega) only [nn, mn, ac, le, pq, un, he, tm, hd, sn, am, pk_un, sup_ne] at ⊢
      exact h.d ),
    (by
      try simp (disch := omega) only [nn, mn, ac, le, pq, un, he, tm, hd, sn, am, pk_un, sup_ne] at ⊢
      exact h.e )⟩,
    ⟨(by rw [sup_ne (by decide), pk_un (by decide)]; exact hR.i.1), (by rw [sup_ne (by decide), pk_un (by decide)]; exact hR.i.2.1), (by rw [sup_ne (by decide), pk_un (by decide)]; exact hR.i.2.2.1), (by rw [sup_ne (by decide), pk_un (by decide)]; exact hR.i.2.2.2.1), (by rw [sup_ne (by decide), pk_un (by decide)]; exact hR.i.2.2.2.2.1), (by rw [sup_ne (by decide), pk_un (by decide)]; exact hR.i.2.2.2.2.2.1), (by rw [sup_eq, upd_eq, hR.i.2.2.2.2.2.2.1]), (by rw [sup_ne (by decide), pk_un (by decide)]; exact hR.i.2.2.2.2.2.2.2.1), (by rw [sup_ne (by decide), pk_un (by decide)]; exact hR.i.2.2.2.2.2.2.2.2.1), (by rw [sup_ne (by decide), pk_un (by decide)]; exact hR.i.2.2.2.2.2.2.2.2.2)⟩,
    (fun i hi => by
      try simp (disch := omega) only [nn, mn, ac, le, pq, un, he, tm, hd, sn, am, pk_un, sup_ne] at ⊢
      exact hR.m0 i hi),
    (fun i hi => by
      try simp (disch := omega) only [nn, mn, ac, le, pq, un, he, tm, hd, sn, am, pk_un, sup_ne] at ⊢
      exact hR.a i hi),
    (fun p hp => by
      try simp (disch := omega) only [nn, mn, ac, le, pq, un, he, tm, hd, sn, am, pk_un, sup_ne] at ⊢
      exact hR.l0 p hp),
    (fun p hp j hj => by
      have hb10 : nv (w (21 + p)) ≤ 10 := (h.l p hp).2
      try simp (disch := omega) only [nn, mn, ac, le, pq, un, he, tm, hd, sn, am, pk_un, sup_ne] at hj
      try simp (disch := omega) only [nn, mn, ac, le, pq, un, he, tm, hd, sn, am, pk_un, sup_ne]
      exact hR.q p hp j hj),
    (fun d hd6 i hi => by
      try simp (disch := omega) only [nn, mn, ac, le, pq, un, he, tm, hd, sn, am, pk_un, sup_ne] at ⊢
      exact hR.s d hd6 i hi),
    (fun d hd6 i hi => by
      try simp (disch := omega) only [nn, mn, ac, le, pq, un, he, tm, hd, sn, am, pk_un, sup_ne] at ⊢
      exact hR.p d hd6 i hi),
    (fun k hk => by
      try simp (disch := omega) only [nn, mn, ac, le, pq, un, he, tm, hd, sn, am, pk_un, sup_ne] at ⊢
      exact hR.u k hk),
    (fun k hk => by
      try simp (disch := omega) only [nn, mn, ac, le, pq, un, he, tm, hd, sn, am, pk_un, sup_ne] at ⊢
      exact hR.g k hk),
    (fun j hj => by
      have hb24 : nv (w 341) ≤ 24 := h.h.2
      try simp (disch := omega) only [nn, mn, ac, le, pq, un, he, tm, hd, sn, am, pk_un, sup_ne] at hj
      try simp (disch := omega) only [nn, mn, ac, le, pq, un, he, tm, hd, sn, am, pk_un, sup_ne]
      exact hR.b j hj)⟩

set_option maxHeartbeats 1000000 in
theorem RC_inc7 {c : Nat} {S : Nat → Nat → Int32} {w : Nat → Int32}  (hR : RC c S w) : RC (c) (va_up S 7 (fun _ => S 7 0 + nI 1)) (upd w 469 (w 469 + nI 1)) := by
  have h := hR.wf
  refine ⟨⟨(by
      try simp (disch := omega) only [nn, mn, ac, le, pq, un, he, tm, hd, sn, am, pk_un, sup_ne] at ⊢
      exact h.n ),
    (fun i hi => by
      try simp (disch := omega) only [nn, mn, ac, le, pq, un, he, tm, hd, sn, am, pk_un, sup_ne] at ⊢
      exact h.m i hi),
    (fun p hp => by
      try simp (disch := omega) only [nn, mn, ac, le, pq, un, he, tm, hd, sn, am, pk_un, sup_ne] at ⊢
      exact h.a p hp),
    (fun i hi j hj hij => by
      try simp (disch := omega) only [nn, mn, ac, le, pq, un, he, tm, hd, sn, am, pk_un, sup_ne] at hij ⊢
      exact h.a0 i hi j hj hij),
    (fun p hp => by
      try simp (disch := omega) only [nn, mn, ac, le, pq, un, he, tm, hd, sn, am, pk_un, sup_ne] at ⊢
      exact h.l p hp),
    (fun p hp hn0 => by
      try simp (disch := omega) only [nn, mn, ac, le, pq, un, he, tm, hd, sn, am, pk_un, sup_ne] at hn0 ⊢
      exact h.l0 p hp hn0),
    (fun p hp j hj => by
      have hb10 : nv (w (21 + p)) ≤ 10 := (h.l p hp).2
      try simp (disch := omega) only [nn, mn, ac, le, pq, un, he, tm, hd, sn, am, pk_un, sup_ne] at hj
      try simp (disch := omega) only [nn, mn, ac, le, pq, un, he, tm, hd, sn, am, pk_un, sup_ne]
      exact h.q p hp j hj),
    (fun d hd6 i hi => by
      try simp (disch := omega) only [nn, mn, ac, le, pq, un, he, tm, hd, sn, am, pk_un, sup_ne] at ⊢
      exact h.s d hd6 i hi),
    (fun d hd6 i hi hne => by
      try simp (disch := omega) only [nn, mn, ac, le, pq, un, he, tm, hd, sn, am, pk_un, sup_ne] at hne ⊢
      exact h.p d hd6 i hi hne),
    (fun k hk => by
      try simp (disch := omega) only [nn, mn, ac, le, pq, un, he, tm, hd, sn, am, pk_un, sup_ne] at ⊢
      exact h.u k hk),
    (by
      try simp (disch := omega) only [nn, mn, ac, le, pq, un, he, tm, hd, sn, am, pk_un, sup_ne] at ⊢
      exact h.h ),
    (fun j hj => by
      have hb24 : nv (w 341) ≤ 24 := h.h.2
      try simp (disch := omega) only [nn, mn, ac, le, pq, un, he, tm, hd, sn, am, pk_un, sup_ne] at hj
      try simp (disch := omega) only [nn, mn, ac, le, pq, un, he, tm, hd, sn, am, pk_un, sup_ne]
      exact h.b j hj),
    (fun k hk => by
      try simp (disch := omega) only [nn, mn, ac, le, pq, un, he, tm, hd, sn, am, pk_un, sup_ne] at ⊢
      exact h.g k hk),
    (by
      try simp (disch := omega) only [nn, mn, ac, le, pq, un, he, tm, hd, sn, am, pk_un, sup_ne] at ⊢
      exact h.t ),
    (by
      try simp (disch := omega) only [nn, mn, ac, le, pq, un, he, tm, hd, sn, am, pk_un, sup_ne] at ⊢
      exact h.d ),
    (by
      try simp (disch := omega) only [nn, mn, ac, le, pq, un, he, tm, hd, sn, am, pk_un, sup_ne] at ⊢
      exact h.e )⟩,
    ⟨(by rw [sup_ne (by decide), pk_un (by decide)]; exact hR.i.1), (by rw [sup_ne (by decide), pk_un (by decide)]; exact hR.i.2.1), (by rw [sup_ne (by decide), pk_un (by decide)]; exact hR.i.2.2.1), (by rw [sup_ne (by decide), pk_un (by decide)]; exact hR.i.2.2.2.1), (by rw [sup_ne (by decide), pk_un (by decide)]; exact hR.i.2.2.2.2.1), (by rw [sup_ne (by decide), pk_un (by decide)]; exact hR.i.2.2.2.2.2.1), (by rw [sup_ne (by decide), pk_un (by decide)]; exact hR.i.2.2.2.2.2.2.1), (by rw [sup_eq, upd_eq, hR.i.2.2.2.2.2.2.2.1]), (by rw [sup_ne (by decide), pk_un (by decide)]; exact hR.i.2.2.2.2.2.2.2.2.1), (by rw [sup_ne (by decide), pk_un (by decide)]; exact hR.i.2.2.2.2.2.2.2.2.2)⟩,
    (fun i hi => by
      try simp (disch := omega) only [nn, mn, ac, le, pq, un, he, tm, hd, sn, am, pk_un, sup_ne] at ⊢
      exact hR.m0 i hi),
    (fun i hi => by
      try simp (disch := omega) only [nn, mn, ac, le, pq, un, he, tm, hd, sn, am, pk_un, sup_ne] at ⊢
      exact hR.a i hi),
    (fun p hp => by
      try simp (disch := omega) only [nn, mn, ac, le, pq, un, he, tm, hd, sn, am, pk_un, sup_ne] at ⊢
      exact hR.l0 p hp),
    (fun p hp j hj => by
      have hb10 : nv (w (21 + p)) ≤ 10 := (h.l p hp).2
      try simp (disch := omega) only [nn, mn, ac, le, pq, un, he, tm, hd, sn, am, pk_un, sup_ne] at hj
      try simp (disch := omega) only [nn, mn, ac, le, pq, un, he, tm, hd, sn, am, pk_un, sup_ne]
      exact hR.q p hp j hj),
    (fun d hd6 i hi => by
      try simp (disch := omega) only [nn, mn, ac, le, pq, un, he, tm, hd, sn, am, pk_un, sup_ne] at ⊢
      exact hR.s d hd6 i hi),
    (fun d hd6 i hi => by
      try simp (disch := omega) only [nn, mn, ac, le, pq, un, he, tm, hd, sn, am, pk_un, sup_ne] at ⊢
      exact hR.p d hd6 i hi),
    (fun k hk => by
      try simp (disch := omega) only [nn, mn, ac, le, pq, un, he, tm, hd, sn, am, pk_un, sup_ne] at ⊢
      exact hR.u k hk),
    (fun k hk => by
      try simp (disch := omega) only [nn, mn, ac, le, pq, un, he, tm, hd, sn, am, pk_un, sup_ne] at ⊢
      exact hR.g k hk),
    (fun j hj => by
      have hb24 : nv (w 341) ≤ 24 := h.h.2
      try simp (disch := omega) only [nn, mn, ac, le, pq, un, he, tm, hd, sn, am, pk_un, sup_ne] at hj
      try simp (disch := omega) only [nn, mn, ac, le, pq, un, he, tm, hd, sn, am, pk_un, sup_ne]
      exact hR.b j hj)⟩

set_option maxHeartbeats 1000000 in
theorem RC_app {c : Nat} {S : Nat → Nat → Int32} {w : Nat → Int32} {p0 a k0 : Nat} (hp0 : p0 < 16) (hpn : p0 < 4 * nn w) (hl : le w p0 < 10) (ha : a < sn w) (hk0 : k0 < 96) (hc : c < 1000) (hR : RC c S w) : RC (c) (va_up (va_up S 13 (upd (S 13) (p0 * 10 + le w p0) (nI (a * 96 + k0)))) 12 (upd (va_up S 13 (upd (S 13) (p0 * 10 + le w p0) (nI (a * 96 + k0))) 12) p0 (nI (le w p0 + 1)))) (upd (upd w (37 + 10 * p0 + le w p0) (nI (128 * a + k0))) (21 + p0) (nI (le w p0 + 1))) := by
  have h := hR.wf
  have hsn := h.e.2
  have hlx : nv (w (21 + p0)) < 10 := hl
  have hle : ∀ p, p < 16 → le (upd (upd w (37 + 10 * p0 + le w p0) (nI (128 * a + k0))) (21 + p0) (nI (le w p0 + 1))) p = if p = p0 then le w p0 + 1 else le w p := fun p hp => by
    unfold le
    by_cases e : p = p0
    · subst e; rw [upd_eq, if_pos rfl, nv_nI (by unfold le at hl; omega)]
    · rw [if_neg e, pk_un (by omega), pk_un (by omega)]
  refine ⟨⟨(by
      try simp (disch := omega) only [nn, mn, ac, le, pq, un, he, tm, hd, sn, am, pk_un, sup_ne] at ⊢
      exact h.n ),
    (fun i hi => by
      try simp (disch := omega) only [nn, mn, ac, le, pq, un, he, tm, hd, sn, am, pk_un, sup_ne] at ⊢
      exact h.m i hi),
    (fun p hp => by
      try simp (disch := omega) only [nn, mn, ac, le, pq, un, he, tm, hd, sn, am, pk_un, sup_ne] at ⊢
      exact h.a p hp),
    (fun i hi j hj hij => by
      try simp (disch := omega) only [nn, mn, ac, le, pq, un, he, tm, hd, sn, am, pk_un, sup_ne] at hij ⊢
      exact h.a0 i hi j hj hij),
    (fun p hp => by
      by_cases e : p = p0
      · subst e; rw [hle p hp, if_pos rfl, upd_eq]; exact ⟨rfl, by omega⟩
      · rw [hle p hp, if_neg e, pk_un (by omega), pk_un (by omega)]; exact h.l p hp),
    (fun p hp hn0 => by
      have e : p ≠ p0 := by simp (disch := omega) only [nn, pk_un] at hn0; unfold nn at hpn; omega
      rw [hle p hp, if_neg e]; exact h.l0 p hp (by simp (disch := omega) only [nn, pk_un] at hn0; exact hn0)),
    (fun p hp j hj => by
      have hs2 : sn (upd (upd w (37 + 10 * p0 + le w p0) (nI (128 * a + k0))) (21 + p0) (nI (le w p0 + 1))) = sn w := by unfold sn; rw [pk_un (by omega), pk_un (by omega)]
      rw [hs2, pk_un (by omega)]
      rw [hle p hp] at hj
      by_cases e : 37 + 10 * p + j = 37 + 10 * p0 + le w p0
      · rw [e, upd_eq]; exact ⟨a, k0, ha, hk0, rfl⟩
      · rw [pk_un e]; refine h.q p hp j ?_
        by_cases e2 : p = p0
        · subst e2; rw [if_pos rfl] at hj; omega
        · rw [if_neg e2] at hj; exact hj),
    (fun d hd6 i hi => by
      try simp (disch := omega) only [nn, mn, ac, le, pq, un, he, tm, hd, sn, am, pk_un, sup_ne] at ⊢
      exact h.s d hd6 i hi),
    (fun d hd6 i hi hne => by
      try simp (disch := omega) only [nn, mn, ac, le, pq, un, he, tm, hd, sn, am, pk_un, sup_ne] at hne ⊢
      exact h.p d hd6 i hi hne),
    (fun k hk => by
      try simp (disch := omega) only [nn, mn, ac, le, pq, un, he, tm, hd, sn, am, pk_un, sup_ne] at ⊢
      exact h.u k hk),
    (by
      try simp (disch := omega) only [nn, mn, ac, le, pq, un, he, tm, hd, sn, am, pk_un, sup_ne] at ⊢
      exact h.h ),
    (fun j hj => by
      have hb24 : nv (w 341) ≤ 24 := h.h.2
      try simp (disch := omega) only [nn, mn, ac, le, pq, un, he, tm, hd, sn, am, pk_un, sup_ne] at hj
      try simp (disch := omega) only [nn, mn, ac, le, pq, un, he, tm, hd, sn, am, pk_un, sup_ne]
      exact h.b j hj),
    (fun k hk => by
      try simp (disch := omega) only [nn, mn, ac, le, pq, un, he, tm, hd, sn, am, pk_un, sup_ne] at ⊢
      exact h.g k hk),
    (by
      try simp (disch := omega) only [nn, mn, ac, le, pq, un, he, tm, hd, sn, am, pk_un, sup_ne] at ⊢
      exact h.t ),
    (by
      try simp (disch := omega) only [nn, mn, ac, le, pq, un, he, tm, hd, sn, am, pk_un, sup_ne] at ⊢
      exact h.d ),
    (by
      try simp (disch := omega) only [nn, mn, ac, le, pq, un, he, tm, hd, sn, am, pk_un, sup_ne] at ⊢
      exact h.e )⟩,
    (by
      try simp (disch := omega) only [nn, mn, ac, le, pq, un, he, tm, hd, sn, am, pk_un, sup_ne] at ⊢
      exact hR.i ),
    (fun i hi => by
      try simp (disch := omega) only [nn, mn, ac, le, pq, un, he, tm, hd, sn, am, pk_un, sup_ne] at ⊢
      exact hR.m0 i hi),
    (fun i hi => by
      try simp (disch := omega) only [nn, mn, ac, le, pq, un, he, tm, hd, sn, am, pk_un, sup_ne] at ⊢
      exact hR.a i hi),
    (fun p hp => by
      rw [sup_eq, sup_ne (by decide)]
      by_cases e : p = p0
      · subst e; rw [upd_eq, upd_eq]
      · rw [pk_un e, pk_un (by omega), pk_un (by omega)]; exact hR.l0 p hp),
    (fun p hp j hj => by
      rw [hle p hp] at hj
      rw [sup_ne (by decide), sup_eq, pk_un (f := upd w _ _) (by omega)]
      have hl1 := (h.l p hp).2
      by_cases e : 37 + 10 * p + j = 37 + 10 * p0 + le w p0
      · have e2 : p * 10 + j = p0 * 10 + le w p0 := by omega
        rw [e, e2, upd_eq, upd_eq, trm_ok (by omega) hk0]
      · rw [pk_un e, pk_un (by omega)]; refine hR.q p hp j ?_
        by_cases e2 : p = p0
        · subst e2; rw [if_pos rfl] at hj; omega
        · rw [if_neg e2] at hj; exact hj),
    (fun d hd6 i hi => by
      try simp (disch := omega) only [nn, mn, ac, le, pq, un, he, tm, hd, sn, am, pk_un, sup_ne] at ⊢
      exact hR.s d hd6 i hi),
    (fun d hd6 i hi => by
      try simp (disch := omega) only [nn, mn, ac, le, pq, un, he, tm, hd, sn, am, pk_un, sup_ne] at ⊢
      exact hR.p d hd6 i hi),
    (fun k hk => by
      try simp (disch := omega) only [nn, mn, ac, le, pq, un, he, tm, hd, sn, am, pk_un, sup_ne] at ⊢
      exact hR.u k hk),
    (fun k hk => by
      try simp (disch := omega) only [nn, mn, ac, le, pq, un, he, tm, hd, sn, am, pk_un, sup_ne] at ⊢
      exact hR.g k hk),
    (fun j hj => by
      have hb24 : nv (w 341) ≤ 24 := h.h.2
      try simp (disch := omega) only [nn, mn, ac, le, pq, un, he, tm, hd, sn, am, pk_un, sup_ne] at hj
      try simp (disch := omega) only [nn, mn, ac, le, pq, un, he, tm, hd, sn, am, pk_un, sup_ne]
      exact hR.b j hj)⟩
