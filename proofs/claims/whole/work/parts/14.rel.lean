/-! what holds of the row, and how a State of the class stands to it -/
def okM (x : Int32) (s : Nat) : Prop := ∃ a k : Nat, a < s ∧ k < 96 ∧ x = nI (128 * a + k)
def okS (x : Int32) : Prop := x = -1 ∨ x = nI 0 ∨ x = nI 1 ∨ x = nI 2
def WF (c : Nat) (w : Nat → Int32) : Prop :=
  (w 0 = nI (nn w) ∧ nn w ≤ 4) ∧
  (∀ i, i < 4 → w (1 + i) = nI (mn w i) ∧ mn w i ≤ 4) ∧
  (∀ p, p < 16 → w (5 + p) = nI (ac w p) ∧ ac w p ≤ 1) ∧
  (∀ i, i < 4 → ∀ j, j < 4 → mn w i ≤ j → ac w (4 * i + j) = 0) ∧
  (∀ p, p < 16 → w (21 + p) = nI (le w p) ∧ le w p ≤ 10) ∧
  (∀ p, p < 16 → 4 * nn w ≤ p → le w p = 0) ∧
  (∀ p, p < 16 → ∀ j, j < le w p → okM (w (37 + 10 * p + j)) (sn w)) ∧
  (∀ d, d < 6 → ∀ i, i < 4 → okS (w (197 + 4 * d + i))) ∧
  (∀ d, d < 6 → ∀ i, i < 4 → ¬ w (197 + 4 * d + i) = -1 → w (221 + 4 * d + i) = nI (pq w d i) ∧ pq w d i ≤ 2) ∧
  (∀ k, k < 96 → w (245 + k) = nI (un w k) ∧ un w k ≤ c + 9 ∧ (un w k = 0 ∨ tm w < un w k)) ∧
  (w 341 = nI (he w) ∧ he w ≤ 24) ∧
  (∀ j, j < he w → okM (w (342 + j)) (sn w)) ∧
  (∀ k, k < 96 → w (366 + k) = -1 ∨ ∃ a, a < sn w ∧ w (366 + k) = nI (128 * a + k)) ∧
  (w 462 = nI (tm w) ∧ tm w ≤ c) ∧ (w 463 = nI (hd w) ∧ hd w ≤ 9) ∧ (w 464 = nI (sn w) ∧ sn w ≤ c)
def trm (x : Int32) : Int32 := nI (nv x / 128 * 96 + nv x % 128)
def trg (x : Int32) : Int32 := if x = -1 then -1 else nI (nv x / 128)
def RC (c : Nat) (S : Nat → Nat → Int32) (w : Nat → Int32) : Prop :=
  WF c w ∧ (S 0 0 = w 462 ∧ S 1 0 = w 463 ∧ S 2 0 = w 464 ∧ S 3 0 = w 465 ∧ S 4 0 = w 466 ∧ S 5 0 = w 467 ∧ S 6 0 = w 468 ∧ S 7 0 = w 469 ∧ S 8 0 = w 0 ∧ S 9 0 = w 341) ∧
  (∀ i, i < 4 → S 10 i = w (1 + i)) ∧
  (∀ i, i < 4 → S 11 i = nI (am w i)) ∧
  (∀ p, p < 16 → S 12 p = w (21 + p)) ∧
  (∀ p, p < 16 → ∀ j, j < le w p → S 13 (p * 10 + j) = trm (w (37 + 10 * p + j))) ∧
  (∀ d, d < 6 → ∀ i, i < 4 → S 14 (d * 4 + i) = w (197 + 4 * d + i)) ∧
  (∀ d, d < 6 → ∀ i, i < 4 → S 15 (d * 4 + i) = w (221 + 4 * d + i)) ∧
  (∀ k, k < 96 → (un w k = 0 → ∃ v, v ≤ tm w ∧ S 16 k = nI v) ∧ (¬ un w k = 0 → S 16 k = w (245 + k))) ∧
  (∀ k, k < 96 → S 17 k = trg (w (366 + k))) ∧
  (∀ j, j < he w → S 18 j = trm (w (342 + j)))
section RL
variable {c : Nat} {w : Nat → Int32} {S : Nat → Nat → Int32}
theorem WF.n (h : WF c w) : w 0 = nI (nn w) ∧ nn w ≤ 4 := h.1
theorem WF.m (h : WF c w) : ∀ i, i < 4 → w (1 + i) = nI (mn w i) ∧ mn w i ≤ 4 := h.2.1
theorem WF.a (h : WF c w) : ∀ p, p < 16 → w (5 + p) = nI (ac w p) ∧ ac w p ≤ 1 := h.2.2.1
theorem WF.a0 (h : WF c w) : ∀ i, i < 4 → ∀ j, j < 4 → mn w i ≤ j → ac w (4 * i + j) = 0 := h.2.2.2.1
theorem WF.l (h : WF c w) : ∀ p, p < 16 → w (21 + p) = nI (le w p) ∧ le w p ≤ 10 := h.2.2.2.2.1
theorem WF.l0 (h : WF c w) : ∀ p, p < 16 → 4 * nn w ≤ p → le w p = 0 := h.2.2.2.2.2.1
theorem WF.q (h : WF c w) : ∀ p, p < 16 → ∀ j, j < le w p → okM (w (37 + 10 * p + j)) (sn w) := h.2.2.2.2.2.2.1
theorem WF.s (h : WF c w) : ∀ d, d < 6 → ∀ i, i < 4 → okS (w (197 + 4 * d + i)) := h.2.2.2.2.2.2.2.1
theorem WF.p (h : WF c w) : ∀ d, d < 6 → ∀ i, i < 4 → ¬ w (197 + 4 * d + i) = -1 → w (221 + 4 * d + i) = nI (pq w d i) ∧ pq w d i ≤ 2 := h.2.2.2.2.2.2.2.2.1
theorem WF.u (h : WF c w) : ∀ k, k < 96 → w (245 + k) = nI (un w k) ∧ un w k ≤ c + 9 ∧ (un w k = 0 ∨ tm w < un w k) := h.2.2.2.2.2.2.2.2.2.1
theorem WF.h (h : WF c w) : w 341 = nI (he w) ∧ he w ≤ 24 := h.2.2.2.2.2.2.2.2.2.2.1
theorem WF.b (h : WF c w) : ∀ j, j < he w → okM (w (342 + j)) (sn w) := h.2.2.2.2.2.2.2.2.2.2.2.1
theorem WF.g (h : WF c w) : ∀ k, k < 96 → w (366 + k) = -1 ∨ ∃ a, a < sn w ∧ w (366 + k) = nI (128 * a + k) := h.2.2.2.2.2.2.2.2.2.2.2.2.1
theorem WF.t (h : WF c w) : w 462 = nI (tm w) ∧ tm w ≤ c := h.2.2.2.2.2.2.2.2.2.2.2.2.2.1
theorem WF.d (h : WF c w) : w 463 = nI (hd w) ∧ hd w ≤ 9 := h.2.2.2.2.2.2.2.2.2.2.2.2.2.2.1
theorem WF.e (h : WF c w) : w 464 = nI (sn w) ∧ sn w ≤ c := h.2.2.2.2.2.2.2.2.2.2.2.2.2.2.2
theorem RC.wf (h : RC c S w) : WF c w := h.1
theorem RC.i (h : RC c S w) : S 0 0 = w 462 ∧ S 1 0 = w 463 ∧ S 2 0 = w 464 ∧ S 3 0 = w 465 ∧ S 4 0 = w 466 ∧ S 5 0 = w 467 ∧ S 6 0 = w 468 ∧ S 7 0 = w 469 ∧ S 8 0 = w 0 ∧ S 9 0 = w 341 := h.2.1
theorem RC.n (h : RC c S w) : S 8 0 = nI (nn w) := h.2.1.2.2.2.2.2.2.2.2.1.trans h.1.n.1
theorem RC.m (h : RC c S w) : ∀ i, i < 4 → S 10 i = nI (mn w i) := fun i hi => (h.2.2.1 i hi).trans (h.1.m i hi).1
theorem RC.a (h : RC c S w) : ∀ i, i < 4 → S 11 i = nI (am w i) := h.2.2.2.1
theorem RC.l (h : RC c S w) : ∀ p, p < 16 → S 12 p = nI (le w p) := fun i hi => (h.2.2.2.2.1 i hi).trans (h.1.l i hi).1
theorem RC.q (h : RC c S w) : ∀ p, p < 16 → ∀ j, j < le w p → S 13 (p * 10 + j) = trm (w (37 + 10 * p + j)) := h.2.2.2.2.2.1
theorem RC.s (h : RC c S w) : ∀ d, d < 6 → ∀ i, i < 4 → S 14 (d * 4 + i) = w (197 + 4 * d + i) := h.2.2.2.2.2.2.1
theorem RC.p (h : RC c S w) : ∀ d, d < 6 → ∀ i, i < 4 → S 15 (d * 4 + i) = w (221 + 4 * d + i) := h.2.2.2.2.2.2.2.1
theorem RC.u (h : RC c S w) : ∀ k, k < 96 → (un w k = 0 → ∃ v, v ≤ tm w ∧ S 16 k = nI v) ∧ (¬ un w k = 0 → S 16 k = w (245 + k)) := h.2.2.2.2.2.2.2.2.1
theorem RC.g (h : RC c S w) : ∀ k, k < 96 → S 17 k = trg (w (366 + k)) := h.2.2.2.2.2.2.2.2.2.1
theorem RC.b (h : RC c S w) : ∀ j, j < he w → S 18 j = trm (w (342 + j)) := h.2.2.2.2.2.2.2.2.2.2
theorem RC.t (h : RC c S w) : S 0 0 = nI (tm w) := h.2.1.1.trans h.1.t.1
theorem RC.d (h : RC c S w) : S 1 0 = nI (hd w) := h.2.1.2.1.trans h.1.d.1
theorem RC.e (h : RC c S w) : S 2 0 = nI (sn w) := h.2.1.2.2.1.trans h.1.e.1
theorem RC.h (h : RC c S w) : S 9 0 = nI (he w) := h.2.1.2.2.2.2.2.2.2.2.2.trans h.1.h.1
theorem am_lt (h : WF c w) {i : Nat} (hi : i < 4) : am w i < 16 := by
  have h0 := (h.a (4 * i) (by omega)).2
  have h1 := (h.a (4 * i + 1) (by omega)).2
  have h2 := (h.a (4 * i + 2) (by omega)).2
  have h3 := (h.a (4 * i + 3) (by omega)).2
  unfold am
  omega
theorem am_tb (h : WF c w) {i l : Nat} (hi : i < 4) (hl : l < 4) : tb (am w i) l = ac w (4 * i + l) := by
  have h0 := (h.a (4 * i) (by omega)).2
  have h1 := (h.a (4 * i + 1) (by omega)).2
  have h2 := (h.a (4 * i + 2) (by omega)).2
  have h3 := (h.a (4 * i + 3) (by omega)).2
  rcases (show l = 0 ∨ l = 1 ∨ l = 2 ∨ l = 3 by omega) with rfl | rfl | rfl | rfl <;> simp only [am, tb, Nat.reducePow, Nat.add_zero] <;> omega
theorem pc4_am (h : WF c w) {i : Nat} (hi : i < 4) : pc4 (am w i) = ac w (4 * i) + ac w (4 * i + 1) + ac w (4 * i + 2) + ac w (4 * i + 3) := by
  have := am_tb h hi (l := 0) (by decide)
  have := am_tb h hi (l := 1) (by decide)
  have := am_tb h hi (l := 2) (by decide)
  have := am_tb h hi (l := 3) (by decide)
  simp only [pc4, cb, Nat.add_zero] at *
  omega
theorem rts_lt (h : WF c w) (d : Nat) : rts w d < 16 := by
  have h1 := bmL_lt (lim := 99) (f := rcd w d) (nn w)
  have h2 : 2 ^ nn w ≤ 16 := by
    have := Nat.pow_le_pow_right (n := 2) (by decide) h.n.2
    simpa using this
  unfold rts
  omega
theorem rts_pf (h : WF c w) {d : Nat} (hd6 : d < 6) : rts w d = if (bmL 3 (pfd w d (nI 0)) (nn w)).2 = 0 then (bmL 3 (pfd w d (nI 1)) (nn w)).2 else (bmL 3 (pfd w d (nI 0)) (nn w)).2 := by
  have key := bmL_two (f := rcd w d) (g0 := pfd w d (nI 0)) (g1 := pfd w d (nI 1)) (n := nn w) (fun i hi => by
    have hi4 : i < 4 := by have := h.n.2; omega
    have hp := h.p d hd6 i hi4
    have hne : ¬ (nI 0 : Int32) = nI 1 := by decide
    have hm0 : ¬ (nI 0 : Int32) = -1 := by decide
    have hm1 : ¬ (nI 1 : Int32) = -1 := by decide
    unfold rcd pfd
    by_cases ha : am w i = 0
    · simp [ha]
    · by_cases h0 : w (197 + 4 * d + i) = nI 0
      · have := (hp (by rw [h0]; exact hm0)).2
        refine Or.inl ⟨by simp [ha, h0], by simp [ha, h0]; omega, by simp [ha, h0, hne]⟩
      · by_cases h1 : w (197 + 4 * d + i) = nI 1
        · have := (hp (by rw [h1]; exact hm1)).2
          refine Or.inr (Or.inl ⟨by simp [h0], by simp [ha, h1]; omega, by simp [ha, h1, Ne.symm hne]⟩)
        · exact Or.inr (Or.inr ⟨by simp [h0], by simp [h1], by simp [ha, h0, h1]⟩)) (nn w) (Nat.le_refl _)
  obtain ⟨a, b, c3⟩ := key
  have z0 := bmL_0 (lim := 3) (f := pfd w d (nI 0)) (nn w)
  have l0 := bmL_lim (lim := 3) (f := pfd w d (nI 0)) (nn w)
  have l1 := bmL_lim (lim := 3) (f := pfd w d (nI 1)) (nn w)
  unfold rts
  by_cases hx : (bmL 3 (pfd w d (nI 0)) (nn w)).1 < 3
  · rw [a hx, if_neg (fun e => by rw [z0] at e; omega)]
  · have hx3 : (bmL 3 (pfd w d (nI 0)) (nn w)).1 = 3 := by omega
    rw [if_pos (z0.mpr hx3)]
    by_cases hy : (bmL 3 (pfd w d (nI 1)) (nn w)).1 < 3
    · rw [b hx3 hy]
    · obtain ⟨c1, c2⟩ := c3 hx3 (by omega)
      rw [c1, c2]
theorem rts_tb (h : WF c w) {d i : Nat} (hi : i < 4) (ht : tb (rts w d) i = 1) : i < nn w ∧ ¬ am w i = 0 := by
  obtain ⟨h1, h2⟩ := bmL_tb (lim := 99) (f := rcd w d) (nn w) h.n.2 i hi ht
  refine ⟨h1, fun e => ?_⟩
  simp [rcd, e] at h2
end RL
theorem sb4_tb : ∀ m, m < 16 → ∀ i, i < 4 → i < pc4 m → tb m (sb4 m i) = 1 ∧ sb4 m i < 4 ∧ cb m (sb4 m i) = i := by decide +kernel
theorem sb4_at : ∀ m, m < 16 → ∀ i, i < 4 → ∀ p, p < 4 → tb m p = 1 → cb m p = i → sb4 m i = p := by decide +kernel
theorem sb4_end : ∀ m, m < 16 → ∀ i, i < 4 → i < pc4 m → cb m 3 ≤ i → sb4 m i = 3 := by decide +kernel
theorem pc4_le : ∀ m, m < 16 → pc4 m ≤ 4 ∧ (pc4 m = 0 ↔ m = 0) := by decide +kernel
theorem cb_mono : ∀ m, m < 16 → ∀ i, i < 4 → ∀ p, p < 5 → i < pc4 m → cb m p ≤ i → p ≤ sb4 m i := by decide +kernel
theorem shr1 : ∀ m, m < 16 → ∀ p, p < 4 → (nI m >>> (nI p &&& 31)) &&& nI 1 = nI (tb m p) := by decide +kernel
theorem or1 : ∀ m, m < 16 → ∀ p, p < 4 → m < 2 ^ p → nI m ||| (nI 1 <<< (nI p &&& 31)) = nI (m + 2 ^ p) := by decide +kernel
theorem tb_01 (m i : Nat) : tb m i = 0 ∨ tb m i = 1 := by unfold tb; omega
