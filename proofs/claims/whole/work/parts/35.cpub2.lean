/-! an improvement keeps what is accessible accessible -/
theorem bmL_least {lim : Nat} {f : Nat → Nat} : ∀ k i, i < k → (bmL lim f k).1 ≤ f i
  | 0, i, h => absurd h (by omega)
  | k + 1, i, h => by
    have ih := bmL_least (lim := lim) (f := f) k i
    simp only [bmL]
    by_cases h1 : i = k
    · subst h1
      split
      · exact Nat.le_refl _
      · split <;> (show (bmL lim f i).1 ≤ f i) <;> omega
    · have := ih (by omega)
      split
      · show f k ≤ f i; omega
      · split <;> exact this
theorem bmL_ge {lim : Nat} {f : Nat → Nat} : ∀ k, (∀ i, i < k → lim ≤ f i) → (bmL lim f k).1 = lim
  | 0, _ => rfl
  | k + 1, h => by
    have ih := bmL_ge (lim := lim) (f := f) k (fun i hi => h i (by omega))
    have h1 := h k (by omega)
    simp only [bmL]
    rw [if_neg (by omega), if_neg (by omega)]
    exact ih
theorem sb4_le (a b : Nat) : sb4 a b ≤ 3 := by
  unfold sb4
  (repeat' split) <;> omega
theorem acc_mono {w w1 : Nat → Int32} (hn4 : nn w ≤ 4) (hn : nn w1 = nn w) (h : ∀ d, d < 6 → ∀ i, i < 4 → rcd w d i < 99 → rcd w1 d i < 99) (j : Nat) (hj : j < 96) (hne : ¬ lk w j = -1) : ¬ lk w1 j = -1 := by
  have h0 : ¬ rts w (j / 16) = 0 := fun e => hne (by unfold lk lkm; rw [if_pos e])
  have h1 : ¬ ∀ i, i < nn w → 99 ≤ rcd w (j / 16) i := fun q => h0 ((bmL_0 (nn w)).mpr (bmL_ge (nn w) q))
  have h2 : ¬ rts w1 (j / 16) = 0 := fun e => h1 (fun i hi => by
    have h3 := (bmL_0 (lim := 99) (f := rcd w1 (j / 16)) (nn w1)).mp e
    have h4 := bmL_least (lim := 99) (f := rcd w1 (j / 16)) (nn w1) i (by omega)
    rw [h3] at h4
    by_cases h5 : rcd w (j / 16) i < 99
    · have := h (j / 16) (by omega) i (by omega) h5
      omega
    · omega)
  unfold lk lkm
  rw [if_neg h2]
  refine m1_ne ?_
  unfold lko lks
  have a1 := sb4_le (rts w1 (j / 16)) (j % 16 % pc4 (rts w1 (j / 16)))
  generalize sb4 (rts w1 (j / 16)) (j % 16 % pc4 (rts w1 (j / 16))) = t at *
  have a2 := sb4_le (am w1 t) (j % 16 / pc4 (rts w1 (j / 16)) % pc4 (am w1 t))
  omega
theorem acc_on {c : Nat} {w : Nat → Int32} (hW : WF c w) {v : Nat} (hv : v < 16) (j : Nat) (hj : j < 96) (hne : ¬ lk w j = -1) : ¬ lk (upd w (5 + v) (nI 1)) j = -1 := by
  refine acc_mono hW.n.2 (by unfold nn; rw [pk_un (by omega)]) (fun d hd i hi => ?_) j hj hne
  have ha : ∀ t, t < 16 → ac w t ≤ ac (upd w (5 + v) (nI 1)) t := fun t ht => by
    by_cases e : t = v
    · subst e
      have h1 := (hW.a t ht).2
      have h2 : ac (upd w (5 + t) (nI 1)) t = 1 := by unfold ac; rw [upd_eq]; exact nv_nI (by decide)
      omega
    · have h2 : ac (upd w (5 + v) (nI 1)) t = ac w t := by unfold ac; rw [pk_un (by omega)]
      omega
  have h0 := ha (4 * i) (by omega)
  have h1 := ha (4 * i + 1) (by omega)
  have h2 := ha (4 * i + 2) (by omega)
  have h3 := ha (4 * i + 3) (by omega)
  have hm : am w i ≤ am (upd w (5 + v) (nI 1)) i := by unfold am; omega
  have hp : pq (upd w (5 + v) (nI 1)) d i = pq w d i := by unfold pq; rw [pk_un (by omega)]
  unfold rcd
  rw [hp, pk_un (show 197 + 4 * d + i ≠ 5 + v by omega)]
  intro h9
  by_cases e : am w i = 0
  · rw [if_pos e] at h9; omega
  · rw [if_neg e] at h9
    rw [if_neg (by omega)]
    exact h9
theorem acc_st {c : Nat} {w w1 : Nat → Int32} (hW : WF c w) {d0 i0 : Nat} (hoth : ∀ t, t < 245 → t ≠ 197 + 4 * d0 + i0 → t ≠ 221 + 4 * d0 + i0 → w1 t = w t) (hi0 : i0 < 4) (hd0 : d0 < 6) (hs : w1 (197 + 4 * d0 + i0) = nI 0 ∨ w1 (197 + 4 * d0 + i0) = nI 1) (hq : pq w1 d0 i0 ≤ 2) (j : Nat) (hj : j < 96) (hne : ¬ lk w j = -1) : ¬ lk w1 j = -1 := by
  refine acc_mono hW.n.2 (by unfold nn; rw [hoth 0 (by omega) (by omega) (by omega)]) (fun d hd i hi => ?_) j hj hne
  have hm : am w1 i = am w i := by
    unfold am ac
    rw [hoth _ (by omega) (by omega) (by omega), hoth _ (by omega) (by omega) (by omega), hoth _ (by omega) (by omega) (by omega), hoth _ (by omega) (by omega) (by omega)]
  by_cases e : d = d0 ∧ i = i0
  · obtain ⟨rfl, rfl⟩ := e
    intro h9
    unfold rcd at h9 ⊢
    rw [hm]
    by_cases e : am w i = 0
    · rw [if_pos e] at h9; omega
    · rw [if_neg e]
      rcases hs with hs | hs
      · rw [if_pos hs]; omega
      · rw [hs, if_neg (by decide), if_pos rfl]; omega
  · rw [rcd_congr hm (hoth _ (by omega) (by omega) (by omega)) (hoth _ (by omega) (by omega) (by omega))]
    exact id
