/-! the reference's row w of 470 numbers, and what is read off it -/
def nv (x : Int32) : Nat := x.toNatClampNeg
theorem nv_nI {n : Nat} (h : n < 2 ^ 31) : nv (nI n) = n := nI_clamp h
theorem m1_ne {n : Nat} (h : n < 2 ^ 31) : ¬ nI n = -1 := fun e => by
  have h1 := congrArg Int32.toInt e
  rw [nI_toInt h] at h1
  have h2 : (-1 : Int32).toInt = -1 := by decide
  rw [h2] at h1
  omega
def nn (w : Nat → Int32) : Nat := nv (w 0)
def mn (w : Nat → Int32) (i : Nat) : Nat := nv (w (1 + i))
def ac (w : Nat → Int32) (p : Nat) : Nat := nv (w (5 + p))
def le (w : Nat → Int32) (p : Nat) : Nat := nv (w (21 + p))
def pq (w : Nat → Int32) (d i : Nat) : Nat := nv (w (221 + 4 * d + i))
def un (w : Nat → Int32) (k : Nat) : Nat := nv (w (245 + k))
def he (w : Nat → Int32) : Nat := nv (w 341)
def tm (w : Nat → Int32) : Nat := nv (w 462)
def hd (w : Nat → Int32) : Nat := nv (w 463)
def sn (w : Nat → Int32) : Nat := nv (w 464)
def am (w : Nat → Int32) (i : Nat) : Nat := ac w (4 * i) + 2 * ac w (4 * i + 1) + 4 * ac w (4 * i + 2) + 8 * ac w (4 * i + 3)
def tb (m i : Nat) : Nat := m / 2 ^ i % 2
def cb (m : Nat) : Nat → Nat
  | 0 => 0
  | i + 1 => cb m i + tb m i
def pc4 (m : Nat) : Nat := cb m 4
/-- the place of the set bit with this index, of four -/
def sb4 (m i : Nat) : Nat := if tb m 0 = 1 ∧ cb m 0 = i then 0 else if tb m 1 = 1 ∧ cb m 1 = i then 1 else if tb m 2 = 1 ∧ cb m 2 = i then 2 else 3
/-- the least of f 0 .. f (k-1) below lim, and the mask of those that have it -/
def bmL (lim : Nat) (f : Nat → Nat) : Nat → Nat × Nat
  | 0 => (lim, 0)
  | k + 1 => if f k < (bmL lim f k).1 then (f k, 2 ^ k) else if f k = (bmL lim f k).1 ∧ (bmL lim f k).1 < lim then ((bmL lim f k).1, (bmL lim f k).2 + 2 ^ k) else bmL lim f k
def rcd (w : Nat → Int32) (d i : Nat) : Nat := if am w i = 0 then 99 else if w (197 + 4 * d + i) = nI 0 then pq w d i else if w (197 + 4 * d + i) = nI 1 then 10 + pq w d i else 99
def rts (w : Nat → Int32) (d : Nat) : Nat := (bmL 99 (rcd w d) (nn w)).2
def pfd (w : Nat → Int32) (d : Nat) (st : Int32) (i : Nat) : Nat := if w (197 + 4 * d + i) = st ∧ ¬ am w i = 0 then pq w d i else 3
def lks (w : Nat → Int32) (m sel : Nat) : Nat := sb4 m (sel % pc4 m)
def lko (w : Nat → Int32) (m sel : Nat) : Nat := lks w m sel * 4 + sb4 (am w (lks w m sel)) (sel / pc4 m % pc4 (am w (lks w m sel)))
/-- the link of a selector over these routes; -1: none -/
def lkm (w : Nat → Int32) (m sel : Nat) : Int32 := if m = 0 then -1 else nI (lko w m sel)
def lk (w : Nat → Int32) (k : Nat) : Int32 := lkm w (rts w (k / 16)) (k % 16)
theorem bmL_lim {lim : Nat} {f : Nat → Nat} : ∀ k, (bmL lim f k).1 ≤ lim
  | 0 => Nat.le_refl _
  | k + 1 => by
    have := bmL_lim (lim := lim) (f := f) k
    simp only [bmL]
    split
    · show f k ≤ lim; omega
    · split
      · exact this
      · exact this
theorem bmL_lt {lim : Nat} {f : Nat → Nat} : ∀ k, (bmL lim f k).2 < 2 ^ k
  | 0 => by simp [bmL]
  | k + 1 => by
    have := bmL_lt (lim := lim) (f := f) k
    have h2 : 2 ^ (k + 1) = 2 ^ k + 2 ^ k := by rw [Nat.pow_succ]; omega
    simp only [bmL]
    split
    · show 2 ^ k < 2 ^ (k + 1); omega
    · split
      · show (bmL lim f k).2 + 2 ^ k < 2 ^ (k + 1); omega
      · omega
theorem bmL_0 {lim : Nat} {f : Nat → Nat} : ∀ k, ((bmL lim f k).2 = 0 ↔ (bmL lim f k).1 = lim)
  | 0 => by simp [bmL]
  | k + 1 => by
    have h := bmL_0 (lim := lim) (f := f) k
    have h1 := bmL_lim (lim := lim) (f := f) k
    have h2 : 0 < 2 ^ k := Nat.pow_pos (by decide)
    simp only [bmL]
    split
    · show 2 ^ k = 0 ↔ f k = lim; omega
    · split
      · show (bmL lim f k).2 + 2 ^ k = 0 ↔ (bmL lim f k).1 = lim; omega
      · exact h
theorem tb_add : ∀ m, m < 16 → ∀ k, k < 4 → ∀ i, i < 4 → m < 2 ^ k → tb (m + 2 ^ k) i = if i = k then 1 else tb m i := by decide +kernel
theorem tb_pow : ∀ k, k < 4 → ∀ i, i < 4 → tb (2 ^ k) i = if i = k then 1 else 0 := by decide +kernel
theorem bmL_tb {lim : Nat} {f : Nat → Nat} : ∀ k, k ≤ 4 → ∀ i, i < 4 → tb (bmL lim f k).2 i = 1 → i < k ∧ f i < lim
  | 0, _, i, _, h => by simp [bmL, tb] at h
  | k + 1, hk, i, hi, h => by
    have ih := bmL_tb (lim := lim) (f := f) k (by omega) i hi
    have hl := bmL_lim (lim := lim) (f := f) k
    have hlt := bmL_lt (lim := lim) (f := f) k
    have h16 : 2 ^ k ≤ 16 := by
      have := Nat.pow_le_pow_right (n := 2) (by decide) (show k ≤ 4 by omega)
      simpa using this
    simp only [bmL] at h
    split at h
    · rw [tb_pow k (by omega) i hi] at h
      split at h
      · subst_vars; exact ⟨by omega, by omega⟩
      · omega
    · split at h
      · rename_i h1 h2
        rw [tb_add _ (by omega) k (by omega) i hi hlt] at h
        split at h
        · subst_vars; exact ⟨by omega, by omega⟩
        · have := ih h; exact ⟨by omega, this.2⟩
      · have := ih h; exact ⟨by omega, this.2⟩
theorem bmL_two {f g0 g1 : Nat → Nat} {n : Nat} (h : ∀ i, i < n → (f i = g0 i ∧ g0 i < 3 ∧ g1 i = 3) ∨ (g0 i = 3 ∧ g1 i < 3 ∧ f i = 10 + g1 i) ∨ (g0 i = 3 ∧ g1 i = 3 ∧ f i = 99)) : ∀ k, k ≤ n →
    ((bmL 3 g0 k).1 < 3 → (bmL 99 f k) = bmL 3 g0 k) ∧ ((bmL 3 g0 k).1 = 3 → (bmL 3 g1 k).1 < 3 → bmL 99 f k = (10 + (bmL 3 g1 k).1, (bmL 3 g1 k).2)) ∧ ((bmL 3 g0 k).1 = 3 → (bmL 3 g1 k).1 = 3 → bmL 99 f k = (99, 0) ∧ (bmL 3 g1 k).2 = 0)
  | 0, _ => by simp [bmL]
  | k + 1, hk => by
    obtain ⟨a, b, c⟩ := bmL_two h k (by omega)
    have l0 := bmL_lim (lim := 3) (f := g0) k
    have l1 := bmL_lim (lim := 3) (f := g1) k
    have z1 := bmL_0 (lim := 3) (f := g1) k
    have hh := h k (by omega)
    simp only [bmL]
    generalize bmL 3 g0 k = X at *
    generalize bmL 3 g1 k = Y at *
    generalize bmL 99 f k = Z at *
    generalize f k = u at *
    generalize g0 k = v0 at *
    generalize g1 k = v1 at *
    clear h
    obtain ⟨x1, x2⟩ := X
    obtain ⟨y1, y2⟩ := Y
    obtain ⟨z1', z2⟩ := Z
    simp only [Prod.mk.injEq] at *
    rcases hh with ⟨rfl, p2, rfl⟩ | ⟨rfl, p2, rfl⟩ | ⟨rfl, rfl, rfl⟩ <;> refine ⟨?_, ?_, ?_⟩ <;> (repeat' split) <;> simp only [Prod.mk.injEq] <;> first | omega | (intros; trivial)
