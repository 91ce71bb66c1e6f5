/-! each call as an answer, a kind (0: nothing changes, 1: saved and a new row, 2 ..: an error is counted) and a row -/
noncomputable def itc {α : Type} (p : Prop) (a b : α) : α := @ite α p (Classical.propDecidable p) a b
theorem itc_t {α : Type} {p : Prop} {a b : α} (h : p) : itc p a b = a := by unfold itc; exact if_pos h
theorem itc_f {α : Type} {p : Prop} {a b : α} (h : ¬ p) : itc p a b = b := by unfold itc; exact if_neg h
abbrev OP : Type := Int32 × Nat × (Nat → Int32)
abbrev MV : Type := (Nat → Int32) × (Nat → Int32) × (Nat → Int32) × (Nat → Int32) × (Nat → Int32) × Int32 × Int64
def mdU (cI : ClassId) (h : Nat) (b : Nat → Nat) (u : MV) : va_W := mdW cI h b u.1 u.2.1 u.2.2.1 u.2.2.2.1 u.2.2.2.2.1 u.2.2.2.2.2.1 u.2.2.2.2.2.2
def nxM (n : Nat) (w past er : Nat → Int32) (o : OP) (u : MV) : Prop :=
  (o.2.1 = 0 → u.1 = w ∧ u.2.1 = past ∧ u.2.2.1 = er ∧ u.2.2.2.2.2.1 = nI n) ∧
  (o.2.1 = 1 → u.1 = o.2.2 ∧ SV past n w u.2.1 ∧ u.2.2.1 = er ∧ u.2.2.2.2.2.1 = nI (sn1 n)) ∧
  (∀ e, o.2.1 = e + 2 → u.1 = w ∧ u.2.1 = past ∧ u.2.2.1 = upd er e (er e + nI 1) ∧ u.2.2.2.2.2.1 = nI n)
section NX
variable {n : Nat} {w past er bf tk : Nat → Int32} {o : OP} {sv : Int32} {hs : Int64} {a : Int32} {r : Nat → Int32}
theorem nxM_0 (hop : o = (a, 0, r)) (hsv : sv = nI n) : nxM n w past er o (w, past, er, bf, tk, sv, hs) := by
  subst hop
  exact ⟨fun _ => ⟨rfl, rfl, rfl, hsv⟩, fun e => absurd e (by simp), fun e h => absurd h (by simp)⟩
theorem nxM_1 {w2 p2 : Nat → Int32} {sv2 : Int32} (hop : o = (a, 1, r)) (hw : w2 = r) (h : SV past n w p2 ∧ sv2 = nI (sn1 n)) : nxM n w past er o (w2, p2, er, bf, tk, sv2, hs) := by
  subst hop
  exact ⟨fun e => absurd e (by simp), fun _ => ⟨hw, h.1, rfl, h.2⟩, fun e h => absurd h (by simp)⟩
theorem nxM_e {e : Nat} {er2 : Nat → Int32} (hop : o = (a, e + 2, r)) (he : er2 = upd er e (er e + nI 1)) (hsv : sv = nI n) : nxM n w past er o (w, past, er2, bf, tk, sv, hs) := by
  subst hop
  refine ⟨fun h => absurd h (by simp), fun h => absurd h (by simp), fun e' h => ?_⟩
  have h2 : e = e' := by simpa using h
  subst h2
  exact ⟨rfl, rfl, he, hsv⟩
end NX
def bad (w : Nat → Int32) : OP := (-2, 2, w)
def rej (w : Nat → Int32) : OP := (-3, 3, w)
/-- a link's place -/
def pl (x y : Int32) : Nat := 4 * nv x + nv y
def lkB (w : Nat → Int32) : Nat → Int32 := fun j => lk w j
/-- an improvement: the row w1 behind it, the streams' links before it off w -/
def imp (w w1 : Nat → Int32) : (Nat → Int32) × Nat := dvN w1 (lkB w) 96
noncomputable def oAdd (w : Nat → Int32) (x : Int32) : OP := itc (nI 1 ≤ x ∧ x ≤ nI 4) (if nn w = 4 then (-4, 4, w) else (nI (nn w), 1, addR w (nv x))) (bad w)
noncomputable def oFail (w : Nat → Int32) (x y : Int32) : OP := itc (okL w x y) (if ac w (pl x y) = 0 then rej w else (nI (le w (pl x y)), 1, failR w (pl x y))) (bad w)
noncomputable def oRest (w : Nat → Int32) (x y : Int32) : OP := itc (okL w x y) (if ac w (pl x y) = 1 then rej w else (nI (imp w (upd w (5 + pl x y) (nI 1))).2, 1, (imp w (upd w (5 + pl x y) (nI 1))).1)) (bad w)
noncomputable def oAck (w : Nat → Int32) (x y z : Int32) : OP := itc (okL w x y ∧ nI 1 ≤ z ∧ z ≤ nI 10) (nI (min (nv z) (le w (pl x y))), 1, ackR w (pl x y) (min (nv z) (le w (pl x y)))) (bad w)
noncomputable def oQl (w : Nat → Int32) (x y : Int32) : OP := itc (okL w x y) (nI (le w (pl x y)), 0, w) (bad w)
noncomputable def oQd (w : Nat → Int32) (x y z : Int32) : OP := itc (okL w x y ∧ ¬ z < 0) (if nI (le w (pl x y)) ≤ z then -1 else nI (msg w (pl x y) (nv z) / 128), 0, w) (bad w)
noncomputable def oCg (w : Nat → Int32) (x y : Int32) : OP := itc (okL w x y) (nI (lvl (le w (pl x y))), 0, w) (bad w)
noncomputable def oAc (w : Nat → Int32) (x y : Int32) : OP := itc (okL w x y) (nI (ac w (pl x y)), 0, w) (bad w)
def sx (x y : Int32) : Nat := 197 + 4 * nv x + nv y
def px (x y : Int32) : Nat := 221 + 4 * nv x + nv y
noncomputable def oAr (w : Nat → Int32) (x y z : Int32) : OP := itc (okI x 6 ∧ okI y (nn w) ∧ nI 0 ≤ z ∧ z ≤ nI 2) (if w (sx x y) = -1 then (nI (imp w (upd (upd w (sx x y) (nI 0)) (px x y) z)).2, 1, (imp w (upd (upd w (sx x y) (nI 0)) (px x y) z)).1) else rej w) (bad w)
noncomputable def oRr (w : Nat → Int32) (x y : Int32) : OP := itc (okI x 6 ∧ okI y (nn w)) (if w (sx x y) = -1 then rej w else (w (sx x y), 1, upd (upd w (sx x y) (-1)) (px x y) (-1))) (bad w)
noncomputable def oSr (w : Nat → Int32) (x y z : Int32) : OP := itc (okI x 6 ∧ okI y (nn w) ∧ nI 0 ≤ z ∧ z ≤ nI 2) (if w (sx x y) = -1 then rej w else (w (sx x y), 1, if z < w (sx x y) then (imp w (upd w (sx x y) z)).1 else upd w (sx x y) z)) (bad w)
noncomputable def oRs (w : Nat → Int32) (x y : Int32) : OP := itc (okI x 6 ∧ okI y (nn w)) (w (sx x y), 0, w) (bad w)
noncomputable def oCr (w : Nat → Int32) (x : Int32) : OP := itc (okI x 6) (nI (rts w (nv x)), 0, w) (bad w)
noncomputable def oCl (w : Nat → Int32) (x y : Int32) : OP := itc (okI x 6 ∧ okI y 16) (lk w (nv x * 16 + nv y), 0, w) (bad w)
noncomputable def oSnd (w : Nat → Int32) (x y z : Int32) : OP := itc ((okI x 6 ∧ okI y 16) ∧ nI 0 ≤ z ∧ z ≤ nI 3) (nI (sn w), 1, sndR w (nv x * 16 + nv y) (nv z)) (bad w)
noncomputable def oHt (w : Nat → Int32) (x : Int32) : OP := itc (nI 0 ≤ x ∧ x ≤ nI 9) (w 463, 1, upd w 463 x) (bad w)
def oTk (w : Nat → Int32) : OP := (nI (he w - lfN (tkU w) (he w)), 1, tickR w)
def oGet (w : Nat → Int32) (j : Nat) : OP := (w j, 0, w)
noncomputable def oIh (w : Nat → Int32) (x y : Int32) : OP := itc (okI x 6 ∧ okI y 16) (if un w (nv x * 16 + nv y) = 0 then nI 0 else nI 1, 0, w) (bad w)
noncomputable def oSp (w : Nat → Int32) (x : Int32) : OP := itc (okI x 6) (nI (cb (usd w (nv x) 16) 16), 0, w) (bad w)
noncomputable def oEc (w er : Nat → Int32) (x : Int32) : OP := itc (okI x 3) (er (nv x), 0, w) (bad w)
theorem pl_nI {i j : Nat} (hi : i < 2 ^ 31) (hj : j < 2 ^ 31) : pl (nI i) (nI j) = 4 * i + j := by unfold pl; rw [nv_nI hi, nv_nI hj]
theorem sx_nI {i j : Nat} (hi : i < 2 ^ 31) (hj : j < 2 ^ 31) : sx (nI i) (nI j) = 197 + 4 * i + j := by unfold sx; rw [nv_nI hi, nv_nI hj]
theorem px_nI {i j : Nat} (hi : i < 2 ^ 31) (hj : j < 2 ^ 31) : px (nI i) (nI j) = 221 + 4 * i + j := by unfold px; rw [nv_nI hi, nv_nI hj]
theorem in_ab {a b : Nat} {x : Int32} (hb : b < 2 ^ 30) (h : nI a ≤ x ∧ x ≤ nI b) (ha : a < 2 ^ 30) : ∃ m, a ≤ m ∧ m ≤ b ∧ x = nI m := by
  obtain ⟨j, hj, rfl⟩ := (okI_to (n := b) (by omega)).mp ⟨by
    have h1 := h.1
    rw [Int32.le_iff_toInt_le, nI_toInt (by omega)] at h1 ⊢
    omega, h.2⟩
  exact ⟨j, (nI_leI (by omega) (by omega)).mp h.1, by omega, rfl⟩
theorem dvN_congr {w B B' : Nat → Int32} : ∀ n, (∀ j, j < n → B j = B' j) → dvN w B n = dvN w B' n
  | 0, _ => rfl
  | n + 1, h => by
    simp only [dvN]
    rw [dvN_congr n (fun j hj => h j (by omega)), h n (by omega)]
theorem imp_of {w w1 B : Nat → Int32} (h : ∀ j, j < 96 → B j = lk w j) : dvN w1 B 96 = imp w w1 := dvN_congr 96 h
theorem upd_comm {f : Nat → Int32} {a b : Nat} {x y : Int32} (h : a ≠ b) : upd (upd f a x) b y = upd (upd f b y) a x := by
  funext j
  unfold upd
  (repeat' split) <;> first | rfl | omega
/-! a new linkset, in the making -/
def addQ (w : Nat → Int32) (m0 t : Nat) (j : Nat) : Int32 := if j = 1 + nn w then nI m0 else if 5 + 4 * nn w ≤ j ∧ j < 5 + 4 * nn w + t then (if j < 5 + 4 * nn w + m0 then nI 1 else nI 0) else if 21 + 4 * nn w ≤ j ∧ j < 21 + 4 * nn w + t then nI 0 else w j
theorem addQ_0 {w : Nat → Int32} {m0 : Nat} (j : Nat) : upd w (1 + nn w) (nI m0) j = addQ w m0 0 j := by
  unfold addQ upd
  (repeat' split) <;> first | rfl | omega
theorem addQ_s {w wk : Nat → Int32} {m0 t : Nat} {v : Int32} (hn : nn w < 4) (ht : t < 4) (hw : ∀ j, wk j = addQ w m0 t j) (hv : v = if t < m0 then nI 1 else nI 0) (j : Nat) : upd (upd wk (5 + 4 * nn w + t) v) (21 + 4 * nn w + t) (nI 0) j = addQ w m0 (t + 1) j := by
  simp only [upd, hw, addQ, hv]
  (repeat' split) <;> first | rfl | omega
theorem addQ_e {w wk : Nat → Int32} {m0 : Nat} (hn : nn w < 4) (hw : ∀ j, wk j = addQ w m0 4 j) : upd wk 0 (nI (nn w + 1)) = addR w m0 := by
  funext j
  simp only [upd, hw, addQ, addR]
  (repeat' split) <;> first | rfl | omega
/-! the tick: the streams' times, in the making; the messages that are taken out -/
def tkQ (w : Nat → Int32) (t j : Nat) : Int32 := if 245 ≤ j ∧ j < 245 + t then (if tm w + 1 < un w (j - 245) then w j else nI 0) else if j = 462 then nI (tm w + 1) else w j
theorem tkQ_0 {w : Nat → Int32} (j : Nat) : upd w 462 (nI (tm w + 1)) j = tkQ w 0 j := by
  unfold tkQ upd
  (repeat' split) <;> first | rfl | omega
theorem tkQ_s {w wk : Nat → Int32} {t : Nat} {v : Int32} (ht : t < 96) (hw : ∀ j, wk j = tkQ w t j) (hv : v = if tm w + 1 < un w t then w (245 + t) else nI 0) (j : Nat) : upd wk (245 + t) v j = tkQ w (t + 1) j := by
  by_cases h1 : j = 245 + t
  · subst h1
    rw [upd_eq, hv]
    unfold tkQ
    rw [if_pos (show 245 ≤ 245 + t ∧ 245 + t < 245 + (t + 1) by omega), show 245 + t - 245 = t by omega]
  · rw [pk_un h1, hw]
    unfold tkQ
    (repeat' split) <;> first | rfl | omega
theorem tkQ_e {w wk : Nat → Int32} (hw : ∀ j, wk j = tkQ w 96 j) : wk = tkU w := by
  funext j
  rw [hw]
  unfold tkQ tkU
  (repeat' split) <;> first | rfl | omega
theorem tk_mono (w : Nat → Int32) : ∀ {i k : Nat}, i < k → un w (bst w i) = 0 → i - lfN w i < k - lfN w k
  | i, 0, h, _ => absurd h (by omega)
  | i, k + 1, h, e => by
    have hl := lfN_le w k
    by_cases h1 : i = k
    · subst h1
      simp only [lfN]
      rw [if_pos e]
      omega
    · have ih := tk_mono w (i := i) (k := k) (by omega) e
      simp only [lfN]
      split <;> omega
theorem tk_surj (w : Nat → Int32) : ∀ (k j : Nat), j < k - lfN w k → ∃ i, i < k ∧ un w (bst w i) = 0 ∧ i - lfN w i = j
  | 0, j, h => absurd h (by omega)
  | k + 1, j, h => by
    have hl := lfN_le w k
    simp only [lfN] at h
    by_cases e : un w (bst w k) = 0
    · rw [if_pos e] at h
      by_cases h1 : j = k - lfN w k
      · exact ⟨k, by omega, e, h1.symm⟩
      · obtain ⟨i, a, b, c⟩ := tk_surj w k j (by omega)
        exact ⟨i, by omega, b, c⟩
    · rw [if_neg e] at h
      obtain ⟨i, a, b, c⟩ := tk_surj w k j (by omega)
      exact ⟨i, by omega, b, c⟩
theorem dspN_B {b w : Nat → Int32} {t : Nat → Nat} : ∀ i, (∀ j, j < i → un w (bst w j) = 0 → t (j - lfN w j) = nv (w (342 + j))) → dspN b t (i - lfN w i) = dspB b w i
  | 0, _ => rfl
  | i + 1, h => by
    have hl := lfN_le w i
    have ih := dspN_B (b := b) (w := w) (t := t) i (fun j hj => h j (by omega))
    simp only [dspB, lfN]
    by_cases e : un w (bst w i) = 0
    · rw [if_pos e, if_pos e, ← ih, ← h i (by omega) e, show i + 1 - lfN w i = (i - lfN w i) + 1 by omega]
      rfl
    · rw [if_neg e, if_neg e, ← ih, show i + 1 - (lfN w i + 1) = i - lfN w i by omega]
/-! how many links are used -/
theorem usd_tb {c : Nat} {w : Nat → Int32} (h : WF c w) {d p : Nat} (hd : d < 6) (hp : p < 16) : ∀ n, n ≤ 16 → (tb (usd w d n) p = 1 ↔ ∃ s, s < n ∧ lkm w (rts w d) s = nI p)
  | 0, _ => by
    constructor
    · intro e; simp [usd, tb] at e
    · rintro ⟨s, hs, -⟩; omega
  | n + 1, hn => by
    have ih := usd_tb h hd hp n (by omega)
    simp only [usd]
    by_cases e : lkm w (rts w d) n = -1
    · rw [if_pos e, ih]
      constructor
      · rintro ⟨s, hs, q⟩; exact ⟨s, by omega, q⟩
      · rintro ⟨s, hs, q⟩
        by_cases h1 : s = n
        · subst h1; rw [e] at q; exact absurd q.symm (m1_ne (by omega))
        · exact ⟨s, by omega, q⟩
    · rw [if_neg e]
      have e2 := e
      rw [← lk_lkm (by omega)] at e2
      obtain ⟨p0, hp0, -, -, hq⟩ := lk_some h (by omega) e2
      rw [lk_lkm (by omega)] at hq
      rw [hq, nv_nI (by omega)]
      have hb : tb (usd w d n ||| 2 ^ p0) p = 1 ↔ (tb (usd w d n) p = 1 ∨ p0 = p) := by
        rw [tb_bit, tb_bit, Nat.testBit_or, Nat.testBit_two_pow]
        by_cases h1 : (usd w d n).testBit p = true <;> by_cases h2 : p0 = p <;> simp [h1, h2]
      rw [hb, ih]
      constructor
      · rintro (⟨s, hs, q⟩ | q)
        · exact ⟨s, by omega, q⟩
        · exact ⟨n, by omega, by rw [hq, q]⟩
      · rintro ⟨s, hs, q⟩
        by_cases h1 : s = n
        · subst h1; rw [hq] at q; exact Or.inr ((nI_eq (by omega) (by omega)).mp q)
        · exact Or.inl ⟨s, by omega, q⟩
