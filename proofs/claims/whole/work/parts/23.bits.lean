/-! the hash -/
def mx (h : Int64) (v : Int32) : Int64 := 31 * h + Int32.toInt64 v
def mxN (f : Nat → Int32) (h : Int64) : Nat → Int64
  | 0 => h
  | n + 1 => mx (mxN f h n) (f n)
def mxC (w : Nat → Int32) (h : Int64) : Int64 := mx (mx (mx (mx (mx (mx (mx (mx h (w 462)) (w 463)) (w 464)) (w 465)) (w 466)) (w 467)) (w 468)) (w 469)
def mxQ (w : Nat → Int32) (p : Nat) (h : Int64) : Int64 := mxN (fun j => nI (msg w p j / 128)) (mx h (nI (le w p))) (le w p)
def mxK (w : Nat → Int32) (i : Nat) (h : Int64) : Nat → Int64
  | 0 => h
  | l + 1 => mxQ w (i * 4 + l) (mx (mxK w i h l) (nI (ac w (4 * i + l))))
def mxS (w : Nat → Int32) (h : Int64) : Nat → Int64
  | 0 => h
  | i + 1 => mxK w i (mx (mxS w h i) (nI (mn w i))) (mn w i)
def mxR (w : Nat → Int32) (d : Nat) (h : Int64) : Nat → Int64
  | 0 => h
  | i + 1 => mx (mx (mxR w d h i) (w (197 + 4 * d + i))) (w (221 + 4 * d + i))
def mxT (w : Nat → Int32) (d : Nat) (h : Int64) : Nat → Int64
  | 0 => h
  | s + 1 => mx (mx (mxT w d h s) (lkm w (rts w d) s)) (nI (if un w (d * 16 + s) = 0 then 0 else 1))
def mxD (w : Nat → Int32) (d : Nat) (h : Int64) : Int64 := mxT w d (mxR w d h (nn w)) 16
def mxDs (w : Nat → Int32) (h : Int64) : Nat → Int64
  | 0 => h
  | d + 1 => mxD w d (mxDs w h d)
def mxH (w : Nat → Int32) (h : Int64) : Int64 := mxN (fun j => nI (nv (w (342 + j)) / 128)) (mx h (nI (he w))) (he w)
/-! how many links a destination's streams use -/
def usd (w : Nat → Int32) (d : Nat) : Nat → Nat
  | 0 => 0
  | s + 1 => if lkm w (rts w d) s = -1 then usd w d s else usd w d s ||| 2 ^ nv (lkm w (rts w d) s)
theorem lk_lkm {w : Nat → Int32} {d s : Nat} (hs : s < 16) : lk w (d * 16 + s) = lkm w (rts w d) s := by
  unfold lk
  rw [show (d * 16 + s) / 16 = d by omega, show (d * 16 + s) % 16 = s by omega]
theorem usd_lt {c : Nat} {w : Nat → Int32} (h : WF c w) {d : Nat} (hd : d < 6) : ∀ n, n ≤ 16 → usd w d n < 65536
  | 0, _ => by simp [usd]
  | n + 1, hn => by
    have ih := usd_lt h hd n (by omega)
    simp only [usd]
    by_cases e : lkm w (rts w d) n = -1
    · rw [if_pos e]; exact ih
    · rw [if_neg e]
      have e2 := e
      rw [← lk_lkm (by omega)] at e2
      obtain ⟨p, hp, -, -, hq⟩ := lk_some h (by omega) e2
      rw [lk_lkm (by omega)] at hq
      rw [hq, nv_nI (by omega)]
      exact Nat.or_lt_two_pow (n := 16) ih (Nat.pow_lt_pow_right (by decide) hp)
theorem nI_or (a b : Nat) : nI a ||| nI b = nI (a ||| b) := by
  apply Int32.toBitVec_inj.mp
  simp only [Int32.toBitVec_or, nI, Int32.toBitVec_ofNat]
  exact (BitVec.ofNat_or ..).symm
theorem nI_and (a b : Nat) : nI a &&& nI b = nI (a &&& b) := by
  apply Int32.toBitVec_inj.mp
  simp only [Int32.toBitVec_and, nI, Int32.toBitVec_ofNat]
  exact (BitVec.ofNat_and ..).symm
theorem shl16 : ∀ p, p < 16 → nI 1 <<< (nI p &&& 31) = nI (2 ^ p) := by decide +kernel
theorem or16 {m p : Nat} (hp : p < 16) : nI m ||| (nI 1 <<< (nI p &&& 31)) = nI (m ||| 2 ^ p) := by rw [shl16 p hp, nI_or]
def bnA (x : Nat) : Nat := x - (x / 2 ^ 1 &&& 1431655765)
def bnB (x : Nat) : Nat := (x &&& 858993459) + (x / 2 ^ 2 &&& 858993459)
def bnC (x : Nat) : Nat := (x + x / 2 ^ 4) &&& 252645135
def bnD (x : Nat) : Nat := x + x / 2 ^ 8
def bnE (x : Nat) : Nat := x + x / 2 ^ 16
theorem and_le1 (x m : Nat) : x &&& m ≤ x := Nat.and_le_left
theorem bcA_n {x : Nat} (h : x < 2 ^ 31) : bcA (nI x) = nI (bnA x) := by
  unfold bcA bnA
  rw [pk_ushrN (by omega) (nI 1) 1 (by decide), show (1431655765 : Int32) = nI 1431655765 from by decide, nI_and, pk_sub (Nat.le_trans (and_le1 _ _) (by omega))]
theorem bcB_n {x : Nat} (h : x < 2 ^ 31) : bcB (nI x) = nI (bnB x) := by
  unfold bcB bnB
  rw [pk_ushrN (by omega) (nI 2) 2 (by decide), show (858993459 : Int32) = nI 858993459 from by decide, nI_and, nI_and, nI_add]
theorem bcC_n {x : Nat} (h : x < 2 ^ 31) : bcC (nI x) = nI (bnC x) := by
  unfold bcC bnC
  rw [pk_ushrN (by omega) (nI 4) 4 (by decide), show (252645135 : Int32) = nI 252645135 from by decide, nI_add, nI_and]
theorem bcD_n {x : Nat} (h : x < 2 ^ 31) : bcD (nI x) = nI (bnD x) := by
  unfold bcD bnD
  rw [pk_ushrN (by omega) (nI 8) 8 (by decide), nI_add]
theorem bcE_n {x : Nat} (h : x < 2 ^ 31) : bcE (nI x) = nI (bnE x) := by
  unfold bcE bnE
  rw [pk_ushrN (by omega) (nI 16) 16 (by decide), nI_add]
theorem and_split {a m b n : Nat} (ha : a < 256) (hm : m < 256) : (2 ^ 8 * b + a) &&& (2 ^ 8 * n + m) = 2 ^ 8 * (b &&& n) + (a &&& m) := by
  have hl : a &&& m < 2 ^ 8 := Nat.lt_of_le_of_lt (and_le1 a m) (by omega)
  apply Nat.eq_of_testBit_eq
  intro i
  rw [Nat.testBit_and, Nat.testBit_two_pow_mul_add _ (by omega), Nat.testBit_two_pow_mul_add _ (by omega), Nat.testBit_two_pow_mul_add _ hl]
  by_cases h : i < 8
  · rw [if_pos h, if_pos h, if_pos h, Nat.testBit_and]
  · rw [if_neg h, if_neg h, if_neg h, Nat.testBit_and]
def b8A (t : Nat) : Nat := t - (t / 2 &&& 85)
def b8B (t : Nat) : Nat := (t &&& 51) + (t / 4 &&& 51)
def b8C (t : Nat) : Nat := (t + t / 16) &&& 15
theorem b8_1 : ∀ t, t < 2 → ∀ a, a < 256 → (128 * t + a / 2) &&& 85 = a / 2 &&& 85 := by decide +kernel
theorem b8_2 : ∀ b, b < 256 → b / 2 &&& 5592405 = b / 2 &&& 85 := by decide +kernel
theorem b8_3 : ∀ t, t < 4 → ∀ a, a < 256 → (64 * t + a / 4) &&& 51 = a / 4 &&& 51 := by decide +kernel
theorem b8_4 : ∀ b, b < 256 → b / 4 &&& 3355443 = b / 4 &&& 51 ∧ b &&& 3355443 = b &&& 51 := by decide +kernel
theorem b8_5 : ∀ a, a < 256 → b8A a < 256 ∧ b8B (b8A a) ≤ 68 ∧ b8B (b8A a) % 16 ≤ 4 ∧ b8C (b8B (b8A a)) = cb a 8 ∧ cb a 8 ≤ 8 := by decide +kernel
theorem b8_6 : ∀ t, t < 5 → ∀ p, p < 69 → (p + p / 16 + 16 * t) &&& 15 = (p + p / 16) &&& 15 := by decide +kernel
theorem b8_7 : ∀ q, q < 69 → (q + q / 16) &&& 986895 = (q + q / 16) &&& 15 := by decide +kernel
theorem bnA_s {a b : Nat} (ha : a < 256) (hb : b < 256) : bnA (2 ^ 8 * b + a) = 2 ^ 8 * b8A b + b8A a := by
  unfold bnA b8A
  rw [show (2 ^ 8 * b + a) / 2 ^ 1 = 2 ^ 8 * (b / 2) + (128 * (b % 2) + a / 2) by omega, show (1431655765 : Nat) = 2 ^ 8 * 5592405 + 85 by decide, and_split (by omega) (by omega), b8_1 _ (by omega) a ha, b8_2 b hb]
  have h1 := and_le1 (b / 2) 85
  have h2 := and_le1 (a / 2) 85
  omega
theorem bnB_s {p q : Nat} (hp : p < 256) (hq : q < 256) : bnB (2 ^ 8 * q + p) = 2 ^ 8 * b8B q + b8B p := by
  unfold bnB b8B
  rw [show (2 ^ 8 * q + p) / 2 ^ 2 = 2 ^ 8 * (q / 4) + (64 * (q % 4) + p / 4) by omega, show (858993459 : Nat) = 2 ^ 8 * 3355443 + 51 by decide, and_split (by omega) (by omega), and_split (by omega) (by omega), b8_3 _ (by omega) p hp, (b8_4 q hq).1, (b8_4 q hq).2]
  omega
theorem bnC_s {p q : Nat} (hp : p ≤ 68) (hq : q ≤ 68) (hq4 : q % 16 ≤ 4) : bnC (2 ^ 8 * q + p) = 2 ^ 8 * b8C q + b8C p := by
  unfold bnC b8C
  rw [show 2 ^ 8 * q + p + (2 ^ 8 * q + p) / 2 ^ 4 = 2 ^ 8 * (q + q / 16) + (p + p / 16 + 16 * (q % 16)) by omega, show (252645135 : Nat) = 2 ^ 8 * 986895 + 15 by decide, and_split (by omega) (by omega), b8_6 _ (by omega) p (by omega), b8_7 q (by omega)]
theorem tb_bit (m i : Nat) : tb m i = if Nat.testBit m i = true then 1 else 0 := by
  unfold tb
  rw [Nat.testBit_eq_decide_div_mod_eq]
  rcases Nat.mod_two_eq_zero_or_one (m / 2 ^ i) with h | h <;> simp [h]
theorem cb_lo {a b : Nat} (ha : a < 256) : ∀ n, n ≤ 8 → cb (2 ^ 8 * b + a) n = cb a n
  | 0, _ => rfl
  | n + 1, hn => by
    simp only [cb]
    have e : (2 ^ 8 * b + a).testBit n = a.testBit n := by rw [Nat.testBit_two_pow_mul_add _ (by omega), if_pos (by omega)]
    rw [cb_lo ha n (by omega), tb_bit, tb_bit, e]
theorem cb_hi {a b : Nat} (ha : a < 256) : ∀ n, cb (2 ^ 8 * b + a) (8 + n) = cb b n + cb a 8
  | 0 => by rw [show 8 + 0 = 8 from rfl, cb_lo ha 8 (Nat.le_refl _)]; simp [cb]
  | n + 1 => by
    show cb (2 ^ 8 * b + a) (8 + n) + tb (2 ^ 8 * b + a) (8 + n) = cb b n + tb b n + cb a 8
    have e : (2 ^ 8 * b + a).testBit (8 + n) = b.testBit n := by rw [Nat.testBit_two_pow_mul_add _ (by omega), if_neg (by omega), Nat.add_sub_cancel_left]
    rw [cb_hi ha n, tb_bit, tb_bit, e]
    omega
theorem cb_s {a b : Nat} (ha : a < 256) : cb (2 ^ 8 * b + a) 16 = cb b 8 + cb a 8 := cb_hi ha 8
theorem bc65 {x : Nat} (h : x < 65536) : bcE (bcD (bcC (bcB (bcA (nI x))))) &&& nI 63 = nI (cb x 16) := by
  have a1 : bnA x < 65536 := by unfold bnA; omega
  have a2 : bnB (bnA x) < 2 ^ 20 := by unfold bnB; have := and_le1 (bnA x) 858993459; have := and_le1 (bnA x / 2 ^ 2) 858993459; omega
  have a3 : bnC (bnB (bnA x)) < 2 ^ 22 := by unfold bnC; have := and_le1 (bnB (bnA x) + bnB (bnA x) / 2 ^ 4) 252645135; omega
  have a4 : bnD (bnC (bnB (bnA x))) < 2 ^ 23 := by unfold bnD; omega
  rw [bcA_n (by omega), bcB_n (by omega), bcC_n (by omega), bcD_n (by omega), bcE_n (by omega), nI_and]
  have hx : x = 2 ^ 8 * (x / 256) + x % 256 := by omega
  have ha : x % 256 < 256 := by omega
  have hb : x / 256 < 256 := by omega
  generalize x % 256 = a at *
  generalize x / 256 = b at *
  subst hx
  obtain ⟨p1, p2, p3, p4, p5⟩ := b8_5 a ha
  obtain ⟨q1, q2, q3, q4, q5⟩ := b8_5 b hb
  rw [bnA_s ha hb, bnB_s p1 q1, bnC_s p2 q2 q3, p4, q4, cb_s ha]
  clear a1 a2 a3 a4 p1 p2 p3 p4 q1 q2 q3 q4 h
  generalize cb a 8 = m at *
  generalize cb b 8 = q at *
  unfold bnD bnE
  rw [show (63 : Nat) = 2 ^ 6 - 1 by decide, Nat.and_two_pow_sub_one_eq_mod]
  have r1 : (2 ^ 8 * q + m) / 2 ^ 8 = q := by omega
  have s1 : (2 ^ 8 * q + m + q) / 2 ^ 16 = 0 := by omega
  rw [r1, s1]
  exact congrArg nI (by omega)
