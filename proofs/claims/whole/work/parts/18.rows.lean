/-! the rows' changes that both programs make -/
section R18
variable {c : Nat} {w : Nat → Int32}
theorem lk_some (h : WF c w) {k : Nat} (hk : k < 96) (hne : ¬ lk w k = -1) : ∃ p, p < 16 ∧ p < 4 * nn w ∧ ac w p = 1 ∧ lk w k = nI p := by
  have hm := rts_lt h (k / 16)
  by_cases h0 : rts w (k / 16) = 0
  · exact absurd (by unfold lk lkm; rw [if_pos h0]) hne
  · have hp := pc4_le _ hm
    have hi : k % 16 % pc4 (rts w (k / 16)) < pc4 (rts w (k / 16)) := Nat.mod_lt _ (by omega)
    obtain ⟨h1, h2, -⟩ := sb4_tb _ hm _ (by omega) hi
    obtain ⟨h3, h4⟩ := rts_tb h h2 h1
    have ha := am_lt h h2
    have hpa := pc4_le _ ha
    have hi2 : k % 16 / pc4 (rts w (k / 16)) % pc4 (am w (sb4 (rts w (k / 16)) (k % 16 % pc4 (rts w (k / 16))))) < pc4 (am w (sb4 (rts w (k / 16)) (k % 16 % pc4 (rts w (k / 16))))) := Nat.mod_lt _ (by omega)
    obtain ⟨g1, g2, -⟩ := sb4_tb _ ha _ (by omega) hi2
    rw [am_tb h h2 g2] at g1
    refine ⟨lko w (rts w (k / 16)) (k % 16), ?_, ?_, ?_, by unfold lk lkm; rw [if_neg h0]⟩
    · unfold lko lks; omega
    · unfold lko lks; omega
    · have e : lko w (rts w (k / 16)) (k % 16) = 4 * sb4 (rts w (k / 16)) (k % 16 % pc4 (rts w (k / 16))) + sb4 (am w (sb4 (rts w (k / 16)) (k % 16 % pc4 (rts w (k / 16))))) (k % 16 / pc4 (rts w (k / 16)) % pc4 (am w (sb4 (rts w (k / 16)) (k % 16 % pc4 (rts w (k / 16)))))) := by unfold lko lks; omega
      rw [e]; exact g1
end R18
/-- a message (128 times its number and its stream) is dispatched -/
def dsp (w : Nat → Int32) (M : Nat) : Nat → Int32 :=
  if lk w (M % 128) = -1 then upd w 467 (w 467 + nI 1)
  else if le w (nv (lk w (M % 128))) = 10 then upd w 469 (w 469 + nI 1)
  else upd (upd w (37 + 10 * nv (lk w (M % 128)) + le w (nv (lk w (M % 128)))) (nI M)) (21 + nv (lk w (M % 128))) (nI (le w (nv (lk w (M % 128))) + 1))
theorem dsp_1 {w : Nat → Int32} {M k : Nat} (hk : M % 128 = k) (h : lk w k = -1) : dsp w M = upd w 467 (w 467 + nI 1) := by unfold dsp; rw [hk, if_pos h]
theorem dsp_2 {w : Nat → Int32} {M k p : Nat} (hk : M % 128 = k) (h : lk w k = nI p) (hp : p < 16) (hl : le w p = 10) : dsp w M = upd w 469 (w 469 + nI 1) := by
  unfold dsp
  rw [hk, h, if_neg (m1_ne (by omega)), nv_nI (by omega), if_pos hl]
theorem dsp_3 {w : Nat → Int32} {M k p : Nat} (hk : M % 128 = k) (h : lk w k = nI p) (hp : p < 16) (hl : ¬ le w p = 10) : dsp w M = upd (upd w (37 + 10 * p + le w p) (nI M)) (21 + p) (nI (le w p + 1)) := by
  unfold dsp
  rw [hk, h, if_neg (m1_ne (by omega)), nv_nI (by omega), if_neg hl]
theorem dsp_ne {c : Nat} {w : Nat → Int32} (h : WF c w) {M j : Nat} (hk : M % 128 < 96) (h1 : ¬ (21 ≤ j ∧ j < 197)) (h2 : j ≠ 467) (h3 : j ≠ 469) : dsp w M j = w j := by
  by_cases e : lk w (M % 128) = -1
  · rw [dsp_1 rfl e, pk_un h2]
  · obtain ⟨p, hp, -, -, hq⟩ := lk_some h hk e
    by_cases hl : le w p = 10
    · rw [dsp_2 rfl hq hp hl, pk_un h3]
    · have := (h.l p hp).2
      rw [dsp_3 rfl hq hp hl, pk_un (by omega), pk_un (by omega)]
def dspN (w : Nat → Int32) (f : Nat → Nat) : Nat → (Nat → Int32)
  | 0 => w
  | n + 1 => dsp (dspN w f n) (f n)
/-- a message is delivered -/
def dlv (w : Nat → Int32) (M : Nat) : Nat → Int32 := upd (upd (upd w 465 (w 465 + nI 1)) 466 (w 466 + (if nI M < w (366 + M % 128) then nI 1 else nI 0))) (366 + M % 128) (if nI M < w (366 + M % 128) then w (366 + M % 128) else nI M)
theorem dlv_1 {w : Nat → Int32} {M k : Nat} (hk : M % 128 = k) (hk2 : k < 96) (h : nI M < w (366 + k)) : dlv w M = upd (upd w 465 (w 465 + nI 1)) 466 (upd w 465 (w 465 + nI 1) 466 + nI 1) := by
  unfold dlv
  rw [hk, if_pos h, if_pos h, pk_un (f := w) (by omega)]
  funext j
  unfold upd
  by_cases e : j = 366 + k
  · rw [if_pos e, e, if_neg (by omega), if_neg (by omega)]
  · rw [if_neg e]
theorem dlv_2 {w : Nat → Int32} {M k : Nat} (hk : M % 128 = k) (h : ¬ nI M < w (366 + k)) : dlv w M = upd (upd w 465 (w 465 + nI 1)) (366 + k) (nI M) := by
  unfold dlv
  rw [hk, if_neg h, if_neg h]
  funext j
  unfold upd
  by_cases e : j = 366 + k
  · rw [if_pos e, if_pos e]
  · rw [if_neg e, if_neg e]
    by_cases e2 : j = 466
    · rw [if_pos e2, e2, if_neg (by omega), show (nI 0 : Int32) = 0 from rfl, Int32.add_zero]
    · rw [if_neg e2]
theorem dlv_ne {w : Nat → Int32} {M j : Nat} (h1 : j ≠ 465) (h2 : j ≠ 466) (h3 : j ≠ 366 + M % 128) : dlv w M j = w j := by unfold dlv; rw [pk_un h3, pk_un h2, pk_un h1]
theorem grt_iff {a k s : Nat} {x : Int32} (hx : x = -1 ∨ ∃ b, b < s ∧ x = nI (128 * b + k)) (hs : s < 1000) (ha : a < s) (hk : k < 96) : nI a < trg x ↔ nI (128 * a + k) < x := by
  rcases hx with rfl | ⟨b, hb, rfl⟩
  · have e : trg (-1) = -1 := by decide
    rw [e]
    have h1 : ∀ n, n < 2 ^ 31 → ¬ nI n < -1 := fun n hn q => by
      rw [Int32.lt_iff_toInt_lt, nI_toInt hn] at q
      have h2 : (-1 : Int32).toInt = -1 := by decide
      omega
    exact ⟨fun q => absurd q (h1 _ (by omega)), fun q => absurd q (h1 _ (by omega))⟩
  · rw [trg_ok (by omega) hk, nI_ltI (by omega) (by omega), nI_ltI (by omega) (by omega)]; omega
def dlvN (w : Nat → Int32) (f : Nat → Nat) : Nat → (Nat → Int32)
  | 0 => w
  | n + 1 => dlv (dlvN w f n) (f n)
theorem dlvN_ne {w : Nat → Int32} {f : Nat → Nat} {j : Nat} (h : j < 366 ∨ (462 ≤ j ∧ j < 465)) : ∀ n, (∀ i, i < n → f i % 128 < 96) → dlvN w f n j = w j
  | 0, _ => rfl
  | n + 1, hf => by
    have := hf n (by omega)
    show dlv (dlvN w f n) (f n) j = w j
    rw [dlv_ne (by omega) (by omega) (by omega)]
    exact dlvN_ne h n (fun i hi => hf i (by omega))
/-- within queue p the messages from n on move to the front: t of them -/
def shR (w : Nat → Int32) (p n : Nat) : Nat → (Nat → Int32)
  | 0 => w
  | t + 1 => upd (shR w p n t) (37 + 10 * p + t) (shR w p n t (37 + 10 * p + (n + t)))
theorem shR_ne {w : Nat → Int32} {p n j : Nat} : ∀ t, (j < 37 + 10 * p ∨ 37 + 10 * p + t ≤ j) → shR w p n t j = w j
  | 0, _ => rfl
  | t + 1, h => by
    show upd (shR w p n t) (37 + 10 * p + t) _ j = w j
    rw [pk_un (by omega)]
    exact shR_ne t (by omega)
def msg (w : Nat → Int32) (p j : Nat) : Nat := nv (w (37 + 10 * p + j))
/-- n messages of link p are delivered -/
def ackR (w : Nat → Int32) (p n : Nat) : Nat → Int32 := upd (shR (dlvN w (msg w p) n) p n (le w p - n)) (21 + p) (nI (le w p - n))
def flR (w : Nat → Int32) (p : Nat) : Nat → Int32 := upd (upd w (5 + p) (nI 0)) (21 + p) (nI 0)
/-- link p fails -/
def failR (w : Nat → Int32) (p : Nat) : Nat → Int32 := dspN (flR w p) (msg w p) (le w p)
/-- a message comes to the holding buffer -/
def hld (w : Nat → Int32) (M : Nat) : Nat → Int32 := if he w = 24 then upd w 469 (w 469 + nI 1) else upd (upd w (342 + he w) (nI M)) 341 (nI (he w + 1))
def sndX (w : Nat → Int32) (k q M : Nat) : Nat → Int32 := if ¬ un w k = 0 then hld w M else if ¬ lk w k = -1 ∧ q < lvl (le w (nv (lk w k))) then upd w 468 (w 468 + nI 1) else dsp w M
def sndR (w : Nat → Int32) (k q : Nat) : Nat → Int32 := sndX (upd w 464 (nI (sn w + 1))) k q (128 * sn w + k)
/-- streams that have moved are held; and how many -/
def dvN (w B : Nat → Int32) : Nat → (Nat → Int32) × Nat
  | 0 => (w, 0)
  | k + 1 => if ¬ hd w = 0 ∧ ¬ B k = -1 ∧ ¬ lk w k = -1 ∧ ¬ lk w k = B k then (upd (dvN w B k).1 (245 + k) (nI (tm w + hd w)), (dvN w B k).2 + 1) else dvN w B k
theorem dvN_ne {w B : Nat → Int32} {j : Nat} : ∀ n, (j < 245 ∨ 245 + n ≤ j) → (dvN w B n).1 j = w j
  | 0, _ => rfl
  | n + 1, h => by
    simp only [dvN]
    split
    · show upd _ _ _ j = w j
      rw [pk_un (by omega)]; exact dvN_ne n (by omega)
    · exact dvN_ne n (by omega)
theorem bmL_congr {lim : Nat} {f g : Nat → Nat} : ∀ n, (∀ i, i < n → f i = g i) → bmL lim f n = bmL lim g n
  | 0, _ => rfl
  | n + 1, h => by
    simp only [bmL]
    rw [bmL_congr n (fun i hi => h i (by omega)), h n (by omega)]
theorem am_congr {w w' : Nat → Int32} (h0 : ∀ j, j < 21 → w' j = w j) {i : Nat} (hi : i < 4) : am w' i = am w i := by
  have hac : ∀ p, p < 16 → ac w' p = ac w p := fun p hp => by unfold ac; rw [h0 (5 + p) (by omega)]
  unfold am
  rw [hac (4 * i) (by omega), hac (4 * i + 1) (by omega), hac (4 * i + 2) (by omega), hac (4 * i + 3) (by omega)]
theorem rcd_congr {w w' : Nat → Int32} {d i : Nat} (h0 : am w' i = am w i) (h1 : w' (197 + 4 * d + i) = w (197 + 4 * d + i)) (h2 : w' (221 + 4 * d + i) = w (221 + 4 * d + i)) : rcd w' d i = rcd w d i := by
  unfold rcd pq
  rw [h0, h1, h2]
theorem rts_congr {w w' : Nat → Int32} {d : Nat} (hd6 : d < 6) (h0 : ∀ j, j < 21 → w' j = w j) (h1 : ∀ j, 197 ≤ j → j < 245 → w' j = w j) (hn : nn w ≤ 4) : rts w' d = rts w d := by
  have hnn : nn w' = nn w := by unfold nn; rw [h0 0 (by omega)]
  unfold rts
  rw [hnn, bmL_congr (nn w) (fun i hi => rcd_congr (am_congr h0 (by omega)) (h1 _ (by omega) (by omega)) (h1 _ (by omega) (by omega)))]
theorem sb4_lt (m i : Nat) : sb4 m i < 4 := by
  unfold sb4
  (repeat' split) <;> omega
theorem lkm_congr {w w' : Nat → Int32} {m k : Nat} (h0 : ∀ j, j < 21 → w' j = w j) : lkm w' m k = lkm w m k := by
  unfold lkm lko lks
  rw [am_congr h0 (sb4_lt m _)]
theorem lk_congr {w w' : Nat → Int32} {k : Nat} (h0 : ∀ j, j < 21 → w' j = w j) (h1 : ∀ j, 197 ≤ j → j < 245 → w' j = w j) (hn : nn w ≤ 4) (hk : k < 96) : lk w' k = lk w k := by
  unfold lk
  rw [rts_congr (by omega) h0 h1 hn]
  exact lkm_congr h0
theorem flag0 : ∀ m, m < 16 → ∀ l, l < 4 → tb m l = 1 → nI m &&& ((nI 1 <<< (nI l &&& 31)) ^^^ (-1)) = nI (m + 0 * 2 ^ l - 1 * 2 ^ l) := by decide +kernel
theorem flag1 : ∀ m, m < 16 → ∀ l, l < 4 → tb m l = 0 → nI m ||| (nI 1 <<< (nI l &&& 31)) = nI (m + 1 * 2 ^ l - 0 * 2 ^ l) := by decide +kernel
theorem shl1 : ∀ m, m < 5 → (nI 1 <<< (nI m &&& 31)) - nI 1 = nI (2 ^ m - 1) := by decide +kernel
theorem xor0 {a b : Nat} (ha : a < 2 ^ 31) (hb : b < 2 ^ 31) : (0 : Int32) ≤ nI a ^^^ nI b := by
  have e : nI a ^^^ nI b = nI (a ^^^ b) := by
    apply Int32.toBitVec_inj.mp
    simp only [Int32.toBitVec_xor, nI, Int32.toBitVec_ofNat]
    exact (BitVec.ofNat_xor ..).symm
  rw [e]
  exact nI_pos' (Nat.xor_lt_two_pow ha hb)
theorem mmin_nI {a b : Nat} (ha : a < 2 ^ 31) (hb : b < 2 ^ 31) : (if nI b < nI a then nI b else nI a) = nI (min a b) := by
  by_cases h : b < a
  · rw [if_pos ((nI_ltI hb ha).mpr h), Nat.min_eq_right (by omega)]
  · rw [if_neg (fun q => h ((nI_ltI hb ha).mp q)), Nat.min_eq_left (by omega)]
