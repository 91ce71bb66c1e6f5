/-! every good row has a State; so what keeps the relation keeps the row good -/
def S0 (w : Nat → Int32) : Nat → Nat → Int32 := fun k j => match k with
  | 0 => w 462
  | 1 => w 463
  | 2 => w 464
  | 3 => w 465
  | 4 => w 466
  | 5 => w 467
  | 6 => w 468
  | 7 => w 469
  | 8 => w 0
  | 9 => w 341
  | 10 => w (1 + j)
  | 11 => nI (am w j)
  | 12 => w (21 + j)
  | 13 => trm (w (37 + j))
  | 14 => w (197 + j)
  | 15 => w (221 + j)
  | 16 => w (245 + j)
  | 17 => trg (w (366 + j))
  | _ => trm (w (342 + j))
theorem RC_S0 {c : Nat} {w : Nat → Int32} (h : WF c w) : RC c (S0 w) w := by
  refine ⟨h, ⟨rfl, rfl, rfl, rfl, rfl, rfl, rfl, rfl, rfl, rfl⟩, fun _ _ => rfl, fun _ _ => rfl, fun _ _ => rfl, fun p hp j hj => ?_, fun d hd i hi => ?_, fun d hd i hi => ?_, fun k hk => ⟨fun e => ⟨0, Nat.zero_le _, ?_⟩, fun _ => rfl⟩, fun _ _ => rfl, fun _ _ => rfl⟩
  · show trm (w (37 + (p * 10 + j))) = _
    rw [show 37 + (p * 10 + j) = 37 + 10 * p + j by omega]
  · show w (197 + (d * 4 + i)) = _
    rw [show 197 + (d * 4 + i) = 197 + 4 * d + i by omega]
  · show w (221 + (d * 4 + i)) = _
    rw [show 221 + (d * 4 + i) = 221 + 4 * d + i by omega]
  · show w (245 + k) = _
    rw [(h.u k hk).1, e]
theorem WF_dsp {c : Nat} {w : Nat → Int32} (h : WF c w) (hc : c < 1000) {a k : Nat} (ha : a < sn w) (hk : k < 96) : WF c (dsp w (128 * a + k)) := by
  have hm : (128 * a + k) % 128 = k := by omega
  have hR := RC_S0 h
  by_cases e : lk w k = -1
  · rw [dsp_1 hm e]; exact (RC_inc5 hR).wf
  · obtain ⟨p, hp, hpn, -, hq⟩ := lk_some h hk e
    by_cases hl : le w p = 10
    · rw [dsp_2 hm hq hp hl]; exact (RC_inc7 hR).wf
    · have := (h.l p hp).2
      rw [dsp_3 hm hq hp hl]; exact (RC_app hp hpn (by omega) ha hk hc hR).wf
/-- places that no dispatch touches -/
def fx (j : Nat) : Prop := ¬ (21 ≤ j ∧ j < 197) ∧ j ≠ 467 ∧ j ≠ 469
theorem dspN_ok {c : Nat} {w : Nat → Int32} {f : Nat → Nat} (h : WF c w) (hc : c < 1000) : ∀ n, (∀ i, i < n → ∃ a k, a < sn w ∧ k < 96 ∧ f i = 128 * a + k) → WF c (dspN w f n) ∧ ∀ j, fx j → dspN w f n j = w j
  | 0, _ => ⟨h, fun _ _ => rfl⟩
  | n + 1, hf => by
    obtain ⟨h1, h2⟩ := dspN_ok h hc n (fun i hi => hf i (by omega))
    obtain ⟨a, k, ha, hk, e⟩ := hf n (by omega)
    have hs : sn (dspN w f n) = sn w := by unfold sn; rw [h2 464 ⟨by omega, by omega, by omega⟩]
    have hd : dspN w f (n + 1) = dsp (dspN w f n) (128 * a + k) := by rw [← e]; rfl
    rw [hd]
    exact ⟨WF_dsp h1 hc (by rw [hs]; exact ha) hk, fun j hj => (dsp_ne h1 (by omega) hj.1 hj.2.1 hj.2.2).trans (h2 j hj)⟩
/-- a dispatch and a write at a place that it neither reads nor writes -/
theorem dsp_comm {c : Nat} {w : Nat → Int32} (h : WF c w) {M g : Nat} (x : Int32) (hM : M % 128 < 96) (hg : 245 ≤ g) (h1 : g ≠ 467) (h2 : g ≠ 469) : dsp (upd w g x) M = upd (dsp w M) g x := by
  have hlk : lk (upd w g x) (M % 128) = lk w (M % 128) := lk_congr (fun j hj => pk_un (by omega)) (fun j _ hj => pk_un (by omega)) h.n.2 hM
  have hle : ∀ p, p < 16 → le (upd w g x) p = le w p := fun p hp => by unfold le; rw [pk_un (by omega)]
  by_cases e : lk w (M % 128) = -1
  · rw [dsp_1 rfl (hlk.trans e), dsp_1 rfl e, pk_un (f := w) (by omega)]
    funext j
    unfold upd
    by_cases e1 : j = 467
    · rw [if_pos e1, if_neg (by omega), if_pos e1]
    · rw [if_neg e1, if_neg e1]
  · obtain ⟨p, hp, -, -, hq⟩ := lk_some h hM e
    by_cases hl : le w p = 10
    · rw [dsp_2 rfl (hlk.trans hq) hp ((hle p hp).trans hl), dsp_2 rfl hq hp hl, pk_un (f := w) (by omega)]
      funext j
      unfold upd
      by_cases e1 : j = 469
      · rw [if_pos e1, if_neg (by omega), if_pos e1]
      · rw [if_neg e1, if_neg e1]
    · have hl10 := (h.l p hp).2
      rw [dsp_3 rfl (hlk.trans hq) hp (by rw [hle p hp]; exact hl), dsp_3 rfl hq hp hl, hle p hp]
      generalize le w p = L at *
      funext j
      unfold upd
      by_cases e1 : j = 21 + p
      · rw [if_pos e1, if_neg (by omega), if_pos e1]
      · rw [if_neg e1, if_neg e1]
        by_cases e2 : j = 37 + 10 * p + L
        · rw [if_pos e2, if_neg (by omega), if_pos e2]
        · rw [if_neg e2, if_neg e2]
/-! the holding buffer of a row, taken out -/
def bst (w : Nat → Int32) (i : Nat) : Nat := nv (w (342 + i)) % 128
def lfN (w : Nat → Int32) : Nat → Nat
  | 0 => 0
  | i + 1 => if un w (bst w i) = 0 then lfN w i else lfN w i + 1
def cmpR (w : Nat → Int32) : Nat → (Nat → Int32)
  | 0 => w
  | i + 1 => if un w (bst w i) = 0 then cmpR w i else upd (cmpR w i) (342 + lfN w i) (w (342 + i))
def dspB (b w : Nat → Int32) : Nat → (Nat → Int32)
  | 0 => b
  | i + 1 => if un w (bst w i) = 0 then dsp (dspB b w i) (nv (w (342 + i))) else dspB b w i
theorem lfN_le (w : Nat → Int32) : ∀ i, lfN w i ≤ i
  | 0 => Nat.le_refl _
  | i + 1 => by
    have := lfN_le w i
    simp only [lfN]
    split <;> omega
theorem cmpR_ne {w : Nat → Int32} {j : Nat} : ∀ i, (j < 342 ∨ 342 + lfN w i ≤ j) → cmpR w i j = w j
  | 0, _ => rfl
  | i + 1, h => by
    simp only [cmpR]
    simp only [lfN] at h
    by_cases e : un w (bst w i) = 0
    · rw [if_pos e]; rw [if_pos e] at h; exact cmpR_ne i h
    · rw [if_neg e]; rw [if_neg e] at h; rw [pk_un (by omega)]; exact cmpR_ne i (by omega)
theorem WF_cmp {c : Nat} {w : Nat → Int32} (h : WF c w) (hc : c < 1000) : ∀ i, i ≤ he w → WF c (cmpR w i) ∧ he (cmpR w i) = he w ∧ sn (cmpR w i) = sn w
  | 0, _ => ⟨h, rfl, rfl⟩
  | i + 1, hi => by
    obtain ⟨h1, h2, h3⟩ := WF_cmp h hc i (by omega)
    have h24 := h.h.2
    simp only [cmpR]
    by_cases e : un w (bst w i) = 0
    · rw [if_pos e]; exact ⟨h1, h2, h3⟩
    · rw [if_neg e]
      obtain ⟨a, k, ha, hk, hx⟩ := h.b i (by omega)
      have hl := lfN_le w i
      rw [hx]
      exact ⟨(RC_buf (by omega) (by omega) hk hc (RC_S0 h1)).wf, by unfold he at *; rw [pk_un (by omega)]; exact h2, by unfold sn at *; rw [pk_un (by omega)]; exact h3⟩
theorem dspB_ok {c : Nat} {b w : Nat → Int32} (hb : WF c b) (h : WF c w) (hc : c < 1000) (hs : sn b = sn w) : ∀ i, i ≤ he w → WF c (dspB b w i) ∧ ∀ j, fx j → dspB b w i j = b j
  | 0, _ => ⟨hb, fun _ _ => rfl⟩
  | i + 1, hi => by
    obtain ⟨h1, h2⟩ := dspB_ok hb h hc hs i (by omega)
    obtain ⟨a, k, ha, hk, hx⟩ := h.b i (by omega)
    have h5 := h.e.2
    have hM : nv (w (342 + i)) = 128 * a + k := by rw [hx, nv_nI (by omega)]
    have hs2 : sn (dspB b w i) = sn w := by rw [← hs]; unfold sn; rw [h2 464 ⟨by omega, by omega, by omega⟩]
    simp only [dspB]
    by_cases e : un w (bst w i) = 0
    · rw [if_pos e, hM]
      exact ⟨WF_dsp h1 hc (by rw [hs2]; exact ha) hk, fun j hj => (dsp_ne h1 (by omega) hj.1 hj.2.1 hj.2.2).trans (h2 j hj)⟩
    · rw [if_neg e]; exact ⟨h1, h2⟩
theorem dspB_comm {c : Nat} {b w : Nat → Int32} (hb : WF c b) (h : WF c w) (hc : c < 1000) (hs : sn b = sn w) {g : Nat} (x : Int32) (hg : 245 ≤ g) (g1 : g ≠ 467) (g2 : g ≠ 469) : ∀ i, i ≤ he w → dspB (upd b g x) w i = upd (dspB b w i) g x
  | 0, _ => rfl
  | i + 1, hi => by
    obtain ⟨h1, -⟩ := dspB_ok hb h hc hs i (by omega)
    obtain ⟨a, k, ha, hk, hx⟩ := h.b i (by omega)
    have h5 := h.e.2
    have hM : nv (w (342 + i)) = 128 * a + k := by rw [hx, nv_nI (by omega)]
    simp only [dspB]
    rw [dspB_comm hb h hc hs x hg g1 g2 i (by omega)]
    by_cases e : un w (bst w i) = 0
    · rw [if_pos e, if_pos e]; exact dsp_comm h1 x (by omega) hg g1 g2
    · rw [if_neg e, if_neg e]
/-- the held messages of the streams that are free now are taken out and dispatched -/
def relR (w : Nat → Int32) : Nat → Int32 := dspB (upd (cmpR w (he w)) 341 (nI (lfN w (he w)))) w (he w)
def tickR (w : Nat → Int32) : Nat → Int32 := relR (tkU w)
