/-! pure rows: neutrals, levels -/
theorem wk_bs {n : Int} {K : Int → Int} (hn : 0 ≤ n) (h : BS n K) : BS n (wk n K) ∧ wk n K 0 = K 0 ∧ wk n K (n + 1) = K (n + 1) := by
  obtain ⟨b1, c1, d1⟩ := BS_1 hn h
  obtain ⟨b2, c2, d2⟩ := BS_2 hn b1
  obtain ⟨b3, c3, d3⟩ := BS_3 hn b2
  obtain ⟨b4, c4, d4⟩ := BS_4 hn b3
  obtain ⟨b5, c5, d5⟩ := BS_5 hn b4
  obtain ⟨b6, c6, d6⟩ := BS_6 hn b5
  obtain ⟨b7, c7, d7⟩ := BS_7 hn b6
  unfold wk
  exact ⟨b7, by rw [← c7, ← c6, ← c5, ← c4, ← c3, ← c2, ← c1], by rw [← d7, ← d6, ← d5, ← d4, ← d3, ← d2, ← d1]⟩
theorem wk_congr {n : Int} {f g : Int → Int} (hn : 0 ≤ n) (hB : BS n f) (h : EqR n f g) : EqR n (wk n f) (wk n g) := by
  obtain ⟨b1, c1, d1⟩ := BS_1 hn hB
  obtain ⟨b2, c2, d2⟩ := BS_2 hn b1
  obtain ⟨b3, c3, d3⟩ := BS_3 hn b2
  unfold wk
  exact EqR_7 (EqR_6 (EqR_5 (EqR_4 (EqR_3 (EqR_2 (EqR_1 h))) b3.2.1)))
theorem BS_8 {b n : Int} {K : Int → Int} (hn : 0 ≤ n) (hb : b = 0 ∨ b = 1) (h : BS n K) : K 0 = w8 b n K 0 ∧ K (n + 1) = w8 b n K (n + 1) ∧ RGK n (w8 b n K) := by
  have e0 : w8 b n K 0 = K 0 := if_neg (by have := h.1; omega)
  have e1 : w8 b n K (n + 1) = K (n + 1) := if_neg (by have := h.2.1; omega)
  refine ⟨e0.symm, e1.symm, fun j x y => ?_⟩
  have := h.2.2 j x y
  unfold w8
  split
  · split
    · omega
    · split <;> omega
  · omega
theorem nq_end {b n : Int} {K f g2 : Int → Int} {i to vv : Int} (hg : STG n (w8 b n K) K i f) (hi : 1 ≤ i) (ht : to ≤ n + 1) (h1 : ¬ 8 < K (i - 1)) (h2 : ¬ 8 < K to) (hr : ∀ j, i ≤ j → j < to → 8 < K j) (hv : vv = if f (i - 1) = 0 ∧ f to = 0 then 0 else if 0 < f (i - 1) ∧ 0 < f to then 1 else b) (hlt : i < to) (hg2 : ∀ j, g2 j = if i ≤ j ∧ j < to then vv else f j) : STG n (w8 b n K) K to g2 := by
  have e1 : f (i - 1) = K (i - 1) := by
    rw [hg.1 (i - 1) (by omega) (by omega)]
    exact if_neg h1
  have e2 : f to = K to := hg.2 to (by omega) (by omega)
  refine ⟨fun j x y => ?_, fun j x y => ?_⟩
  · by_cases c : i ≤ j
    · obtain ⟨v1, v2⟩ := run_val (P := pQ) (n := n) (K := K) (i := i) (to := to) (j := j) hi ht (decide_eq_false h1) (decide_eq_false h2) (fun k p q => decide_eq_true (hr k p q)) c y
      rw [hg2 j, if_pos ⟨c, y⟩]
      unfold w8
      rw [v1, v2, ← e1, ← e2, if_pos (hr j c y)]
      exact hv
    · rw [hg2 j, if_neg (fun q => by omega)]
      exact hg.1 j x (by omega)
  · rw [hg2 j, if_neg (fun q => by omega)]
    exact hg.2 j (by omega) y
/-- the classes of a text, with the base at both ends -/
def k0f (sz tx : Int → Int) (n b : Int) (j : Int) : Int := if j = 0 ∨ j = n + 1 then b else sz (tx (j - 1))
def lv0 (b c : Int) : Int := if b = 0 then (if c < 2 then c else 2) else (if c = 1 then 1 else 2)
def gapf (sz tx : Int → Int) : Nat → Int → Int
  | 0, _ => 1
  | d + 1, i => if sz (tx i) = 10 ∨ (sz (tx i) = 9 ∧ gapf sz tx d (i + 1) = 1) then 1 else 0
theorem gapf_s {sz tx : Int → Int} {d i : Int} (h : 1 ≤ d) : gapf sz tx d.toNat i = if sz (tx i) = 10 ∨ (sz (tx i) = 9 ∧ gapf sz tx (d - 1).toNat (i + 1) = 1) then 1 else 0 := by
  rw [show d.toNat = (d - 1).toNat + 1 by omega]
  rfl
def kff (sz tx : Int → Int) (n b : Int) : Int → Int := w8 b n (wk n (k0f sz tx n b))
/-- the level of the j-th -/
def lvf (sz tx : Int → Int) (n w j : Int) : Int := if gapf sz tx (n - j).toNat j = 1 then bsf sz tx n w else lv0 (bsf sz tx n w) (kff sz tx n (bsf sz tx n w) (j + 1))
theorem k0_bs {sz tx : Int → Int} {n b : Int} (hn : 0 ≤ n) (hb : b = 0 ∨ b = 1) (hs : ∀ j, 0 ≤ j → j < n → 0 ≤ sz (tx j) ∧ sz (tx j) ≤ 11) : BS n (k0f sz tx n b) := by
  refine ⟨?_, ?_, fun j x y => ?_⟩
  · rw [show k0f sz tx n b 0 = b from if_pos (Or.inl rfl)]; exact hb
  · rw [show k0f sz tx n b (n + 1) = b from if_pos (Or.inr rfl)]; exact hb
  · unfold k0f
    split
    · omega
    · exact hs (j - 1) (by omega) (by omega)
theorem lv0_rng {b c : Int} (hb : b = 0 ∨ b = 1) (hc : 0 ≤ c) : 0 ≤ lv0 b c ∧ lv0 b c ≤ 2 := by
  unfold lv0
  split
  · split <;> omega
  · split <;> omega
