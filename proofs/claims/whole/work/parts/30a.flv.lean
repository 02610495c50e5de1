def NV (v n : Int) (K : Int → Int) : Prop := ∀ j, 0 ≤ j → j ≤ n + 1 → K j ≠ v
theorem NV_2 {v n : Int} {K : Int → Int} (hv : v ≠ 6) (h : NV v n K) : NV v n (w2 K) := fun j a b => by
  unfold w2; split
  · omega
  · exact h j a b
theorem NV_3 {v n : Int} {K : Int → Int} (hv : v ≠ 1) (h : NV v n K) : NV v n (w3 K) := fun j a b => by
  unfold w3; split
  · omega
  · exact h j a b
theorem NV_4 {v n : Int} {K : Int → Int} (h : NV v n K) : NV v n (w4 K) := by
  have key : ∀ m : Nat, (m : Int) ≤ n + 1 → w4 K m ≠ v := by
    intro m
    induction m with
    | zero => intro hm; exact h 0 (by omega) hm
    | succ m ih =>
      intro hm
      rw [w4_s (by omega), show ((m + 1 : Nat) : Int) - 1 = (m : Int) by omega]
      split
      · exact ih (by omega)
      · exact h _ (by omega) hm
  intro j a b
  have := key j.toNat (by omega)
  rw [show ((j.toNat : Int)) = j by omega] at this
  exact this
theorem NV_5 {v n : Int} {K : Int → Int} (hv : v ≠ 3) (h : NV v n K) : NV v n (w5 n K) := fun j a b => by
  unfold w5; split
  · omega
  · exact h j a b
theorem NV_6 {v n : Int} {K : Int → Int} (hv : v ≠ 11) (h : NV v n K) : NV v n (w6 K) := fun j a b => by
  unfold w6; split
  · omega
  · exact h j a b
theorem NV_7 {v n : Int} {K : Int → Int} (hv : v ≠ 0) (h : NV v n K) : NV v n (w7 K) := fun j a b => by
  unfold w7; split
  · omega
  · exact h j a b
theorem NV_w1 {n : Int} {K : Int → Int} (hn : 0 ≤ n) (hB : BS n K) : NV 8 n (w1 K) := by
  have key : ∀ m : Nat, (m : Int) ≤ n + 1 → w1 K m ≠ 8 := by
    intro m
    induction m with
    | zero => intro hm; show K 0 ≠ 8; have := hB.1; omega
    | succ m ih =>
      intro hm
      rw [w1_s (by omega), show ((m + 1 : Nat) : Int) - 1 = (m : Int) by omega]
      split
      · exact ih (by omega)
      · assumption
  intro j a b
  have := key j.toNat (by omega)
  rw [show ((j.toNat : Int)) = j by omega] at this
  exact this
theorem NV_w6 {n : Int} {K : Int → Int} {v : Int} (hv : v = 4 ∨ v = 5 ∨ v = 7) : NV v n (w6 K) := fun j a b => by
  unfold w6; split
  · omega
  · omega
theorem wk_S7 {n : Int} {K : Int → Int} (hn : 0 ≤ n) (hB : BS n K) : S7 n (wk n K) := by
  have h8 : NV 8 n (wk n K) := NV_7 (by decide) (NV_6 (by decide) (NV_5 (by decide) (NV_4 (NV_3 (by decide) (NV_2 (by decide) (NV_w1 hn hB))))))
  have h2 : NV 2 n (wk n K) := NV_7 (by decide) (NV_6 (by decide) (NV_5 (by decide) (NV_4 (N2_3 n (w2 (w1 K))))))
  have h4 : NV 4 n (wk n K) := NV_7 (by decide) (NV_w6 (by decide))
  have h5 : NV 5 n (wk n K) := NV_7 (by decide) (NV_w6 (by decide))
  have h7 : NV 7 n (wk n K) := NV_7 (by decide) (NV_w6 (by decide))
  intro j a b
  have r := (wk_bs hn hB).1.2.2 j a b
  have := h8 j a b
  have := h2 j a b
  have := h4 j a b
  have := h5 j a b
  have := h7 j a b
  omega
theorem S7_eq {n : Int} {f g : Int → Int} (h : EqR n f g) (hg : S7 n g) : S7 n f := fun j a b => by rw [h j a b]; exact hg j a b
