/-! pure rows: the class's sides -/
theorem stg_keep {n : Int} {w K f : Int → Int} {i : Int} (h : STG n w K i f) (hi : i ≤ n + 1) (he : K i = w i) : STG n w K (i + 1) f :=
  ⟨fun j a b => by
    by_cases e : j = i
    · rw [e, h.2 i (by omega) hi]; exact he
    · exact h.1 j a (by omega), fun j a b => h.2 j (by omega) b⟩
def N2 (n : Int) (K : Int → Int) : Prop := ∀ j, 0 ≤ j → j ≤ n + 1 → K j ≠ 2
theorem N2_eq {n : Int} {f g : Int → Int} (h : EqR n f g) (hg : N2 n g) : N2 n f := fun j a b => by rw [h j a b]; exact hg j a b
theorem N2_3 (n : Int) (K : Int → Int) : N2 n (w3 K) := fun j _ _ => by
  unfold w3
  split
  · decide
  · assumption
theorem N2_4 {n : Int} {K : Int → Int} (h : N2 n K) : N2 n (w4 K) := by
  have key : ∀ m : Nat, (m : Int) ≤ n + 1 → w4 K m ≠ 2 := by
    intro m
    induction m with
    | zero => intro hm; exact h 0 (by omega) hm
    | succ m ih =>
      intro hm
      rw [w4_s (by omega), show ((m + 1 : Nat) : Int) - 1 = (m : Int) by omega]
      split
      · exact ih (by omega)
      · exact h _ (by omega) hm
  intro j a b
  have := key j.toNat (by omega)
  rw [show ((j.toNat : Int)) = j by omega] at this
  exact this
theorem N2_5 {n : Int} {K : Int → Int} (h : N2 n K) : N2 n (w5 n K) := fun j a b => by
  unfold w5
  split
  · decide
  · exact h j a b
theorem N2_6 {n : Int} {K : Int → Int} (h : N2 n K) : N2 n (w6 K) := fun j a b => by
  unfold w6
  split
  · decide
  · exact h j a b
theorem w32_2 {K : Int → Int} {i : Int} (h : K i = 2) : w3 (w2 K) i = 1 := by
  have e : w2 K i = 2 := by unfold w2; rw [if_neg (fun z => by omega)]; exact h
  unfold w3
  rw [if_pos e]
theorem w32_3 {K : Int → Int} {i : Int} (hi : 1 ≤ i) (h : K i = 3) (hs : stf K (i - 1) = 2) : w3 (w2 K) i = 6 := by
  have e : w2 K i = 6 := if_pos ⟨h, hi, hs⟩
  unfold w3
  rw [e]
  rfl
theorem w32_n {K : Int → Int} {i : Int} (h2 : K i ≠ 2) (h : ¬ (K i = 3 ∧ stf K (i - 1) = 2)) : w3 (w2 K) i = K i := by
  have e : w2 K i = K i := if_neg (fun z => h ⟨z.1, z.2.2⟩)
  unfold w3
  rw [e, if_neg h2]
