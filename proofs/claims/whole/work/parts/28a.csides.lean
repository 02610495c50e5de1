theorem w6_5 {n : Int} {K : Int → Int} {j : Int} (h : K j ≠ 5) : w6 (w5 n K) j = if K j = 4 ∨ K j = 7 then 11 else K j := by
  have e : w5 n K j = K j := if_neg (fun z => h z.1)
  unfold w6
  rw [e]
  by_cases c : K j = 4 ∨ K j = 7
  · rw [if_pos c, if_pos (by omega)]
  · rw [if_neg c, if_neg (by omega)]
theorem w6_run {n : Int} {K : Int → Int} {j : Int} (h : K j = 5) : w6 (w5 n K) j = 3 ∨ w6 (w5 n K) j = 11 := by
  unfold w6 w5
  by_cases c : K j = 5 ∧ (bf pU K j.toNat = 3 ∨ af pU K (n + 1 - j).toNat j = 3)
  · rw [if_pos c]; exact Or.inl rfl
  · rw [if_neg c, h]; exact Or.inr rfl
theorem cu_end {n : Int} {K g g2 : Int → Int} {i to v : Int} (hg : STG n (w6 (w5 n K)) K i g) (hi : 1 ≤ i) (ht : to ≤ n + 1) (h1 : K (i - 1) ≠ 5) (h2 : K to ≠ 5) (hr : ∀ j, i ≤ j → j < to → K j = 5) (hv : v = if g (i - 1) = 3 ∨ g to = 3 then 3 else 11) (hg2 : ∀ j, g2 j = if i ≤ j ∧ j < to then v else g j) (hlt : i ≤ to) : STG n (w6 (w5 n K)) K to g2 := by
  have e1 : g (i - 1) = 3 ↔ K (i - 1) = 3 := by
    rw [hg.1 (i - 1) (by omega) (by omega), w6_5 h1]
    split <;> omega
  have e2 : g to = K to := hg.2 to (by omega) (by omega)
  refine ⟨fun j a b => ?_, fun j a b => ?_⟩
  · by_cases c : i ≤ j
    · obtain ⟨v1, v2⟩ := run_val (P := pU) (n := n) (K := K) (i := i) (to := to) (j := j) hi ht (decide_eq_false h1) (decide_eq_false h2) (fun k x y => decide_eq_true (hr k x y)) c b
      rw [hg2 j, if_pos ⟨c, b⟩, hv]
      by_cases d : K (i - 1) = 3 ∨ K to = 3
      · have e5 : w5 n K j = 3 := if_pos ⟨hr j c b, by rw [v1, v2]; exact d⟩
        rw [if_pos (d.imp e1.mpr (fun q => by rw [e2]; exact q))]
        unfold w6
        rw [e5]
        rfl
      · have e5 : w5 n K j = 5 := by
          have q : w5 n K j = K j := if_neg (fun q => d (by rw [v1, v2] at q; exact q.2))
          rw [q]; exact hr j c b
        rw [if_neg (fun q => d (q.imp e1.mp (fun q => by rw [← e2]; exact q)))]
        unfold w6
        rw [e5]
        rfl
    · rw [hg2 j, if_neg (fun q => c q.1)]
      exact hg.1 j a (by omega)
  · rw [hg2 j, if_neg (fun q => by omega)]
    exact hg.2 j (by omega) b
theorem w8_run {b n : Int} {K : Int → Int} {j : Int} (hb : b = 0 ∨ b = 1) (h : 8 < K j) : w8 b n K j = 0 ∨ w8 b n K j = 1 := by
  unfold w8
  rw [if_pos h]
  split
  · exact Or.inl rfl
  · split
    · exact Or.inr rfl
    · exact hb
/-- the classes that steps (1) to (7) leave -/
def S7 (n : Int) (K : Int → Int) : Prop := ∀ j, 0 ≤ j → j ≤ n + 1 → K j = 0 ∨ K j = 1 ∨ K j = 3 ∨ K j = 6 ∨ 8 < K j
