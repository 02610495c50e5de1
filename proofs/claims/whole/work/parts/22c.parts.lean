theorem sg_shift {g h : Int → Int} : ∀ (m : Nat) (a b : Int), (∀ j : Int, 0 ≤ j → j < m → g (a + j) = h (b + j)) → sg g a m = sg h b m := by
  intro m
  induction m with
  | zero => intro a b _; rfl
  | succ m ih =>
    intro a b H
    show g a :: sg g (a + 1) m = h b :: sg h (b + 1) m
    have h0 := H 0 (by omega) (by omega)
    rw [Int.add_zero, Int.add_zero] at h0
    rw [h0, ih (a + 1) (b + 1) (fun j x y => by have := H (j + 1) (by omega) (by omega); rw [show a + 1 + j = a + (j + 1) by omega, show b + 1 + j = b + (j + 1) by omega]; exact this)]
theorem PL_keep {t1 t2 p n p' n' : Int → Int} {c : Int} (hv : vpt t1 t2) (hs : SHT t1 t2) (hc : c ≤ 75) (h : PL t1 t2 p n c) (hp : ∀ q, q < 4 * c → p' q = p q) (hn : ∀ d, d < c → n' d = n d) : PL t1 t2 p' n' c := by
  intro d h0 h1
  obtain ⟨e1, e2⟩ := h d h0 h1
  rw [hn d h1]
  refine ⟨e1, ?_⟩
  rw [← e2]
  have h4 := PT_le4 hv hs h0 (by omega)
  exact sg_congr _ _ (fun j x y => hp j (by omega))
theorem PL_s {t1 t2 p n : Int → Int} {c : Int} (h : PL t1 t2 p n c) (h1 : n c = (PT t1 t2 c).length) (h2 : sg p (4 * c) (n c).toNat = PT t1 t2 c) : PL t1 t2 p n (c + 1) := by
  intro d x y
  by_cases e : d = c
  · rw [e]; exact ⟨h1, h2⟩
  · exact h d x (by omega)
theorem fix_up {t1 t2 : Int → Int} (h : fixP t1 t2) {c a b : Int} (hc : c < 40) : fixP (uI t1 c a) (uI t2 c b) := by
  refine ⟨fun d x y => ?_, fun d x y => ?_⟩
  · rw [uI_n (by omega), uI_n (by omega)]; exact h.1 d x y
  · rw [uI_n (by omega), uI_n (by omega)]; exact h.2 d x y
