/-! pure rows: the class's table -/
/-- the partings of the characters from 40 on -/
def fixP (t1 t2 : Int → Int) : Prop := (∀ c, 40 ≤ c → c < 48 → t1 c = -1 ∧ t2 c = -1) ∧ (∀ c, 48 ≤ c → c < 75 → (c % 3 = 0 → t1 c = 40 + (c - 48) / 9 ∧ t2 c = 43 + (c - 48) / 3 % 3) ∧ (c % 3 ≠ 0 → t1 c = c - c % 3 ∧ t2 c = 45 + c % 3))
theorem fix_rng {t1 t2 : Int → Int} (hv : vpt t1 t2) (hf : fixP t1 t2) {c : Int} (h0 : 0 ≤ c) (h1 : c < 75) : -1 ≤ t1 c ∧ t1 c < c ∧ -1 ≤ t2 c ∧ t2 c < c ∧ (t1 c < 0 → t2 c < 0) := by
  by_cases a : c < 40
  · exact hv c h0 a
  · by_cases b : c < 48
    · have := hf.1 c (by omega) b
      omega
    · have q := hf.2 c (by omega) h1
      by_cases z : c % 3 = 0
      · have := q.1 z
        omega
      · have := q.2 z
        omega
theorem PT_fix {t1 t2 : Int → Int} (hv : vpt t1 t2) (hf : fixP t1 t2) {c : Int} (h0 : 0 ≤ c) (h1 : c < 75) : (t1 c < 0 → PT t1 t2 c = [c]) ∧ (0 ≤ t1 c → PT t1 t2 c = PT t1 t2 (t1 c) ++ (if 0 ≤ t2 c then PT t1 t2 (t2 c) else [])) := by
  by_cases a : c < 40
  · exact ⟨fun z => PT_own (by omega) (Or.inr z), fun z => PT_parts hv h0 a z⟩
  · by_cases b : c < 48
    · have q := hf.1 c (by omega) b
      exact ⟨fun z => PT_own (by omega) (Or.inl (by omega)), fun z => by omega⟩
    · have q := hf.2 c (by omega) h1
      refine ⟨fun z => ?_, fun z => ?_⟩
      · by_cases w : c % 3 = 0
        · have := q.1 w; omega
        · have := q.2 w; omega
      · rw [PT_syl (by omega)]
        by_cases w : c % 3 = 0
        · obtain ⟨e1, e2⟩ := q.1 w
          rw [if_pos (by omega), PT_own (c := t1 c) (by omega) (Or.inl (by omega)), PT_own (c := t2 c) (by omega) (Or.inl (by omega)), e1, e2]
          unfold syl
          rw [if_pos w]
          rfl
        · obtain ⟨e1, e2⟩ := q.2 w
          rw [if_pos (by omega), PT_syl (c := t1 c) (by omega), PT_own (c := t2 c) (by omega) (Or.inl (by omega)), e1, e2]
          unfold syl
          rw [if_neg w, if_pos (show (c - c % 3) % 3 = 0 by omega), show (c - c % 3 - 48) / 9 = (c - 48) / 9 by omega, show (c - c % 3 - 48) / 3 = (c - 48) / 3 by omega]
          rfl
/-- what parts and partCount hold of the characters before n -/
def PL (t1 t2 pt pn : Int → Int) (n : Int) : Prop := ∀ c, 0 ≤ c → c < n → pn c = (PT t1 t2 c).length ∧ sg pt (4 * c) (pn c).toNat = PT t1 t2 c
def jokC (p0 t1 t2 ex : Int → Int) (a b : Int) : Int → Bool := fun c => decide (t1 c = a ∧ t2 c = b ∧ p0 c = 0 ∧ ex c = 0)
theorem sg_app {g : Int → Int} {a n m : Int} (h1 : 0 ≤ n) (h2 : 0 ≤ m) : sg g a (n + m).toNat = sg g a n.toNat ++ sg g (a + n) m.toNat := by
  rw [show (n + m).toNat = n.toNat + m.toNat by omega, sg_add, show (n.toNat : Int) = n by omega]
