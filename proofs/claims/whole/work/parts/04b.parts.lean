/-! pure rows: what a character is parted into -/
/-- a syllable's parts -/
def syl (c : Int) : List Int := [40 + (c - 48) / 9, 43 + (c - 48) / 3 % 3] ++ (if c % 3 = 0 then [] else [45 + c % 3])
def ptf (fi se : Int → Int) : Nat → Int → List Int
  | 0, c => [c]
  | n + 1, c => if 47 < c then syl c else if c < 40 ∧ 0 ≤ fi c then ptf fi se n (fi c) ++ (if 0 ≤ se c then ptf fi se n (se c) else []) else [c]
/-- the nodes of a character's parting -/
def ndf (fi se : Int → Int) : Nat → Int → Nat
  | 0, _ => 1
  | n + 1, c => if 47 < c then 1 else if c < 40 ∧ 0 ≤ fi c then 1 + ndf fi se n (fi c) + (if 0 ≤ se c then ndf fi se n (se c) else 0) else 1
/-- how many parts, five standing for more than four -/
def kcf (fi se : Int → Int) : Nat → Int → Int
  | 0, _ => 1
  | n + 1, c => if 0 ≤ fi c then min 5 (kcf fi se n (fi c) + (if 0 ≤ se c then kcf fi se n (se c) else 0)) else 1
abbrev PT (fi se : Int → Int) (c : Int) : List Int := ptf fi se 75 c
abbrev ND (fi se : Int → Int) (c : Int) : Nat := ndf fi se 75 c
abbrev KC (fi se : Int → Int) (c : Int) : Int := kcf fi se 40 c
/-- the partings that part allows -/
def vpt (fi se : Int → Int) : Prop := ∀ c, 0 ≤ c → c < 40 → -1 ≤ fi c ∧ fi c < c ∧ -1 ≤ se c ∧ se c < c ∧ (fi c < 0 → se c < 0)
theorem ptf_stab {fi se : Int → Int} (h : vpt fi se) : ∀ (n m : Nat) (c : Int), 0 ≤ c → c < n → c < m → ptf fi se n c = ptf fi se m c := by
  intro n
  induction n with
  | zero => intro m c h0 h1; omega
  | succ n ih =>
    intro m c h0 h1 h2
    cases m with
    | zero => omega
    | succ m =>
      show (if 47 < c then syl c else if c < 40 ∧ 0 ≤ fi c then ptf fi se n (fi c) ++ (if 0 ≤ se c then ptf fi se n (se c) else []) else [c]) = (if 47 < c then syl c else if c < 40 ∧ 0 ≤ fi c then ptf fi se m (fi c) ++ (if 0 ≤ se c then ptf fi se m (se c) else []) else [c])
      by_cases hc : 47 < c
      · rw [if_pos hc, if_pos hc]
      · rw [if_neg hc, if_neg hc]
        by_cases hf : c < 40 ∧ 0 ≤ fi c
        · rw [if_pos hf, if_pos hf]
          have hv := h c h0 hf.1
          rw [ih m (fi c) hf.2 (by omega) (by omega)]
          by_cases hs : 0 ≤ se c
          · rw [if_pos hs, if_pos hs, ih m (se c) hs (by omega) (by omega)]
          · rw [if_neg hs, if_neg hs]
        · rw [if_neg hf, if_neg hf]
theorem ndf_stab {fi se : Int → Int} (h : vpt fi se) : ∀ (n m : Nat) (c : Int), 0 ≤ c → c < n → c < m → ndf fi se n c = ndf fi se m c := by
  intro n
  induction n with
  | zero => intro m c h0 h1; omega
  | succ n ih =>
    intro m c h0 h1 h2
    cases m with
    | zero => omega
    | succ m =>
      show (if 47 < c then 1 else if c < 40 ∧ 0 ≤ fi c then 1 + ndf fi se n (fi c) + (if 0 ≤ se c then ndf fi se n (se c) else 0) else 1) = (if 47 < c then 1 else if c < 40 ∧ 0 ≤ fi c then 1 + ndf fi se m (fi c) + (if 0 ≤ se c then ndf fi se m (se c) else 0) else 1)
      by_cases hc : 47 < c
      · rw [if_pos hc, if_pos hc]
      · rw [if_neg hc, if_neg hc]
        by_cases hf : c < 40 ∧ 0 ≤ fi c
        · rw [if_pos hf, if_pos hf]
          have hv := h c h0 hf.1
          rw [ih m (fi c) hf.2 (by omega) (by omega)]
          by_cases hs : 0 ≤ se c
          · rw [if_pos hs, if_pos hs, ih m (se c) hs (by omega) (by omega)]
          · rw [if_neg hs, if_neg hs]
        · rw [if_neg hf, if_neg hf]
theorem kcf_stab {fi se : Int → Int} (h : vpt fi se) : ∀ (n m : Nat) (c : Int), 0 ≤ c → c < 40 → c < n → c < m → kcf fi se n c = kcf fi se m c := by
  intro n
  induction n with
  | zero => intro m c h0 h9 h1; omega
  | succ n ih =>
    intro m c h0 h9 h1 h2
    cases m with
    | zero => omega
    | succ m =>
      show (if 0 ≤ fi c then min 5 (kcf fi se n (fi c) + (if 0 ≤ se c then kcf fi se n (se c) else 0)) else 1) = (if 0 ≤ fi c then min 5 (kcf fi se m (fi c) + (if 0 ≤ se c then kcf fi se m (se c) else 0)) else 1)
      have hv := h c h0 h9
      by_cases hf : 0 ≤ fi c
      · rw [if_pos hf, if_pos hf, ih m (fi c) hf (by omega) (by omega) (by omega)]
        by_cases hs : 0 ≤ se c
        · rw [if_pos hs, if_pos hs, ih m (se c) hs (by omega) (by omega) (by omega)]
        · rw [if_neg hs, if_neg hs]
      · rw [if_neg hf, if_neg hf]
theorem PT_syl {fi se : Int → Int} {c : Int} (h : 47 < c) : PT fi se c = syl c := if_pos h
theorem PT_own {fi se : Int → Int} {c : Int} (h : c ≤ 47) (h2 : 40 ≤ c ∨ fi c < 0) : PT fi se c = [c] := by
  show (if 47 < c then syl c else if c < 40 ∧ 0 ≤ fi c then _ else [c]) = _
  rw [if_neg (by omega), if_neg (by omega)]
theorem PT_parts {fi se : Int → Int} (h : vpt fi se) {c : Int} (h0 : 0 ≤ c) (h1 : c < 40) (hf : 0 ≤ fi c) : PT fi se c = PT fi se (fi c) ++ (if 0 ≤ se c then PT fi se (se c) else []) := by
  have hv := h c h0 h1
  show (if 47 < c then syl c else if c < 40 ∧ 0 ≤ fi c then ptf fi se 74 (fi c) ++ (if 0 ≤ se c then ptf fi se 74 (se c) else []) else [c]) = _
  rw [if_neg (by omega), if_pos ⟨h1, hf⟩, ptf_stab h 74 75 (fi c) hf (by omega) (by omega)]
  by_cases hs : 0 ≤ se c
  · rw [if_pos hs, if_pos hs, ptf_stab h 74 75 (se c) hs (by omega) (by omega)]
  · rw [if_neg hs, if_neg hs]
theorem ND_parts {fi se : Int → Int} (h : vpt fi se) {c : Int} (h0 : 0 ≤ c) (h1 : c < 40) (hf : 0 ≤ fi c) : ND fi se c = 1 + ND fi se (fi c) + (if 0 ≤ se c then ND fi se (se c) else 0) := by
  have hv := h c h0 h1
  show (if 47 < c then 1 else if c < 40 ∧ 0 ≤ fi c then 1 + ndf fi se 74 (fi c) + (if 0 ≤ se c then ndf fi se 74 (se c) else 0) else 1) = _
  rw [if_neg (by omega), if_pos ⟨h1, hf⟩, ndf_stab h 74 75 (fi c) hf (by omega) (by omega)]
  by_cases hs : 0 ≤ se c
  · rw [if_pos hs, if_pos hs, ndf_stab h 74 75 (se c) hs (by omega) (by omega)]
  · rw [if_neg hs, if_neg hs]
theorem ND_pos (fi se : Int → Int) (c : Int) : 1 ≤ ND fi se c := by
  show 1 ≤ (if 47 < c then 1 else if c < 40 ∧ 0 ≤ fi c then 1 + ndf fi se 74 (fi c) + (if 0 ≤ se c then ndf fi se 74 (se c) else 0) else 1)
  split
  · omega
  · split
    · omega
    · omega
theorem KC_none {fi se : Int → Int} {c : Int} (hf : fi c < 0) : KC fi se c = 1 := if_neg (by omega)
theorem KC_parts {fi se : Int → Int} (h : vpt fi se) {c : Int} (h0 : 0 ≤ c) (h1 : c < 40) (hf : 0 ≤ fi c) : KC fi se c = min 5 (KC fi se (fi c) + (if 0 ≤ se c then KC fi se (se c) else 0)) := by
  have hv := h c h0 h1
  show (if 0 ≤ fi c then min 5 (kcf fi se 39 (fi c) + (if 0 ≤ se c then kcf fi se 39 (se c) else 0)) else 1) = _
  rw [if_pos hf, kcf_stab h 39 40 (fi c) hf (by omega) (by omega) (by omega)]
  by_cases hs : 0 ≤ se c
  · rw [if_pos hs, if_pos hs, kcf_stab h 39 40 (se c) hs (by omega) (by omega) (by omega)]
  · rw [if_neg hs, if_neg hs]
theorem PT_ne {fi se : Int → Int} : ∀ (n : Nat) (c : Int), ptf fi se n c ≠ [] := by
  intro n
  induction n with
  | zero => intro c h; cases h
  | succ n ih =>
    intro c
    show (if 47 < c then syl c else if c < 40 ∧ 0 ≤ fi c then ptf fi se n (fi c) ++ (if 0 ≤ se c then ptf fi se n (se c) else []) else [c]) ≠ []
    split
    · intro h; cases h
    · split
      · intro h
        exact ih (fi c) (List.append_eq_nil_iff.mp h).1
      · intro h; cases h
/-- where no character has more than four parts -/
theorem PT_len {fi se : Int → Int} (h : vpt fi se) (hk : ∀ c, 0 ≤ c → c < 40 → KC fi se c ≤ 4) : ∀ (n : Nat) (c : Int), 0 ≤ c → c < n → c < 40 → ((PT fi se c).length : Int) = KC fi se c := by
  intro n
  induction n with
  | zero => intro c h0 h1; omega
  | succ n ih =>
    intro c h0 h1 h2
    have hv := h c h0 h2
    by_cases hf : 0 ≤ fi c
    · have hc := hk c h0 h2
      have i1 := ih (fi c) hf (by omega) (by omega)
      rw [KC_parts h h0 h2 hf] at hc ⊢
      rw [PT_parts h h0 h2 hf, List.length_append]
      by_cases hs : 0 ≤ se c
      · have i2 := ih (se c) hs (by omega) (by omega)
        rw [if_pos hs] at hc ⊢
        rw [if_pos hs]
        omega
      · rw [if_neg hs] at hc ⊢
        rw [if_neg hs]
        have : ([] : List Int).length = 0 := rfl
        omega
    · rw [KC_none (by omega), PT_own (by omega) (Or.inr (by omega))]
      rfl
theorem PT_le4 {fi se : Int → Int} (h : vpt fi se) (hk : ∀ c, 0 ≤ c → c < 40 → KC fi se c ≤ 4) {c : Int} (h0 : 0 ≤ c) (h1 : c < 75) : (PT fi se c).length ≤ 4 := by
  by_cases h4 : c < 40
  · have := PT_len h hk 75 c h0 (by omega) h4
    have := hk c h0 h4
    omega
  · by_cases h7 : 47 < c
    · rw [PT_syl h7]
      unfold syl
      split <;> simp
    · rw [PT_own (by omega) (Or.inl (by omega))]
      simp
theorem PT_rng {fi se : Int → Int} (h : vpt fi se) : ∀ (n : Nat) (c : Int), 0 ≤ c → c < n → c < 75 → ∀ x ∈ PT fi se c, 0 ≤ x ∧ x < 48 := by
  intro n
  induction n with
  | zero => intro c h0 h1; omega
  | succ n ih =>
    intro c h0 h1 h2 x hx
    by_cases h7 : 47 < c
    · rw [PT_syl h7] at hx
      unfold syl at hx
      split at hx
      · simp at hx; omega
      · simp at hx; omega
    · by_cases hf : c < 40 ∧ 0 ≤ fi c
      · have hv := h c h0 hf.1
        rw [PT_parts h h0 hf.1 hf.2] at hx
        rcases List.mem_append.mp hx with h3 | h3
        · exact ih (fi c) hf.2 (by omega) (by omega) x h3
        · split at h3
          · rename_i hs
            exact ih (se c) hs (by omega) (by omega) x h3
          · cases h3
      · rw [PT_own (by omega) (by omega)] at hx
        simp at hx
        omega
