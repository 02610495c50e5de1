/-! pure rows: joins over rows of numbers -/
/-- the first of n numbers from c on that is ok, or -1 -/
def fsx (ok : Int → Bool) : Nat → Int → Int
  | 0, _ => -1
  | n + 1, c => if ok c = true then c else fsx ok n (c + 1)
theorem fsx_spec (ok : Int → Bool) : ∀ (n : Nat) (c : Int), (fsx ok n c = -1 ∧ ∀ j, c ≤ j → j < c + n → ok j = false) ∨ (c ≤ fsx ok n c ∧ fsx ok n c < c + n ∧ ok (fsx ok n c) = true ∧ ∀ j, c ≤ j → j < fsx ok n c → ok j = false) := by
  intro n
  induction n with
  | zero => intro c; exact Or.inl ⟨rfl, fun j a b => by omega⟩
  | succ n ih =>
    intro c
    by_cases h : ok c = true
    · have e : fsx ok (n + 1) c = c := if_pos h
      rw [e]
      exact Or.inr ⟨by omega, by omega, h, fun j a b => by omega⟩
    · have e : fsx ok (n + 1) c = fsx ok n (c + 1) := if_neg h
      rw [e]
      have hf : ok c = false := by cases hq : ok c; rfl; exact absurd hq h
      rcases ih (c + 1) with ⟨a, b⟩ | ⟨a, b, d, g⟩
      · refine Or.inl ⟨a, fun j p q => ?_⟩
        by_cases hj : j = c
        · rw [hj]; exact hf
        · exact b j (by omega) (by omega)
      · refine Or.inr ⟨by omega, by omega, d, fun j p q => ?_⟩
        by_cases hj : j = c
        · rw [hj]; exact hf
        · exact g j (by omega) q
theorem fsx_uniq {ok : Int → Bool} {n : Nat} {c r : Int} (hc : 0 ≤ c) (h : (r = -1 ∧ ∀ j, c ≤ j → j < c + n → ok j = false) ∨ (c ≤ r ∧ r < c + n ∧ ok r = true ∧ ∀ j, c ≤ j → j < r → ok j = false)) : r = fsx ok n c := by
  rcases fsx_spec ok n c with ⟨a, b⟩ | ⟨a, b, d, g⟩
  · rcases h with ⟨p, q⟩ | ⟨p, q, s, t⟩
    · omega
    · have := b r p q
      rw [this] at s
      cases s
  · rcases h with ⟨p, q⟩ | ⟨p, q, s, t⟩
    · have := q _ a b
      rw [this] at d
      cases d
    · rcases Int.lt_trichotomy r (fsx ok n c) with z | z | z
      · have := g r p z
        rw [this] at s
        cases s
      · exact z
      · have := t _ a z
        rw [this] at d
        cases d
def jokM (tb fi se lf : Int → Int) (a b : Int) : Int → Bool := fun c => decide (rkM tb c = 0 ∧ fi c = a ∧ se c = b ∧ lf c = 0)
/-- what two characters are joined to, or -1 -/
def jnM (tb fi se lf : Int → Int) (a b : Int) : Int := if (40 ≤ a ∧ a < 43) ∧ (43 ≤ b ∧ b < 46) then 48 + 9 * (a - 40) + 3 * (b - 43) else if (47 < a ∧ a % 3 = 0) ∧ (46 ≤ b ∧ b < 48) then a + b - 45 else fsx (jokM tb fi se lf a b) 40 0
theorem jnM_rng {tb fi se lf : Int → Int} {a b : Int} (ha : 0 ≤ a ∧ a < 75) (hb : 0 ≤ b ∧ b < 75) : -1 ≤ jnM tb fi se lf a b ∧ jnM tb fi se lf a b < 75 := by
  unfold jnM
  split
  · omega
  · split
    · omega
    · rcases fsx_spec (jokM tb fi se lf a b) 40 0 with h | h <;> omega
theorem jgo_n1 {rk : Int → Int} {jn : Int → Int → Int} {c : Int} {g : Int → Int} : ∀ i : Nat, (∀ j : Int, 0 ≤ j → j < i → 0 < rk (g j)) → jgo rk jn c (rsg g i) = none := by
  intro i
  induction i with
  | zero => intro _; rfl
  | succ i ih =>
    intro h
    have h1 := h i (by omega) (by omega)
    show (if rk (g (i : Int)) = 0 then _ else if rk c ≤ rk (g (i : Int)) then none else (jgo rk jn c (rsg g i)).map (fun z => g (i : Int) :: z)) = none
    rw [if_neg (by omega)]
    split
    · rfl
    · rw [ih (fun j a b => h j a (by omega))]; rfl
theorem jgo_some {rk : Int → Int} {jn : Int → Int → Int} {c : Int} {g : Int → Int} {s : Int} (hs : 0 ≤ s) (h0 : rk (g s) = 0) (hj : 0 ≤ jn (g s) c) : ∀ i : Nat, s < i → (∀ j : Int, s < j → j < i → 0 < rk (g j) ∧ rk (g j) < rk c) → jgo rk jn c (rsg g i) = some (rsg (uI g s (jn (g s) c)) i) := by
  intro i
  induction i with
  | zero => intro h; omega
  | succ i ih =>
    intro hi h
    show (if rk (g (i : Int)) = 0 then (if 0 ≤ jn (g (i : Int)) c then some (jn (g (i : Int)) c :: rsg g i) else none) else if rk c ≤ rk (g (i : Int)) then none else (jgo rk jn c (rsg g i)).map (fun z => g (i : Int) :: z)) = some (uI g s (jn (g s) c) (i : Int) :: rsg (uI g s (jn (g s) c)) i)
    by_cases e : s = i
    · subst e
      rw [if_pos h0, if_pos hj, uI_s, rsg_congr (g := uI g (i : Int) (jn (g (i : Int)) c)) (h := g) i (fun j a b => uI_n (by omega))]
    · have h1 := h i (by omega) (by omega)
      rw [if_neg (by omega), if_neg (by omega), ih (by omega) (fun j a b => h j a (by omega)), uI_n (by omega)]
      rfl
theorem jgo_n2 {rk : Int → Int} {jn : Int → Int → Int} {c : Int} {g : Int → Int} {s : Int} (hs : 0 ≤ s) (h0 : rk (g s) = 0) : ∀ i : Nat, s < i → (∀ j : Int, s < j → j < i → 0 < rk (g j)) → (jn (g s) c < 0 ∨ ¬ (∀ j : Int, s < j → j < i → rk (g j) < rk c)) → jgo rk jn c (rsg g i) = none := by
  intro i
  induction i with
  | zero => intro h; omega
  | succ i ih =>
    intro hi h hn
    show (if rk (g (i : Int)) = 0 then (if 0 ≤ jn (g (i : Int)) c then some (jn (g (i : Int)) c :: rsg g i) else none) else if rk c ≤ rk (g (i : Int)) then none else (jgo rk jn c (rsg g i)).map (fun z => g (i : Int) :: z)) = none
    by_cases e : s = i
    · subst e
      rw [if_pos h0]
      rcases hn with hn | hn
      · rw [if_neg (by omega)]
      · exact absurd (fun j a b => by omega) hn
    · have h1 := h i (by omega) (by omega)
      rw [if_neg (by omega)]
      by_cases hc : rk c ≤ rk (g (i : Int))
      · rw [if_pos hc]
      · rw [if_neg hc, ih (by omega) (fun j a b => h j a (by omega)) (hn.imp id (fun q z => q (fun j a b => by
          by_cases hj : j = i
          · rw [hj]; omega
          · exact z j a (by omega))))]
        rfl
/-- the state of joinForm at i -/
def jfI (rk : Int → Int) (jn : Int → Int → Int) (fl : Int) (fo : Int → Int) (i fl1 : Int) (fo1 : Int → Int) : Prop := (fl1 = 0 ∧ fl = 0 ∧ i = 1) ∨ (1 ≤ i ∧ i ≤ fl1 ∧ fl1 ≤ fl ∧ jnL rk jn (rsg fo1 i.toNat) (sg fo1 i (fl1 - i).toNat) = jnL rk jn [] (sg fo 0 fl.toNat))
theorem jf_0 {rk : Int → Int} {jn : Int → Int → Int} {fl : Int} {fo : Int → Int} (h : 0 ≤ fl) : jfI rk jn fl fo 1 fl fo := by
  by_cases h0 : fl = 0
  · exact Or.inl ⟨h0, h0, rfl⟩
  · refine Or.inr ⟨by omega, by omega, by omega, ?_⟩
    rw [show fl.toNat = (fl - 1).toNat + 1 by omega]
    rfl
theorem jf_end {rk : Int → Int} {jn : Int → Int → Int} {fl i fl1 : Int} {fo fo1 : Int → Int} (h : jfI rk jn fl fo i fl1 fo1) (hi : fl1 ≤ i) : 0 ≤ fl1 ∧ fl1 ≤ fl ∧ rsg fo1 fl1.toNat = jnL rk jn [] (sg fo 0 fl.toNat) := by
  rcases h with ⟨a, b, d⟩ | ⟨a, b, d, e⟩
  · subst a; subst b
    exact ⟨by omega, by omega, rfl⟩
  · refine ⟨by omega, d, ?_⟩
    rw [show (fl1 - i).toNat = 0 by omega, show i = fl1 by omega] at e
    exact e
theorem sg_cons {g : Int → Int} {a n : Int} (h : 1 ≤ n) : sg g a n.toNat = g a :: sg g (a + 1) (n - 1).toNat := by
  rw [show n.toNat = (n - 1).toNat + 1 by omega]
  rfl
theorem jf_no {rk : Int → Int} {jn : Int → Int → Int} {fl i fl1 : Int} {fo fo1 : Int → Int} (h : jfI rk jn fl fo i fl1 fo1) (hi : i < fl1) (hg : jgo rk jn (fo1 i) (rsg fo1 i.toNat) = none) : jfI rk jn fl fo (i + 1) fl1 fo1 := by
  rcases h with ⟨a, b, d⟩ | ⟨a, b, d, e⟩
  · omega
  · refine Or.inr ⟨by omega, by omega, d, ?_⟩
    rw [← e, sg_cons (n := fl1 - i) (by omega), show fl1 - (i + 1) = fl1 - i - 1 by omega]
    show _ = jnL rk jn ((jgo rk jn (fo1 i) (rsg fo1 i.toNat)).getD (fo1 i :: rsg fo1 i.toNat)) _
    rw [hg, rsg_pop (n := i + 1) (by omega), show i + 1 - 1 = i by omega]
    rfl
theorem jf_yes {rk : Int → Int} {jn : Int → Int → Int} {fl i fl1 s : Int} {fo fo1 fo3 : Int → Int} (h : jfI rk jn fl fo i fl1 fo1) (hi : i < fl1) (hg : jgo rk jn (fo1 i) (rsg fo1 i.toNat) = some (rsg (uI fo1 s (jn (fo1 s) (fo1 i))) i.toNat)) (hs : s < i)
    (hA : ∀ j, j < i → fo3 j = uI fo1 s (jn (fo1 s) (fo1 i)) j) (hB : ∀ j, i ≤ j → j < fl1 - 1 → fo3 j = uI fo1 s (jn (fo1 s) (fo1 i)) (j + 1)) : jfI rk jn fl fo i (fl1 - 1) fo3 := by
  rcases h with ⟨a, b, d⟩ | ⟨a, b, d, e⟩
  · omega
  · refine Or.inr ⟨a, by omega, by omega, ?_⟩
    rw [← e, sg_cons (n := fl1 - i) (by omega)]
    show _ = jnL rk jn ((jgo rk jn (fo1 i) (rsg fo1 i.toNat)).getD (fo1 i :: rsg fo1 i.toNat)) _
    rw [hg]
    show _ = jnL rk jn (rsg (uI fo1 s (jn (fo1 s) (fo1 i))) i.toNat) _
    rw [rsg_congr i.toNat (fun j a b => hA j (by omega))]
    congr 1
    rw [show fl1 - 1 - i = fl1 - i - 1 by omega]
    have key : ∀ (n : Nat) (x : Int), i ≤ x → x + n ≤ fl1 - 1 → sg fo3 x n = sg fo1 (x + 1) n := by
      intro n
      induction n with
      | zero => intro x _ _; rfl
      | succ n ih =>
        intro x h1 h2
        show fo3 x :: sg fo3 (x + 1) n = fo1 (x + 1) :: sg fo1 (x + 1 + 1) n
        rw [ih (x + 1) (by omega) (by omega), hB x h1 (by omega), uI_n (by omega)]
    exact key _ i (by omega) (by omega)
