/-! pure rows: where clusters and lines end -/
abbrev sylP (x y : Int) : Prop := ((40 ≤ x ∧ x < 43) ∧ ((40 ≤ y ∧ y < 43) ∨ (43 ≤ y ∧ y < 46) ∨ 47 < y)) ∨ (((43 ≤ x ∧ x < 46) ∨ (47 < x ∧ x % 3 = 0)) ∧ ((43 ≤ y ∧ y < 46) ∨ (46 ≤ y ∧ y < 48))) ∨ (((46 ≤ x ∧ x < 48) ∨ (47 < x ∧ x % 3 ≠ 0)) ∧ (46 ≤ y ∧ y < 48))
def sylv (x y : Int) : Int := if sylP x y then 1 else 0
/-- is a picture before the k-th, over EXTENDs -/
def pbf (cz tx : Int → Int) : Nat → Int
  | 0 => 0
  | k + 1 => if cz (tx (k : Int)) = 4 then pbf cz tx k else if cz (tx (k : Int)) = 9 then 1 else 0
/-- how many REGIONs stand right before the k-th -/
def rcf (cz tx : Int → Int) : Nat → Int
  | 0 => 0
  | k + 1 => if cz (tx (k : Int)) = 6 then rcf cz tx k + 1 else 0
/-- 1 where a cluster ends before i -/
def evf (cz tx : Int → Int) (i : Int) : Int :=
  if cz (tx (i - 1)) = 1 ∧ cz (tx i) = 2 then 0
  else if (0 < cz (tx (i - 1)) ∧ cz (tx (i - 1)) < 4) ∨ (0 < cz (tx i) ∧ cz (tx i) < 4) then 1
  else if sylv (tx (i - 1)) (tx i) = 1 ∨ cz (tx i) = 4 ∨ cz (tx i) = 5 ∨ cz (tx i) = 8 ∨ cz (tx (i - 1)) = 7 ∨ (cz (tx (i - 1)) = 5 ∧ cz (tx i) = 9 ∧ pbf cz tx (i - 1).toNat = 1) ∨ (cz (tx (i - 1)) = 6 ∧ cz (tx i) = 6 ∧ rcf cz tx i.toNat % 2 = 1) then 0 else 1
def csm (e : Int → Int) : Nat → Int
  | 0 => 0
  | k + 1 => csm e k + e ((k : Int) + 1)
theorem pbf_s {cz tx : Int → Int} {s : Int} (h : 0 ≤ s) : pbf cz tx (s + 1).toNat = if cz (tx s) = 4 then pbf cz tx s.toNat else if cz (tx s) = 9 then 1 else 0 := by
  rw [show (s + 1).toNat = s.toNat + 1 by omega]
  show (if cz (tx (s.toNat : Int)) = 4 then pbf cz tx s.toNat else if cz (tx (s.toNat : Int)) = 9 then 1 else 0) = _
  rw [show ((s.toNat : Int)) = s by omega]
theorem rcf_s {cz tx : Int → Int} {s : Int} (h : 0 ≤ s) : rcf cz tx (s + 1).toNat = if cz (tx s) = 6 then rcf cz tx s.toNat + 1 else 0 := by
  rw [show (s + 1).toNat = s.toNat + 1 by omega]
  show (if cz (tx (s.toNat : Int)) = 6 then rcf cz tx s.toNat + 1 else 0) = _
  rw [show ((s.toNat : Int)) = s by omega]
theorem csm_s {e : Int → Int} {s : Int} (h : 0 ≤ s) : csm e (s + 1).toNat = csm e s.toNat + e (s + 1) := by
  rw [show (s + 1).toNat = s.toNat + 1 by omega]
  show csm e s.toNat + e ((s.toNat : Int) + 1) = _
  rw [show ((s.toNat : Int)) = s by omega]
theorem pbf_01 (cz tx : Int → Int) : ∀ k : Nat, pbf cz tx k = 0 ∨ pbf cz tx k = 1 := by
  intro k
  induction k with
  | zero => exact Or.inl rfl
  | succ k ih =>
    show (if cz (tx (k : Int)) = 4 then pbf cz tx k else if cz (tx (k : Int)) = 9 then 1 else 0) = 0 ∨ (if cz (tx (k : Int)) = 4 then pbf cz tx k else if cz (tx (k : Int)) = 9 then 1 else 0) = 1
    split
    · exact ih
    · split
      · exact Or.inr rfl
      · exact Or.inl rfl
theorem rcf_rng (cz tx : Int → Int) : ∀ k : Nat, 0 ≤ rcf cz tx k ∧ rcf cz tx k ≤ k := by
  intro k
  induction k with
  | zero => exact ⟨Int.le_refl _, Int.le_refl _⟩
  | succ k ih =>
    show 0 ≤ (if cz (tx (k : Int)) = 6 then rcf cz tx k + 1 else 0) ∧ (if cz (tx (k : Int)) = 6 then rcf cz tx k + 1 else 0) ≤ ((k + 1 : Nat) : Int)
    split <;> omega
theorem evf_01 (cz tx : Int → Int) (i : Int) : evf cz tx i = 0 ∨ evf cz tx i = 1 := by
  unfold evf
  split
  · exact Or.inl rfl
  · split
    · exact Or.inr rfl
    · split
      · exact Or.inl rfl
      · exact Or.inr rfl
theorem csm_rng {e : Int → Int} (h : ∀ i, e i = 0 ∨ e i = 1) : ∀ k : Nat, 0 ≤ csm e k ∧ csm e k ≤ k := by
  intro k
  induction k with
  | zero => exact ⟨Int.le_refl _, Int.le_refl _⟩
  | succ k ih =>
    have := h ((k : Int) + 1)
    show 0 ≤ csm e k + e ((k : Int) + 1) ∧ csm e k + e ((k : Int) + 1) ≤ ((k + 1 : Nat) : Int)
    omega
/-- the line class of the i-th, a MARK's being that of the one before it -/
def lkf (lz tx : Int → Int) : Nat → Int
  | 0 => if lz (tx 0) ≠ 11 then lz (tx 0) else 0
  | i + 1 => if lz (tx ((i : Int) + 1)) ≠ 11 then lz (tx ((i : Int) + 1)) else if lkf lz tx i = 0 ∨ 3 < lkf lz tx i then lkf lz tx i else 0
def flf (lz tx : Int → Int) (i : Int) : Int := if lz (tx i) = 11 ∧ 0 < i ∧ (lkf lz tx (i - 1).toNat = 0 ∨ 3 < lkf lz tx (i - 1).toNat) then 1 else 0
theorem lkf_s {lz tx : Int → Int} {i : Int} (h : 1 ≤ i) : lkf lz tx i.toNat = if lz (tx i) ≠ 11 then lz (tx i) else if lkf lz tx (i - 1).toNat = 0 ∨ 3 < lkf lz tx (i - 1).toNat then lkf lz tx (i - 1).toNat else 0 := by
  rw [show i.toNat = (i - 1).toNat + 1 by omega]
  show (if lz (tx (((i - 1).toNat : Int) + 1)) ≠ 11 then _ else _) = _
  rw [show (((i - 1).toNat : Int) + 1) = i by omega]
theorem lkf_0 {lz tx : Int → Int} : lkf lz tx (0 : Int).toNat = if lz (tx 0) ≠ 11 then lz (tx 0) else 0 := rfl
theorem lkf_rng {lz tx : Int → Int} (hz : ∀ c, 0 ≤ c → 0 ≤ lz c ∧ lz c ≤ 12) : ∀ n : Nat, (∀ j : Int, 0 ≤ j → j < (n : Int) + 1 → 0 ≤ tx j) → 0 ≤ lkf lz tx n ∧ lkf lz tx n ≤ 12 := by
  intro n
  induction n with
  | zero =>
    intro h
    have := hz (tx 0) (h 0 (by omega) (by omega))
    show 0 ≤ (if lz (tx 0) ≠ 11 then lz (tx 0) else 0) ∧ _
    rw [show lkf lz tx 0 = (if lz (tx 0) ≠ 11 then lz (tx 0) else 0) from rfl]
    split <;> omega
  | succ n ih =>
    intro h
    have h1 := ih (fun j a b => h j a (by omega))
    have h2 := hz (tx ((n : Int) + 1)) (h ((n : Int) + 1) (by omega) (by omega))
    rw [show lkf lz tx (n + 1) = (if lz (tx ((n : Int) + 1)) ≠ 11 then lz (tx ((n : Int) + 1)) else if lkf lz tx n = 0 ∨ 3 < lkf lz tx n then lkf lz tx n else 0) from rfl]
    split
    · omega
    · split <;> omega
/-- the class before k, over SPACEs -/
def osf (g : Int → Int) : Nat → Int
  | 0 => -1
  | k + 1 => if g (k : Int) = 2 then osf g k else g (k : Int)
theorem osf_s {g : Int → Int} {s : Int} (h : 0 ≤ s) : osf g (s + 1).toNat = if g s = 2 then osf g s.toNat else g s := by
  rw [show (s + 1).toNat = s.toNat + 1 by omega]
  show (if g (s.toNat : Int) = 2 then osf g s.toNat else g (s.toNat : Int)) = _
  rw [show ((s.toNat : Int)) = s by omega]
theorem osf_congr {g h : Int → Int} : ∀ n : Nat, (∀ j : Int, 0 ≤ j → j < n → g j = h j) → osf g n = osf h n := by
  intro n
  induction n with
  | zero => intro _; rfl
  | succ n ih =>
    intro H
    show (if g (n : Int) = 2 then osf g n else g (n : Int)) = (if h (n : Int) = 2 then osf h n else h (n : Int))
    rw [H n (by omega) (by omega), ih (fun j a b => H j a (by omega))]
theorem osf_rng {g : Int → Int} : ∀ n : Nat, (∀ j : Int, 0 ≤ j → j < n → 0 ≤ g j ∧ g j ≤ 12) → -1 ≤ osf g n ∧ osf g n ≤ 12 := by
  intro n
  induction n with
  | zero => intro _; show (-1 : Int) ≤ -1 ∧ (-1 : Int) ≤ 12; omega
  | succ n ih =>
    intro H
    have h1 := ih (fun j a b => H j a (by omega))
    have h2 := H n (by omega) (by omega)
    rw [show osf g (n + 1) = (if g (n : Int) = 2 then osf g n else g (n : Int)) from rfl]
    split <;> omega
abbrev mayP (x y : Int) : Prop := x = 2 ∨ (¬ (x = 7 ∨ y = 7 ∨ y = 8) ∧ ¬ (((x = 8 ∨ x = 12) ∧ y = 9) ∨ ((x = 0 ∨ x = 9) ∧ (y = 0 ∨ y = 9)) ∨ (x = 12 ∧ y = 0) ∨ ((x = 0 ∨ x = 9) ∧ y = 5) ∨ (x = 6 ∧ (y = 0 ∨ y = 9))))
/-- the answer of line, from the classes x before, y behind, z before over SPACEs, and whether the one behind is a MARK that follows -/
def mayv (x y : Int) : Int := if mayP x y then 1 else 0
def lbf (x y z f : Int) : Int := if x = 1 then 2 else if 0 < y ∧ y < 4 then 0 else if z = 3 then 1 else if f = 1 ∨ x = 4 ∨ y = 4 ∨ y = 6 ∨ y = 12 ∨ z = 5 ∨ (z = 7 ∧ y = 5) then 0 else if mayv x y = 1 then 1 else 0
def lnf (lz tx : Int → Int) (n i : Int) : Int := if i = 0 then 0 else if i = n then 2 else lbf (lkf lz tx (i - 1).toNat) (lkf lz tx i.toNat) (osf (fun j => lkf lz tx j.toNat) i.toNat) (flf lz tx i)
