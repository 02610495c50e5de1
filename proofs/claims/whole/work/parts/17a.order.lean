/-! pure rows: rows turned round -/
def rsI (P : Int → Bool) : Nat → Int
  | 0 => 0
  | i + 1 => if P (i : Int) = true then rsI P i else (i : Int) + 1
def reI (P : Int → Bool) : Nat → Int → Int
  | 0, i => i
  | d + 1, i => if P i = true then reI P d (i + 1) else i
/-- every run of P's places is turned round -/
def rvf (P : Int → Bool) (n : Int) (O : Int → Int) (k : Int) : Int := if P k = true then O (rsI P k.toNat + reI P (n - k).toNat k - 1 - k) else O k
theorem rsI_s {P : Int → Bool} {i : Int} (h : 1 ≤ i) : rsI P i.toNat = if P (i - 1) = true then rsI P (i - 1).toNat else i := by
  rw [show i.toNat = (i - 1).toNat + 1 by omega]
  show (if P ((i - 1).toNat : Int) = true then _ else (((i - 1).toNat : Int) + 1)) = _
  rw [show (((i - 1).toNat : Int)) = i - 1 by omega, show i - 1 + 1 = i by omega]
theorem rsI_rng (P : Int → Bool) : ∀ n : Nat, 0 ≤ rsI P n ∧ rsI P n ≤ n ∧ ∀ j : Int, rsI P n ≤ j → j < n → P j = true := by
  intro n
  induction n with
  | zero => exact ⟨Int.le_refl _, Int.le_refl _, fun j a b => by have : (0 : Int) ≤ j := a; omega⟩
  | succ n ih =>
    have e : rsI P (n + 1) = if P (n : Int) = true then rsI P n else (n : Int) + 1 := rfl
    by_cases h : P (n : Int) = true
    · rw [e, if_pos h]
      refine ⟨ih.1, by have := ih.2.1; omega, fun j a b => ?_⟩
      by_cases hj : j = n
      · rw [hj]; exact h
      · exact ih.2.2 j a (by omega)
    · rw [e, if_neg h]
      exact ⟨by omega, by omega, fun j a b => by omega⟩
theorem reI_rng (P : Int → Bool) : ∀ (d : Nat) (i : Int), i ≤ reI P d i ∧ reI P d i ≤ i + d ∧ ∀ j : Int, i ≤ j → j < reI P d i → P j = true := by
  intro d
  induction d with
  | zero => intro i; exact ⟨Int.le_refl _, by show i ≤ _; omega, fun j a b => by have : j < i := b; omega⟩
  | succ d ih =>
    intro i
    have e : reI P (d + 1) i = if P i = true then reI P d (i + 1) else i := rfl
    by_cases h : P i = true
    · rw [e, if_pos h]
      obtain ⟨a1, a2, a3⟩ := ih (i + 1)
      refine ⟨by omega, by omega, fun j a b => ?_⟩
      by_cases hj : j = i
      · rw [hj]; exact h
      · exact a3 j (by omega) b
    · rw [e, if_neg h]
      exact ⟨Int.le_refl _, by omega, fun j a b => by omega⟩
theorem rs_run {P : Int → Bool} {a : Int} (ha : 0 ≤ a) (h0 : a = 0 ∨ P (a - 1) = false) : ∀ (d : Nat), (∀ j : Int, a ≤ j → j < a + d → P j = true) → rsI P (a + d).toNat = a := by
  intro d
  induction d with
  | zero =>
    intro _
    rw [show a + ((0 : Nat) : Int) = a by omega]
    rcases h0 with h0 | h0
    · rw [h0]; rfl
    · by_cases e : a = 0
      · rw [e]; rfl
      · rw [rsI_s (by omega), if_neg (by rw [h0]; decide)]
  | succ d ih =>
    intro h
    rw [rsI_s (by omega), show a + ((d + 1 : Nat) : Int) - 1 = a + (d : Int) by omega, if_pos (h _ (by omega) (by omega))]
    exact ih (fun j x y => h j x (by omega))
theorem re_run {P : Int → Bool} {b n : Int} (hb : b = n ∨ P b = false) (hbn : b ≤ n) : ∀ (d : Nat) (i : Int), i + d = b → (∀ j : Int, i ≤ j → j < b → P j = true) → reI P (n - i).toNat i = b := by
  intro d
  induction d with
  | zero =>
    intro i hi _
    rw [show i = b by omega]
    rcases hb with hb | hb
    · rw [hb, show n - n = 0 by omega]; rfl
    · by_cases e : b = n
      · rw [e, show n - n = 0 by omega]; rfl
      · rw [show (n - b).toNat = (n - b - 1).toNat + 1 by omega]
        show (if P b = true then _ else b) = b
        rw [if_neg (by rw [hb]; decide)]
  | succ d ih =>
    intro i hi h
    rw [show (n - i).toNat = (n - (i + 1)).toNat + 1 by omega]
    show (if P i = true then reI P (n - (i + 1)).toNat (i + 1) else i) = b
    rw [if_pos (h i (by omega) (by omega))]
    exact ih (i + 1) (by omega) (fun j x y => h j (by omega) y)
theorem rv_run {P : Int → Bool} {n : Int} {O : Int → Int} {a b k : Int} (ha : 0 ≤ a) (h0 : a = 0 ∨ P (a - 1) = false) (hb : b = n ∨ P b = false) (hbn : b ≤ n) (hr : ∀ j, a ≤ j → j < b → P j = true) (h1 : a ≤ k) (h2 : k < b) : rvf P n O k = O (a + b - 1 - k) := by
  unfold rvf
  rw [if_pos (hr k h1 h2)]
  have e1 := rs_run ha h0 (k - a).toNat (fun j x y => hr j x (by omega))
  rw [show a + ((k - a).toNat : Int) = k by omega] at e1
  have e2 := re_run hb hbn (b - k).toNat k (by omega) (fun j x y => hr j (by omega) y)
  rw [e1, e2]
theorem rv_ix {P : Int → Bool} {n k : Int} (h0 : 0 ≤ k) (h1 : k < n) (hP : P k = true) : 0 ≤ rsI P k.toNat + reI P (n - k).toNat k - 1 - k ∧ rsI P k.toNat + reI P (n - k).toNat k - 1 - k < n ∧ P (rsI P k.toNat + reI P (n - k).toNat k - 1 - k) = true := by
  obtain ⟨a1, a2, a3⟩ := rsI_rng P k.toNat
  obtain ⟨b1, b2, b3⟩ := reI_rng P (n - k).toNat k
  have hlt : k < reI P (n - k).toNat k := by
    rw [show (n - k).toNat = (n - k - 1).toNat + 1 by omega]
    show k < (if P k = true then reI P (n - k - 1).toNat (k + 1) else k)
    rw [if_pos hP]
    have := (reI_rng P (n - k - 1).toNat (k + 1)).1
    omega
  refine ⟨by omega, by omega, ?_⟩
  by_cases c : rsI P k.toNat + reI P (n - k).toNat k - 1 - k < k
  · exact a3 _ (by omega) (by omega)
  · exact b3 _ (by omega) (by omega)
theorem rsI_congr {P Q : Int → Bool} : ∀ n : Nat, (∀ j : Int, 0 ≤ j → j < n → P j = Q j) → rsI P n = rsI Q n := by
  intro n
  induction n with
  | zero => intro _; rfl
  | succ n ih =>
    intro h
    show (if P (n : Int) = true then rsI P n else (n : Int) + 1) = (if Q (n : Int) = true then rsI Q n else (n : Int) + 1)
    rw [h n (by omega) (by omega), ih (fun j a b => h j a (by omega))]
theorem reI_congr {P Q : Int → Bool} : ∀ (d : Nat) (i : Int), (∀ j : Int, i ≤ j → j < i + d → P j = Q j) → reI P d i = reI Q d i := by
  intro d
  induction d with
  | zero => intro i _; rfl
  | succ d ih =>
    intro i h
    show (if P i = true then reI P d (i + 1) else i) = (if Q i = true then reI Q d (i + 1) else i)
    rw [h i (by omega) (by omega), ih (i + 1) (fun j a b => h j (by omega) (by omega))]
theorem rv_congr {P Q : Int → Bool} {n : Int} {O U : Int → Int} (hp : ∀ j, 0 ≤ j → j < n → P j = Q j) (ho : ∀ j, 0 ≤ j → j < n → O j = U j) {k : Int} (h0 : 0 ≤ k) (h1 : k < n) : rvf P n O k = rvf Q n U k := by
  unfold rvf
  by_cases c : P k = true
  · have c2 : Q k = true := by rw [← hp k h0 h1]; exact c
    obtain ⟨x1, x2, -⟩ := rv_ix h0 h1 c2
    rw [if_pos c, if_pos c2, rsI_congr (P := P) (Q := Q) k.toNat (fun j a b => hp j a (by omega)), reI_congr (P := P) (Q := Q) (n - k).toNat k (fun j a b => hp j (by omega) (by omega)), ho _ x1 x2]
  · have c2 : ¬ Q k = true := by rw [← hp k h0 h1]; exact c
    rw [if_neg c, if_neg c2, ho k h0 h1]
theorem rv_rng {P : Int → Bool} {n : Int} {O : Int → Int} (ho : ∀ j, 0 ≤ j → j < n → 0 ≤ O j ∧ O j < n) {k : Int} (h0 : 0 ≤ k) (h1 : k < n) : 0 ≤ rvf P n O k ∧ rvf P n O k < n := by
  unfold rvf
  split
  · rename_i c
    obtain ⟨x1, x2, -⟩ := rv_ix h0 h1 c
    exact ho _ x1 x2
  · exact ho k h0 h1
def pg (m : Int) (L : Int → Int) : Int → Bool := fun k => decide (m ≤ L k)
/-- the order after the rows from level m + 1 on have been turned round -/
def odm (L : Int → Int) (n m : Int) : Int → Int := if m = 2 then (fun j => j) else if m = 1 then rvf (pg 2 L) n (fun j => j) else rvf (pg 1 L) n (rvf (pg 2 L) n (fun j => j))
theorem odm_rng {L : Int → Int} {n m : Int} {k : Int} (h0 : 0 ≤ k) (h1 : k < n) : 0 ≤ odm L n m k ∧ odm L n m k < n := by
  unfold odm
  split
  · exact ⟨h0, h1⟩
  · split
    · exact rv_rng (fun j a b => ⟨a, b⟩) h0 h1
    · exact rv_rng (fun j a b => rv_rng (fun j a b => ⟨a, b⟩) a b) h0 h1
/-- a row of level m is told by the places' own levels -/
theorem odm_pg {L : Int → Int} {n m : Int} (hm : m = 1 ∨ m = 2) {k : Int} (h0 : 0 ≤ k) (h1 : k < n) : pg m (fun j => L (odm L n m j)) k = pg m L k := by
  rcases hm with rfl | rfl
  · unfold pg
    show decide (1 ≤ L (odm L n 1 k)) = decide (1 ≤ L k)
    have e : odm L n 1 k = rvf (pg 2 L) n (fun j => j) k := rfl
    rw [e]
    unfold rvf
    by_cases c : pg 2 L k = true
    · rw [if_pos c]
      obtain ⟨-, -, x3⟩ := rv_ix h0 h1 c
      have y1 : 2 ≤ L k := of_decide_eq_true c
      have y2 : 2 ≤ L (rsI (pg 2 L) k.toNat + reI (pg 2 L) (n - k).toNat k - 1 - k) := of_decide_eq_true x3
      have y3 : 1 ≤ L ((fun j : Int => j) (rsI (pg 2 L) k.toNat + reI (pg 2 L) (n - k).toNat k - 1 - k)) := Int.le_trans (by decide) y2
      rw [decide_eq_true y3, decide_eq_true (show 1 ≤ L k by omega)]
    · rw [if_neg c]
  · rfl
theorem odm_s {L : Int → Int} {n m : Int} (hm : m = 1 ∨ m = 2) {k : Int} (h0 : 0 ≤ k) (h1 : k < n) : rvf (pg m (fun j => L (odm L n m j))) n (odm L n m) k = odm L n (m - 1) k := by
  rw [rv_congr (Q := pg m L) (U := odm L n m) (fun j a b => odm_pg hm a b) (fun j a b => rfl) h0 h1]
  rcases hm with rfl | rfl <;> rfl
/-- a pass over rows that has come to k -/
def RVS (P : Int → Bool) (n : Int) (O : Int → Int) (k : Int) (o : Int → Int) : Prop := (∀ j, 0 ≤ j → j < k → o j = rvf P n O j) ∧ (∀ j, k ≤ j → j < n → o j = O j)
theorem rvs_run {P : Int → Bool} {n : Int} {O o o2 : Int → Int} {k to : Int} (h : RVS P n O k o) (hk : 0 ≤ k) (hb : k = 0 ∨ P (k - 1) = false ∨ P k = false) (ht : to = n ∨ P to = false) (hn : to ≤ n) (hr : ∀ j, k ≤ j → j < to → P j = true) (hlt : k < to) (h2 : ∀ j, o2 j = if k ≤ j ∧ j < to then o (k + to - 1 - j) else o j) : RVS P n O to o2 := by
  have h0 : k = 0 ∨ P (k - 1) = false := by
    rcases hb with q | q | q
    · exact Or.inl q
    · exact Or.inr q
    · have := hr k (Int.le_refl _) hlt
      rw [q] at this
      cases this
  refine ⟨fun j a b => ?_, fun j a b => ?_⟩
  · by_cases c : k ≤ j
    · rw [h2 j, if_pos ⟨c, b⟩, rv_run hk h0 ht hn hr c b]
      exact h.2 _ (by omega) (by omega)
    · rw [h2 j, if_neg (fun q => c q.1)]
      exact h.1 j a (by omega)
  · rw [h2 j, if_neg (fun q => by omega)]
    exact h.2 j (by omega) b
theorem rvs_one {P : Int → Bool} {n : Int} {O o : Int → Int} {k : Int} (h : RVS P n O k o) (hk : 0 ≤ k) (hn : k < n) (hp : P k = false) : RVS P n O (k + 1) o := by
  refine ⟨fun j a b => ?_, fun j a b => h.2 j (by omega) b⟩
  by_cases e : j = k
  · rw [e, h.2 k (Int.le_refl _) hn]
    unfold rvf
    rw [if_neg (by rw [hp]; decide)]
  · exact h.1 j a (by omega)
theorem odm_congr {L U : Int → Int} {n m : Int} (h : ∀ j, 0 ≤ j → j < n → L j = U j) {k : Int} (h0 : 0 ≤ k) (h1 : k < n) : odm L n m k = odm U n m k := by
  have hp : ∀ q j, 0 ≤ j → j < n → pg q L j = pg q U j := fun q j a b => by unfold pg; rw [h j a b]
  unfold odm
  split
  · rfl
  · split
    · exact rv_congr (hp 2) (fun j a b => rfl) h0 h1
    · exact rv_congr (hp 1) (fun j a b => rv_congr (hp 2) (fun j a b => rfl) a b) h0 h1
