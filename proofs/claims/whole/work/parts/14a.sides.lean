/-! pure rows: the sides -/
/-- the nearest at or before i that isn't P -/
def bf (P : Int → Bool) (K : Int → Int) : Nat → Int
  | 0 => K 0
  | i + 1 => if P (K ((i : Int) + 1)) = true then bf P K i else K ((i : Int) + 1)
/-- the nearest at or behind i that isn't P, d places at most -/
def af (P : Int → Bool) (K : Int → Int) : Nat → Int → Int
  | 0, i => K i
  | d + 1, i => if P (K i) = true then af P K d (i + 1) else K i
theorem bf_s {P : Int → Bool} {K : Int → Int} {i : Int} (h : 1 ≤ i) : bf P K i.toNat = if P (K i) = true then bf P K (i - 1).toNat else K i := by
  rw [show i.toNat = (i - 1).toNat + 1 by omega]
  show (if P (K (((i - 1).toNat : Int) + 1)) = true then _ else K (((i - 1).toNat : Int) + 1)) = _
  rw [show (((i - 1).toNat : Int) + 1) = i by omega]
theorem bf_0 {P : Int → Bool} {K : Int → Int} : bf P K (0 : Int).toNat = K 0 := rfl
theorem bf_congr {P : Int → Bool} {K L : Int → Int} : ∀ n : Nat, (∀ j : Int, 0 ≤ j → j ≤ n → K j = L j) → bf P K n = bf P L n := by
  intro n
  induction n with
  | zero => intro h; exact h 0 (by omega) (by omega)
  | succ n ih =>
    intro h
    show (if P (K ((n : Int) + 1)) = true then bf P K n else K ((n : Int) + 1)) = (if P (L ((n : Int) + 1)) = true then bf P L n else L ((n : Int) + 1))
    rw [h ((n : Int) + 1) (by omega) (by omega), ih (fun j a b => h j a (by omega))]
theorem bf_run {P : Int → Bool} {K : Int → Int} {i : Int} (hi : 1 ≤ i) (h0 : P (K (i - 1)) = false) : ∀ (d : Nat), (∀ j : Int, i ≤ j → j < i + d → P (K j) = true) → bf P K (i - 1 + d).toNat = K (i - 1) := by
  intro d
  induction d with
  | zero =>
    intro _
    rw [show (i - 1 + ((0 : Nat) : Int)) = i - 1 by omega]
    by_cases e : 1 ≤ i - 1
    · rw [bf_s e, if_neg (by rw [h0]; decide)]
    · rw [show i - 1 = 0 by omega]; rfl
  | succ d ih =>
    intro h
    rw [bf_s (by omega), if_pos (h _ (by omega) (by omega)), show i - 1 + ((d + 1 : Nat) : Int) - 1 = i - 1 + (d : Int) by omega]
    exact ih (fun j a b => h j a (by omega))
theorem af_run {P : Int → Bool} {K : Int → Int} {to : Int} (h0 : P (K to) = false) : ∀ (d e : Nat) (i : Int), i + d = to → (∀ j : Int, i ≤ j → j < to → P (K j) = true) → af P K (d + e) i = K to := by
  intro d
  induction d with
  | zero =>
    intro e i hi _
    rw [show i = to by omega, Nat.zero_add]
    cases e with
    | zero => rfl
    | succ e => show (if P (K to) = true then _ else K to) = K to; rw [if_neg (by rw [h0]; decide)]
  | succ d ih =>
    intro e i hi h
    rw [show d + 1 + e = (d + e) + 1 by omega]
    show (if P (K i) = true then af P K (d + e) (i + 1) else K i) = K to
    rw [if_pos (h i (by omega) (by omega))]
    exact ih e (i + 1) (by omega) (fun j a b => h j (by omega) b)
theorem af_congr {P : Int → Bool} {K L : Int → Int} : ∀ (d : Nat) (i : Int), (∀ j : Int, i ≤ j → j ≤ i + d → K j = L j) → af P K d i = af P L d i := by
  intro d
  induction d with
  | zero => intro i h; exact h i (by omega) (by omega)
  | succ d ih =>
    intro i h
    show (if P (K i) = true then af P K d (i + 1) else K i) = (if P (L i) = true then af P L d (i + 1) else L i)
    rw [h i (by omega) (by omega), ih (i + 1) (fun j a b => h j (by omega) (by omega))]
def pN (x : Int) : Bool := decide (x = 8)
def pS (x : Int) : Bool := decide (2 < x)
def pU (x : Int) : Bool := decide (x = 5)
def pQ (x : Int) : Bool := decide (8 < x)
def w1 (K : Int → Int) (i : Int) : Int := bf pN K i.toNat
def stf (K : Int → Int) (i : Int) : Int := bf pS K i.toNat
def w2 (K : Int → Int) (i : Int) : Int := if K i = 3 ∧ 1 ≤ i ∧ stf K (i - 1) = 2 then 6 else K i
def w3 (K : Int → Int) (i : Int) : Int := if K i = 2 then 1 else K i
def qf4 (K : Int → Int) : Nat → Int
  | 0 => K 0
  | i + 1 => if qf4 K i = K ((i : Int) + 1 + 1) ∧ ((K ((i : Int) + 1) = 4 ∧ qf4 K i = 3) ∨ (K ((i : Int) + 1) = 7 ∧ (qf4 K i = 3 ∨ qf4 K i = 6))) then qf4 K i else K ((i : Int) + 1)
def w4 (K : Int → Int) (i : Int) : Int := qf4 K i.toNat
def w5 (n : Int) (K : Int → Int) (i : Int) : Int := if K i = 5 ∧ (bf pU K i.toNat = 3 ∨ af pU K (n + 1 - i).toNat i = 3) then 3 else K i
def w6 (K : Int → Int) (i : Int) : Int := if K i = 4 ∨ K i = 5 ∨ K i = 7 then 11 else K i
def w7 (K : Int → Int) (i : Int) : Int := if K i = 3 ∧ 1 ≤ i ∧ stf K (i - 1) = 0 then 0 else K i
def w8 (b n : Int) (K : Int → Int) (i : Int) : Int := if 8 < K i then (if bf pQ K i.toNat = 0 ∧ af pQ K (n + 1 - i).toNat i = 0 then 0 else if 0 < bf pQ K i.toNat ∧ 0 < af pQ K (n + 1 - i).toNat i then 1 else b) else K i
theorem w4_s {K : Int → Int} {i : Int} (h : 1 ≤ i) : w4 K i = if w4 K (i - 1) = K (i + 1) ∧ ((K i = 4 ∧ w4 K (i - 1) = 3) ∨ (K i = 7 ∧ (w4 K (i - 1) = 3 ∨ w4 K (i - 1) = 6))) then w4 K (i - 1) else K i := by
  unfold w4
  rw [show i.toNat = (i - 1).toNat + 1 by omega]
  show (if qf4 K (i - 1).toNat = K (((i - 1).toNat : Int) + 1 + 1) ∧ ((K (((i - 1).toNat : Int) + 1) = 4 ∧ qf4 K (i - 1).toNat = 3) ∨ (K (((i - 1).toNat : Int) + 1) = 7 ∧ (qf4 K (i - 1).toNat = 3 ∨ qf4 K (i - 1).toNat = 6))) then qf4 K (i - 1).toNat else K (((i - 1).toNat : Int) + 1)) = _
  rw [show (((i - 1).toNat : Int) + 1) = i by omega]
theorem w1_s {K : Int → Int} {i : Int} (h : 1 ≤ i) : w1 K i = if K i = 8 then w1 K (i - 1) else K i := by
  unfold w1
  rw [bf_s h]
  unfold pN
  simp only [decide_eq_true_eq]
theorem stf_s {K : Int → Int} {i : Int} (h : 1 ≤ i) : stf K i = if 2 < K i then stf K (i - 1) else K i := by
  unfold stf
  rw [bf_s h]
  unfold pS
  simp only [decide_eq_true_eq]
/-- f and g agree at the places of a text of n characters, its two ends among them -/
def EqR (n : Int) (f g : Int → Int) : Prop := ∀ j, 0 ≤ j → j ≤ n + 1 → f j = g j
def RGK (n : Int) (f : Int → Int) : Prop := ∀ j, 0 ≤ j → j ≤ n + 1 → 0 ≤ f j ∧ f j ≤ 11
def BS (n : Int) (K : Int → Int) : Prop := (K 0 = 0 ∨ K 0 = 1) ∧ (K (n + 1) = 0 ∨ K (n + 1) = 1) ∧ RGK n K
theorem RGK_up {n : Int} {f : Int → Int} (h : RGK n f) {i v : Int} (hv : 0 ≤ v ∧ v ≤ 11) : RGK n (uI f i v) := fun j a b => by
  by_cases e : j = i
  · rw [uI_e e]; exact hv
  · rw [uI_n e]; exact h j a b
/-- a pass that has come to i: w before, K from there on -/
def STG (n : Int) (w K : Int → Int) (i : Int) (f : Int → Int) : Prop := (∀ j, 0 ≤ j → j < i → f j = w j) ∧ (∀ j, i ≤ j → j ≤ n + 1 → f j = K j)
theorem stg_0 {n : Int} {w K : Int → Int} (h : K 0 = w 0) : STG n w K 1 K := ⟨fun j a b => by rw [show j = 0 by omega]; exact h, fun j a b => rfl⟩
theorem stg_up {n : Int} {w K f : Int → Int} {i v : Int} (h : STG n w K i f) (hv : v = w i) : STG n w K (i + 1) (uI f i v) := by
  refine ⟨fun j a b => ?_, fun j a b => ?_⟩
  · by_cases e : j = i
    · rw [uI_e e, e]; exact hv
    · rw [uI_n e]; exact h.1 j a (by omega)
  · rw [uI_n (by omega)]; exact h.2 j (by omega) b
theorem stg_end {n : Int} {w K f : Int → Int} {i : Int} (h : STG n w K i f) (hi : i = n + 1) (he : K (n + 1) = w (n + 1)) : EqR n f w := fun j a b => by
  by_cases e : j < i
  · exact h.1 j a e
  · rw [h.2 j (by omega) b, show j = n + 1 by omega]; exact he
theorem stf_w2 {K : Int → Int} : ∀ (n : Nat), stf (w2 K) n = stf K n := by
  intro n
  induction n with
  | zero =>
    show w2 K 0 = K 0
    unfold w2
    rw [if_neg (by omega)]
  | succ n ih =>
    rw [stf_s (K := w2 K) (i := ((n + 1 : Nat) : Int)) (by omega), stf_s (K := K) (i := ((n + 1 : Nat) : Int)) (by omega), show ((n + 1 : Nat) : Int) - 1 = (n : Int) by omega, ih]
    by_cases h : K ((n + 1 : Nat) : Int) = 3 ∧ 1 ≤ ((n + 1 : Nat) : Int) ∧ stf K (((n + 1 : Nat) : Int) - 1) = 2
    · have e : w2 K ((n + 1 : Nat) : Int) = 6 := if_pos h
      rw [e, h.1, if_pos (by decide), if_pos (by decide)]
    · have e : w2 K ((n + 1 : Nat) : Int) = K ((n + 1 : Nat) : Int) := if_neg h
      rw [e]
theorem stf_w7 {K : Int → Int} : ∀ (n : Nat), stf (w7 K) n = stf K n := by
  intro n
  induction n with
  | zero =>
    show w7 K 0 = K 0
    unfold w7
    rw [if_neg (by omega)]
  | succ n ih =>
    rw [stf_s (K := w7 K) (i := ((n + 1 : Nat) : Int)) (by omega), stf_s (K := K) (i := ((n + 1 : Nat) : Int)) (by omega), show ((n + 1 : Nat) : Int) - 1 = (n : Int) by omega, ih]
    by_cases h : K ((n + 1 : Nat) : Int) = 3 ∧ 1 ≤ ((n + 1 : Nat) : Int) ∧ stf K (((n + 1 : Nat) : Int) - 1) = 0
    · have e : w7 K ((n + 1 : Nat) : Int) = 0 := if_pos h
      have h3 := h.2.2
      rw [show ((n + 1 : Nat) : Int) - 1 = (n : Int) by omega] at h3
      rw [e, h.1, if_neg (by decide), if_pos (by decide), h3]
    · have e : w7 K ((n + 1 : Nat) : Int) = K ((n + 1 : Nat) : Int) := if_neg h
      rw [e]
theorem stg_st {n : Int} {w K f : Int → Int} {i : Int} (h : STG n w K i f) (hi : 1 ≤ i) (hw : ∀ m : Nat, stf w m = stf K m) : stf f (i - 1) = stf K (i - 1) := by
  have h1 := hw (i - 1).toNat
  rw [show (((i - 1).toNat : Int)) = i - 1 by omega] at h1
  rw [← h1]
  exact bf_congr _ (fun j a b => h.1 j a (by omega))
theorem w1_rng {n : Int} {K : Int → Int} (h : BS n K) : RGK n (w1 K) := by
  have key : ∀ m : Nat, (m : Int) ≤ n + 1 → 0 ≤ w1 K m ∧ w1 K m ≤ 11 := by
    intro m
    induction m with
    | zero => intro hm; exact h.2.2 0 (by omega) (by omega)
    | succ m ih =>
      intro hm
      rw [w1_s (by omega), show ((m + 1 : Nat) : Int) - 1 = (m : Int) by omega]
      have h1 := ih (by omega)
      have h2 := h.2.2 ((m + 1 : Nat) : Int) (by omega) hm
      split <;> omega
  intro j a b
  have := key j.toNat (by omega)
  rw [show ((j.toNat : Int)) = j by omega] at this
  exact this
theorem w4_rng {n : Int} {K : Int → Int} (h : BS n K) : RGK n (w4 K) := by
  have key : ∀ m : Nat, (m : Int) ≤ n + 1 → 0 ≤ w4 K m ∧ w4 K m ≤ 11 := by
    intro m
    induction m with
    | zero => intro hm; exact h.2.2 0 (by omega) (by omega)
    | succ m ih =>
      intro hm
      rw [w4_s (by omega), show ((m + 1 : Nat) : Int) - 1 = (m : Int) by omega]
      have h1 := ih (by omega)
      have h2 := h.2.2 ((m + 1 : Nat) : Int) (by omega) hm
      split <;> omega
  intro j a b
  have := key j.toNat (by omega)
  rw [show ((j.toNat : Int)) = j by omega] at this
  exact this
theorem BS_1 {n : Int} {K : Int → Int} (hn : 0 ≤ n) (h : BS n K) : BS n (w1 K) ∧ K 0 = w1 K 0 ∧ K (n + 1) = w1 K (n + 1) := by
  have e0 : w1 K 0 = K 0 := rfl
  have e1 : w1 K (n + 1) = K (n + 1) := by rw [w1_s (by omega), if_neg (by have := h.2.1; omega)]
  exact ⟨⟨by rw [e0]; exact h.1, by rw [e1]; exact h.2.1, w1_rng h⟩, e0.symm, e1.symm⟩
theorem BS_2 {n : Int} {K : Int → Int} (hn : 0 ≤ n) (h : BS n K) : BS n (w2 K) ∧ K 0 = w2 K 0 ∧ K (n + 1) = w2 K (n + 1) := by
  have e0 : w2 K 0 = K 0 := if_neg (by omega)
  have e1 : w2 K (n + 1) = K (n + 1) := if_neg (by have := h.2.1; omega)
  refine ⟨⟨by rw [e0]; exact h.1, by rw [e1]; exact h.2.1, fun j a b => ?_⟩, e0.symm, e1.symm⟩
  have := h.2.2 j a b
  unfold w2
  split <;> omega
theorem BS_3 {n : Int} {K : Int → Int} (hn : 0 ≤ n) (h : BS n K) : BS n (w3 K) ∧ K 0 = w3 K 0 ∧ K (n + 1) = w3 K (n + 1) := by
  have e0 : w3 K 0 = K 0 := if_neg (by have := h.1; omega)
  have e1 : w3 K (n + 1) = K (n + 1) := if_neg (by have := h.2.1; omega)
  refine ⟨⟨by rw [e0]; exact h.1, by rw [e1]; exact h.2.1, fun j a b => ?_⟩, e0.symm, e1.symm⟩
  have := h.2.2 j a b
  unfold w3
  split <;> omega
theorem BS_4 {n : Int} {K : Int → Int} (hn : 0 ≤ n) (h : BS n K) : BS n (w4 K) ∧ K 0 = w4 K 0 ∧ K (n + 1) = w4 K (n + 1) := by
  have e0 : w4 K 0 = K 0 := rfl
  have e1 : w4 K (n + 1) = K (n + 1) := by
    rw [w4_s (by omega), if_neg (fun z => ?_)]
    have := h.2.1
    rcases z.2 with q | q <;> omega
  exact ⟨⟨by rw [e0]; exact h.1, by rw [e1]; exact h.2.1, w4_rng h⟩, e0.symm, e1.symm⟩
theorem BS_5 {n : Int} {K : Int → Int} (hn : 0 ≤ n) (h : BS n K) : BS n (w5 n K) ∧ K 0 = w5 n K 0 ∧ K (n + 1) = w5 n K (n + 1) := by
  have e0 : w5 n K 0 = K 0 := if_neg (fun z => by have := h.1; have := z.1; omega)
  have e1 : w5 n K (n + 1) = K (n + 1) := if_neg (fun z => by have := h.2.1; have := z.1; omega)
  refine ⟨⟨by rw [e0]; exact h.1, by rw [e1]; exact h.2.1, fun j a b => ?_⟩, e0.symm, e1.symm⟩
  have := h.2.2 j a b
  unfold w5
  split <;> omega
theorem BS_6 {n : Int} {K : Int → Int} (hn : 0 ≤ n) (h : BS n K) : BS n (w6 K) ∧ K 0 = w6 K 0 ∧ K (n + 1) = w6 K (n + 1) := by
  have e0 : w6 K 0 = K 0 := if_neg (by have := h.1; omega)
  have e1 : w6 K (n + 1) = K (n + 1) := if_neg (by have := h.2.1; omega)
  refine ⟨⟨by rw [e0]; exact h.1, by rw [e1]; exact h.2.1, fun j a b => ?_⟩, e0.symm, e1.symm⟩
  have := h.2.2 j a b
  unfold w6
  split <;> omega
theorem BS_7 {n : Int} {K : Int → Int} (hn : 0 ≤ n) (h : BS n K) : BS n (w7 K) ∧ K 0 = w7 K 0 ∧ K (n + 1) = w7 K (n + 1) := by
  have e0 : w7 K 0 = K 0 := if_neg (by omega)
  have e1 : w7 K (n + 1) = K (n + 1) := if_neg (by have := h.2.1; omega)
  refine ⟨⟨by rw [e0]; exact h.1, by rw [e1]; exact h.2.1, fun j a b => ?_⟩, e0.symm, e1.symm⟩
  have := h.2.2 j a b
  unfold w7
  split <;> omega
theorem BS_eq {n : Int} {f g : Int → Int} (hn : 0 ≤ n) (h : EqR n f g) (hg : BS n g) : BS n f :=
  ⟨by rw [h 0 (by omega) (by omega)]; exact hg.1, by rw [h (n + 1) (by omega) (by omega)]; exact hg.2.1, fun j a b => by rw [h j a b]; exact hg.2.2 j a b⟩
theorem EqR.trans {n : Int} {f g k : Int → Int} (h : EqR n f g) (h2 : EqR n g k) : EqR n f k := fun j a b => (h j a b).trans (h2 j a b)
theorem EqR_1 {n : Int} {f g : Int → Int} (h : EqR n f g) : EqR n (w1 f) (w1 g) := fun j a b => bf_congr _ (fun k c d => h k c (by omega))
theorem EqR_st {n : Int} {f g : Int → Int} (h : EqR n f g) {j : Int} (b : j ≤ n + 1) (hj : 0 ≤ j) : stf f j = stf g j := bf_congr _ (fun k c d => h k c (by omega))
theorem EqR_2 {n : Int} {f g : Int → Int} (h : EqR n f g) : EqR n (w2 f) (w2 g) := fun j a b => by
  unfold w2
  rw [h j a b]
  by_cases e : 1 ≤ j
  · rw [EqR_st h (j := j - 1) (by omega) (by omega)]
  · rw [if_neg (by omega), if_neg (by omega)]
theorem EqR_3 {n : Int} {f g : Int → Int} (h : EqR n f g) : EqR n (w3 f) (w3 g) := fun j a b => by
  unfold w3
  rw [h j a b]
theorem EqR_4 {n : Int} {f g : Int → Int} (h : EqR n f g) (hg : f (n + 1) = 0 ∨ f (n + 1) = 1) : EqR n (w4 f) (w4 g) := by
  have key : ∀ m : Nat, (m : Int) ≤ n + 1 → w4 f m = w4 g m := by
    intro m
    induction m with
    | zero => intro hm; exact h 0 (by omega) (by omega)
    | succ m ih =>
      intro hm
      rw [w4_s (K := f) (i := ((m + 1 : Nat) : Int)) (by omega), w4_s (K := g) (i := ((m + 1 : Nat) : Int)) (by omega), show ((m + 1 : Nat) : Int) - 1 = (m : Int) by omega, ih (by omega), h ((m + 1 : Nat) : Int) (by omega) hm]
      by_cases e : ((m + 1 : Nat) : Int) = n + 1
      · have h1 := h ((m + 1 : Nat) : Int) (by omega) hm
        rw [e] at h1 ⊢
        rw [if_neg (fun z => by rcases z.2 with q | q <;> omega), if_neg (fun z => by rcases z.2 with q | q <;> omega)]
      · rw [h (((m + 1 : Nat) : Int) + 1) (by omega) (by omega)]
  intro j a b
  have := key j.toNat (by omega)
  rw [show ((j.toNat : Int)) = j by omega] at this
  exact this
theorem EqR_5 {n : Int} {f g : Int → Int} (h : EqR n f g) : EqR n (w5 n f) (w5 n g) := fun j a b => by
  unfold w5
  rw [h j a b, bf_congr (K := f) (L := g) j.toNat (fun k c d => h k c (by omega)), af_congr (K := f) (L := g) (n + 1 - j).toNat j (fun k c d => h k (by omega) (by omega))]
theorem EqR_6 {n : Int} {f g : Int → Int} (h : EqR n f g) : EqR n (w6 f) (w6 g) := fun j a b => by
  unfold w6
  rw [h j a b]
theorem EqR_7 {n : Int} {f g : Int → Int} (h : EqR n f g) : EqR n (w7 f) (w7 g) := fun j a b => by
  unfold w7
  rw [h j a b]
  by_cases e : 1 ≤ j
  · rw [EqR_st h (j := j - 1) (by omega) (by omega)]
  · rw [if_neg (by omega), if_neg (by omega)]
theorem EqR_8 {c n : Int} {f g : Int → Int} (h : EqR n f g) : EqR n (w8 c n f) (w8 c n g) := fun j a b => by
  unfold w8
  rw [h j a b, bf_congr (K := f) (L := g) j.toNat (fun k c d => h k c (by omega)), af_congr (K := f) (L := g) (n + 1 - j).toNat j (fun k c d => h k (by omega) (by omega))]
/-- steps (1) to (7) -/
def wk (n : Int) (K : Int → Int) : Int → Int := w7 (w6 (w5 n (w4 (w3 (w2 (w1 K))))))
/-- a run of UNITs from i to 'to' -/
theorem run_val {P : Int → Bool} {n : Int} {K : Int → Int} {i to : Int} (hi : 1 ≤ i) (ht : to ≤ n + 1) (h1 : P (K (i - 1)) = false) (h2 : P (K to) = false) (hr : ∀ j, i ≤ j → j < to → P (K j) = true) {j : Int} (ha : i ≤ j) (hb : j < to) : bf P K j.toNat = K (i - 1) ∧ af P K (n + 1 - j).toNat j = K to := by
  constructor
  · have := bf_run hi h1 (j - i + 1).toNat (fun k c d => hr k c (by omega))
    rw [show i - 1 + ((j - i + 1).toNat : Int) = j by omega] at this
    exact this
  · have := af_run h2 (to - j).toNat (n + 1 - to).toNat j (by omega) (fun k c d => hr k (by omega) d)
    rw [show (to - j).toNat + (n + 1 - to).toNat = (n + 1 - j).toNat by omega] at this
    exact this
