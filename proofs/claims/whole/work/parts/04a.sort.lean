/-! pure rows: forms as lists; the sort by rank -/
/-- the n numbers of g from a on -/
def sg (g : Int → Int) : Int → Nat → List Int
  | _, 0 => []
  | a, n + 1 => g a :: sg g (a + 1) n
theorem sg_len (g : Int → Int) : ∀ (n : Nat) (a : Int), (sg g a n).length = n := by
  intro n
  induction n with
  | zero => intro a; rfl
  | succ n ih => intro a; show (sg g (a + 1) n).length + 1 = n + 1; rw [ih]
theorem sg_congr {g h : Int → Int} : ∀ (n : Nat) (a : Int), (∀ j, a ≤ j → j < a + n → g j = h j) → sg g a n = sg h a n := by
  intro n
  induction n with
  | zero => intro a _; rfl
  | succ n ih =>
    intro a H
    show g a :: sg g (a + 1) n = h a :: sg h (a + 1) n
    rw [H a (by omega) (by omega), ih (a + 1) (fun j h1 h2 => H j (by omega) (by omega))]
theorem sg_snoc (g : Int → Int) : ∀ (n : Nat) (a : Int), sg g a (n + 1) = sg g a n ++ [g (a + n)] := by
  intro n
  induction n with
  | zero => intro a; show [g a] = [g (a + 0)]; rw [Int.add_zero]
  | succ n ih =>
    intro a
    show g a :: sg g (a + 1) (n + 1) = (g a :: sg g (a + 1) n) ++ [g (a + (n + 1 : Nat))]
    rw [ih (a + 1), show a + 1 + (n : Int) = a + ((n + 1 : Nat) : Int) by omega]
    rfl
theorem sg_add (g : Int → Int) : ∀ (n m : Nat) (a : Int), sg g a (n + m) = sg g a n ++ sg g (a + n) m := by
  intro n
  induction n with
  | zero => intro m a; rw [Nat.zero_add]; show sg g a m = sg g (a + 0) m; rw [Int.add_zero]
  | succ n ih =>
    intro m a
    rw [show n + 1 + m = (n + m) + 1 by omega]
    show g a :: sg g (a + 1) (n + m) = g a :: (sg g (a + 1) n ++ sg g (a + (n + 1 : Nat)) m)
    rw [ih m (a + 1), show a + 1 + (n : Int) = a + ((n + 1 : Nat) : Int) by omega]
theorem sg_get {g : Int → Int} : ∀ (n : Nat) (a : Int) (k : Nat), k < n → (sg g a n)[k]? = some (g (a + k)) := by
  intro n
  induction n with
  | zero => intro a k h; omega
  | succ n ih =>
    intro a k h
    cases k with
    | zero => show some (g a) = some (g (a + 0)); rw [Int.add_zero]
    | succ k =>
      show (sg g (a + 1) n)[k]? = _
      rw [ih (a + 1) k (by omega), show a + 1 + (k : Int) = a + ((k + 1 : Nat) : Int) by omega]
theorem sg_mem {g : Int → Int} {x : Int} : ∀ (n : Nat) (a : Int), x ∈ sg g a n → ∃ j, a ≤ j ∧ j < a + n ∧ g j = x := by
  intro n
  induction n with
  | zero => intro a h; cases h
  | succ n ih =>
    intro a h
    rcases List.mem_cons.mp h with h | h
    · exact ⟨a, by omega, by omega, h.symm⟩
    · obtain ⟨j, h1, h2, h3⟩ := ih (a + 1) h
      exact ⟨j, by omega, by omega, h3⟩
/-- two rows of numbers that are one list agree place by place -/
theorem sg_inj {g h : Int → Int} : ∀ (n : Nat) (a : Int), sg g a n = sg h a n → ∀ j, a ≤ j → j < a + n → g j = h j := by
  intro n
  induction n with
  | zero => intro a _ j h1 h2; omega
  | succ n ih =>
    intro a H j h1 h2
    have H' : g a :: sg g (a + 1) n = h a :: sg h (a + 1) n := H
    rw [List.cons.injEq] at H'
    by_cases hj : j = a
    · rw [hj]; exact H'.1
    · exact ih (a + 1) H'.2 j (by omega) (by omega)
/-- a character goes into a reversed form: behind those of a greater rank -/
def insR (rk : Int → Int) (c : Int) : List Int → List Int
  | [] => [c]
  | x :: t => if 0 < rk c ∧ rk c < rk x then x :: insR rk c t else c :: x :: t
def srt (rk : Int → Int) (L l : List Int) : List Int := l.foldl (fun L c => insR rk c L) L
theorem insR_comm {rk : Int → Int} {x y : Int} (h1 : rk y < rk x) (h0 : 0 < rk y) : ∀ L : List Int, insR rk y (insR rk x L) = insR rk x (insR rk y L) := by
  intro L
  induction L with
  | nil =>
    show (if 0 < rk y ∧ rk y < rk x then x :: insR rk y [] else y :: [x]) = (if 0 < rk x ∧ rk x < rk y then y :: insR rk x [] else x :: [y])
    rw [if_pos ⟨h0, h1⟩, if_neg (by omega)]
    rfl
  | cons z t ih =>
    by_cases hx : rk x < rk z
    · have e1 : insR rk x (z :: t) = z :: insR rk x t := if_pos ⟨by omega, hx⟩
      have e2 : insR rk y (z :: t) = z :: insR rk y t := if_pos ⟨h0, by omega⟩
      have e3 : insR rk y (z :: insR rk x t) = z :: insR rk y (insR rk x t) := if_pos ⟨h0, by omega⟩
      have e4 : insR rk x (z :: insR rk y t) = z :: insR rk x (insR rk y t) := if_pos ⟨by omega, hx⟩
      rw [e1, e2, e3, e4, ih]
    · have e1 : insR rk x (z :: t) = x :: z :: t := if_neg (by omega)
      have e3 : insR rk y (x :: z :: t) = x :: insR rk y (z :: t) := if_pos ⟨h0, h1⟩
      rw [e1, e3]
      by_cases hy : rk y < rk z
      · have e2 : insR rk y (z :: t) = z :: insR rk y t := if_pos ⟨h0, hy⟩
        have e4 : insR rk x (z :: insR rk y t) = x :: z :: insR rk y t := if_neg (by omega)
        rw [e2, e4]
      · have e2 : insR rk y (z :: t) = y :: z :: t := if_neg (by omega)
        have e4 : insR rk x (y :: z :: t) = x :: y :: z :: t := if_neg (by omega)
        rw [e2, e4]
/-- one round of the neighbours' changing places, with the one that is carried -/
def pas (rk : Int → Int) : Int → List Int → List Int
  | c, [] => [c]
  | c, y :: t => if rk y < rk c ∧ 0 < rk y then y :: pas rk c t else c :: pas rk y t
def pass (rk : Int → Int) : List Int → List Int
  | [] => []
  | x :: t => pas rk x t
def rnds (rk : Int → Int) : Nat → List Int → List Int
  | 0, l => l
  | n + 1, l => rnds rk n (pass rk l)
theorem pas_len (rk : Int → Int) : ∀ (t : List Int) (c : Int), (pas rk c t).length = t.length + 1 := by
  intro t
  induction t with
  | nil => intro c; rfl
  | cons y t ih =>
    intro c
    show (if rk y < rk c ∧ 0 < rk y then y :: pas rk c t else c :: pas rk y t).length = _
    split
    · rw [List.length_cons, ih, List.length_cons]
    · rw [List.length_cons, ih, List.length_cons]
theorem pass_len (rk : Int → Int) (l : List Int) : (pass rk l).length = l.length := by
  cases l with
  | nil => rfl
  | cons x t => exact pas_len rk t x
theorem srt_pas (rk : Int → Int) : ∀ (t : List Int) (c : Int) (L : List Int), srt rk L (pas rk c t) = srt rk L (c :: t) := by
  intro t
  induction t with
  | nil => intro c L; rfl
  | cons y t ih =>
    intro c L
    show srt rk L (if rk y < rk c ∧ 0 < rk y then y :: pas rk c t else c :: pas rk y t) = _
    by_cases h : rk y < rk c ∧ 0 < rk y
    · rw [if_pos h]
      show srt rk (insR rk y L) (pas rk c t) = srt rk (insR rk y (insR rk c L)) t
      rw [ih, insR_comm h.1 h.2]
      rfl
    · rw [if_neg h]
      show srt rk (insR rk c L) (pas rk y t) = _
      rw [ih]
      rfl
theorem srt_rnds (rk : Int → Int) : ∀ (n : Nat) (L l : List Int), srt rk L (rnds rk n l) = srt rk L l := by
  intro n
  induction n with
  | zero => intro L l; rfl
  | succ n ih =>
    intro L l
    show srt rk L (rnds rk n (pass rk l)) = _
    rw [ih]
    cases l with
    | nil => rfl
    | cons x t => exact srt_pas rk t x L
/-- how many of the block stand in y's way -/
def cg (rk : Int → Int) (blk : List Int) (y : Int) : Nat := if 0 < rk y then (blk.filter (fun x => decide (rk y < rk x))).length else 0
def nx (rk : Int → Int) (c : Int) (blk : List Int) : List Int := if 0 < rk c then c :: blk else []
def dm (rk : Int → Int) : List Int → List Int → Nat
  | _, [] => 0
  | blk, y :: t => max (cg rk blk y) (dm rk (nx rk y blk) t)
theorem dm_perm (rk : Int → Int) : ∀ (t b1 b2 : List Int), b1.Perm b2 → dm rk b1 t = dm rk b2 t := by
  intro t
  induction t with
  | nil => intro b1 b2 _; rfl
  | cons y t ih =>
    intro b1 b2 h
    show max (cg rk b1 y) (dm rk (nx rk y b1) t) = max (cg rk b2 y) (dm rk (nx rk y b2) t)
    have e1 : cg rk b1 y = cg rk b2 y := by
      unfold cg
      rw [(h.filter _).length_eq]
    have e2 : (nx rk y b1).Perm (nx rk y b2) := by
      unfold nx
      split
      · exact h.cons y
      · exact List.Perm.refl _
    rw [e1, ih _ _ e2]
theorem cg_max {rk : Int → Int} {blk : List Int} {c : Int} (h : 0 < rk c → ∀ x ∈ blk, rk x ≤ rk c) : cg rk blk c = 0 := by
  unfold cg
  split
  · rename_i h0
    rw [List.length_eq_zero_iff, List.filter_eq_nil_iff]
    intro x hx
    have := h h0 x hx
    simp only [decide_eq_true_eq]
    omega
  · rfl
theorem dm_pas (rk : Int → Int) : ∀ (t : List Int) (c : Int) (blk : List Int), (0 < rk c → ∀ x ∈ blk, rk x ≤ rk c) → dm rk blk (pas rk c t) ≤ dm rk (nx rk c blk) t - 1 := by
  intro t
  induction t with
  | nil =>
    intro c blk h
    show max (cg rk blk c) 0 ≤ _
    rw [cg_max h]
    exact Nat.zero_le _
  | cons y t ih =>
    intro c blk h
    by_cases hs : rk y < rk c ∧ 0 < rk y
    · have e0 : pas rk c (y :: t) = y :: pas rk c t := if_pos hs
      have hc : 0 < rk c := by omega
      have e1 : nx rk c blk = c :: blk := if_pos hc
      have e2 : nx rk y blk = y :: blk := if_pos hs.2
      have e3 : nx rk y (c :: blk) = y :: c :: blk := if_pos hs.2
      have i1 := ih c (y :: blk) (fun _ x hx => by
        rcases List.mem_cons.mp hx with h1 | h1
        · rw [h1]; omega
        · exact h hc x h1)
      have e4 : nx rk c (y :: blk) = c :: y :: blk := if_pos hc
      rw [e4, dm_perm rk t _ _ (List.Perm.swap y c blk)] at i1
      have e5 : cg rk (c :: blk) y = cg rk blk y + 1 := by
        unfold cg
        rw [if_pos hs.2, if_pos hs.2, List.filter_cons, if_pos (by simp only [decide_eq_true_eq]; omega), List.length_cons]
      rw [e0, e1]
      show max (cg rk blk y) (dm rk (nx rk y blk) (pas rk c t)) ≤ max (cg rk (c :: blk) y) (dm rk (nx rk y (c :: blk)) t) - 1
      rw [e2, e3, e5]
      omega
    · have e0 : pas rk c (y :: t) = c :: pas rk y t := if_neg hs
      have i1 := ih y (nx rk c blk) (fun hy x hx => by
        unfold nx at hx
        split at hx
        · rename_i hc
          have hle : rk c ≤ rk y := by omega
          rcases List.mem_cons.mp hx with h1 | h1
          · rw [h1]; exact hle
          · have := h hc x h1
            omega
        · cases hx)
      rw [e0]
      show max (cg rk blk c) (dm rk (nx rk c blk) (pas rk y t)) ≤ max (cg rk (nx rk c blk) y) (dm rk (nx rk y (nx rk c blk)) t) - 1
      rw [cg_max h]
      omega
theorem dm_pass (rk : Int → Int) (l : List Int) : dm rk [] (pass rk l) ≤ dm rk [] l - 1 := by
  cases l with
  | nil => exact Nat.zero_le _
  | cons x t =>
    have h := dm_pas rk t x [] (fun _ z hz => by cases hz)
    have e : dm rk [] (x :: t) = dm rk (nx rk x []) t := by
      show max (cg rk [] x) (dm rk (nx rk x []) t) = _
      have : cg rk [] x = 0 := cg_max (fun _ z hz => by cases hz)
      rw [this]
      omega
    rw [e]
    exact h
theorem dm_rnds (rk : Int → Int) : ∀ (n : Nat) (l : List Int), dm rk [] (rnds rk n l) ≤ dm rk [] l - n := by
  intro n
  induction n with
  | zero => intro l; exact Nat.le_refl _
  | succ n ih =>
    intro l
    have h1 := ih (pass rk l)
    have h2 := dm_pass rk l
    show dm rk [] (rnds rk n (pass rk l)) ≤ _
    omega
theorem dm_le (rk : Int → Int) : ∀ (t blk : List Int), dm rk blk t ≤ blk.length + t.length := by
  intro t
  induction t with
  | nil => intro blk; exact Nat.zero_le _
  | cons y t ih =>
    intro blk
    have h1 : cg rk blk y ≤ blk.length := by
      unfold cg
      split
      · exact List.length_filter_le _ _
      · exact Nat.zero_le _
    have h2 := ih (nx rk y blk)
    have h3 : (nx rk y blk).length ≤ blk.length + 1 := by
      unfold nx
      split
      · exact Nat.le_refl _
      · exact Nat.zero_le _
    show max (cg rk blk y) (dm rk (nx rk y blk) t) ≤ blk.length + (t.length + 1)
    omega
theorem srt_dm0 (rk : Int → Int) : ∀ (t blk L : List Int), dm rk blk t = 0 → (∀ x s, L = x :: s → x ∈ blk ∨ rk x ≤ 0) → srt rk L t = t.reverse ++ L := by
  intro t
  induction t with
  | nil => intro blk L _ _; rfl
  | cons y t ih =>
    intro blk L h hL
    have h' : max (cg rk blk y) (dm rk (nx rk y blk) t) = 0 := h
    have h1 : cg rk blk y = 0 := by omega
    have h2 : dm rk (nx rk y blk) t = 0 := by omega
    have e : insR rk y L = y :: L := by
      cases L with
      | nil => rfl
      | cons x s =>
        refine if_neg (fun hc => ?_)
        rcases hL x s rfl with h3 | h3
        · unfold cg at h1
          rw [if_pos hc.1, List.length_eq_zero_iff, List.filter_eq_nil_iff] at h1
          exact h1 x h3 (by simp only [decide_eq_true_eq]; exact hc.2)
        · omega
    show srt rk (insR rk y L) t = _
    rw [e, ih (nx rk y blk) (y :: L) h2 (fun x s hx => ?_)]
    · simp
    · rw [List.cons.injEq] at hx
      rw [← hx.1]
      by_cases hy : 0 < rk y
      · left
        unfold nx
        rw [if_pos hy]
        exact List.mem_cons_self
      · right
        omega
/-- as many rounds as there are characters give the form that insertions give -/
theorem rnds_srt (rk : Int → Int) (l : List Int) : rnds rk l.length l = (srt rk [] l).reverse := by
  have h1 := dm_rnds rk l.length l
  have h2 := dm_le rk l []
  have h3 : dm rk [] (rnds rk l.length l) = 0 := by
    have : ([] : List Int).length = 0 := rfl
    omega
  have h4 := srt_dm0 rk (rnds rk l.length l) [] [] h3 (fun x s hx => by cases hx)
  rw [srt_rnds] at h4
  rw [h4]
  simp
