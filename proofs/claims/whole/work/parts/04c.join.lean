/-! pure rows: rows of numbers read from their ends; joins; keys -/
/-- the first n numbers of g, the last one first -/
def rsg (g : Int → Int) : Nat → List Int
  | 0 => []
  | n + 1 => g (n : Int) :: rsg g n
theorem rsg_sg (g : Int → Int) : ∀ n : Nat, rsg g n = (sg g 0 n).reverse := by
  intro n
  induction n with
  | zero => rfl
  | succ n ih =>
    rw [sg_snoc, List.reverse_append, ← ih, Int.zero_add]
    rfl
theorem sg_rsg (g : Int → Int) (n : Nat) : sg g 0 n = (rsg g n).reverse := by
  rw [rsg_sg, List.reverse_reverse]
theorem rsg_len (g : Int → Int) (n : Nat) : (rsg g n).length = n := by
  rw [rsg_sg, List.length_reverse, sg_len]
theorem rsg_congr {g h : Int → Int} : ∀ n : Nat, (∀ j : Int, 0 ≤ j → j < n → g j = h j) → rsg g n = rsg h n := by
  intro n H
  rw [rsg_sg, rsg_sg, sg_congr n 0 (fun j h1 h2 => H j h1 (by omega))]
theorem rsg_inj {g h : Int → Int} (n : Nat) (e : rsg g n = rsg h n) : ∀ j : Int, 0 ≤ j → j < n → g j = h j := by
  intro j h1 h2
  rw [rsg_sg, rsg_sg] at e
  have e2 := congrArg List.reverse e
  rw [List.reverse_reverse, List.reverse_reverse] at e2
  exact sg_inj n 0 e2 j h1 (by omega)
theorem rsg_mem {g : Int → Int} {x : Int} {n : Nat} (h : x ∈ rsg g n) : ∃ j : Int, 0 ≤ j ∧ j < n ∧ g j = x := by
  rw [rsg_sg, List.mem_reverse] at h
  obtain ⟨j, h1, h2, h3⟩ := sg_mem n 0 h
  exact ⟨j, h1, by omega, h3⟩
theorem rsg_in {g : Int → Int} : ∀ {n : Nat} {j : Int}, 0 ≤ j → j < n → g j ∈ rsg g n := by
  intro n
  induction n with
  | zero => intro j h1 h2; omega
  | succ n ih =>
    intro j h1 h2
    by_cases hj : j = n
    · rw [hj]; exact List.mem_cons_self
    · exact List.mem_cons_of_mem _ (ih h1 (by omega))
/-- c is put behind the n first -/
theorem rsg_push {g : Int → Int} {n : Nat} {c : Int} : rsg (uI g n c) (n + 1) = c :: rsg g n := by
  show uI g n c n :: rsg (uI g n c) n = _
  rw [uI_s, rsg_congr n (fun j h1 h2 => uI_n (by omega))]
/-- the joined form, reversed: c comes behind L -/
def jgo (rk : Int → Int) (jn : Int → Int → Int) (c : Int) : List Int → Option (List Int)
  | [] => none
  | x :: t => if rk x = 0 then (if 0 ≤ jn x c then some (jn x c :: t) else none) else if rk c ≤ rk x then none else (jgo rk jn c t).map (fun z => x :: z)
def jst (rk : Int → Int) (jn : Int → Int → Int) (L : List Int) (c : Int) : List Int := (jgo rk jn c L).getD (c :: L)
def jnL (rk : Int → Int) (jn : Int → Int → Int) (L l : List Int) : List Int := l.foldl (jst rk jn) L
theorem jgo_len {rk : Int → Int} {jn : Int → Int → Int} {c : Int} : ∀ {L L' : List Int}, jgo rk jn c L = some L' → L'.length = L.length := by
  intro L
  induction L with
  | nil => intro L' h; cases h
  | cons x t ih =>
    intro L' h
    have h' : (if rk x = 0 then (if 0 ≤ jn x c then some (jn x c :: t) else none) else if rk c ≤ rk x then none else (jgo rk jn c t).map (fun z => x :: z)) = some L' := h
    split at h'
    · split at h'
      · cases h'; rfl
      · cases h'
    · split at h'
      · cases h'
      · cases hg : jgo rk jn c t with
        | none => rw [hg] at h'; cases h'
        | some z =>
          rw [hg] at h'
          cases h'
          show z.length + 1 = t.length + 1
          rw [ih hg]
/-- the numbers of the key of a form l for the weight w -/
def kw (w : Int → Int) (l : List Int) : List Int := (l.map w).filter (fun x => decide (x ≠ 0))
def keyL (w0 w1 w2 : Int → Int) (l : List Int) : List Int := kw w0 l ++ 0 :: kw w1 l ++ 0 :: kw w2 l
/-- the order of two keys -/
def cmpL : List Int → List Int → Int
  | [], [] => 0
  | [], _ :: _ => -1
  | _ :: _, [] => 1
  | x :: s, y :: t => if x = y then cmpL s t else if x < y then -1 else 1
theorem cmpL_0 : ∀ (s t : List Int), cmpL s t = 0 ↔ s = t := by
  intro s
  induction s with
  | nil => intro t; cases t with
    | nil => exact ⟨fun _ => rfl, fun _ => rfl⟩
    | cons y t => exact ⟨fun h => (by cases h), fun h => (by cases h)⟩
  | cons x s ih =>
    intro t
    cases t with
    | nil => exact ⟨fun h => (by cases h), fun h => (by cases h)⟩
    | cons y t =>
      show (if x = y then cmpL s t else if x < y then -1 else 1) = 0 ↔ _
      by_cases h : x = y
      · rw [if_pos h, ih t, h]
        exact ⟨fun e => by rw [e], fun e => (List.cons.inj e).2⟩
      · rw [if_neg h]
        refine ⟨fun e => ?_, fun e => absurd (List.cons.inj e).1 h⟩
        split at e <;> cases e
