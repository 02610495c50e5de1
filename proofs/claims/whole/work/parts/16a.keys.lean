/-! pure rows: keys, their order -/
def kpf (w : Int → Int → Int) (l : List Int) : Nat → List Int
  | 0 => []
  | k + 1 => kpf w l k ++ (if k = 0 then [] else [0]) ++ kw (w (k : Int)) l
theorem kw_snoc (w : Int → Int) (l : List Int) (c : Int) : kw w (l ++ [c]) = kw w l ++ (if w c = 0 then [] else [w c]) := by
  unfold kw
  rw [List.map_append, List.filter_append]
  congr 1
  show [w c].filter _ = _
  by_cases h : w c = 0
  · rw [if_pos h, List.filter_cons_of_neg (by simp [h])]
    rfl
  · rw [if_neg h, List.filter_cons_of_pos (by simp [h])]
    rfl
theorem kpf_s {w : Int → Int → Int} {l : List Int} {k : Int} (h : 0 ≤ k) : kpf w l (k + 1).toNat = kpf w l k.toNat ++ (if k = 0 then [] else [0]) ++ kw (w k) l := by
  rw [show (k + 1).toNat = k.toNat + 1 by omega]
  show kpf w l k.toNat ++ (if k.toNat = 0 then [] else [0]) ++ kw (w (k.toNat : Int)) l = _
  rw [show ((k.toNat : Int)) = k by omega]
  by_cases e : k = 0
  · rw [if_pos e, if_pos (by omega)]
  · rw [if_neg e, if_neg (by omega)]
theorem kw_congr {v w : Int → Int} : ∀ l : List Int, (∀ x ∈ l, v x = w x) → kw v l = kw w l := by
  intro l h
  unfold kw
  rw [List.map_congr_left h]
theorem kpf_congr {v w : Int → Int → Int} {l : List Int} : ∀ n : Nat, (∀ (k : Nat), k < n → ∀ x ∈ l, v (k : Int) x = w (k : Int) x) → kpf v l n = kpf w l n := by
  intro n
  induction n with
  | zero => intro _; rfl
  | succ n ih =>
    intro h
    show kpf v l n ++ _ ++ kw (v (n : Int)) l = kpf w l n ++ _ ++ kw (w (n : Int)) l
    rw [ih (fun k a => h k (by omega)), kw_congr l (h n (by omega))]
/-- the key of a text -/
def KYL (w : Int → Int → Int) (rk fi se tx : Int → Int) (n : Int) : List Int := kpf w (FM rk fi se tx n).reverse 3
theorem cmpL_eq {x : Int} {s t : List Int} : cmpL (x :: s) (x :: t) = cmpL s t := if_pos rfl
theorem cmpL_ne {x y : Int} {s t : List Int} (h : x ≠ y) : cmpL (x :: s) (y :: t) = if x < y then -1 else 1 := if_neg h
theorem kw_rng {w : Int → Int} {B : Int} {l : List Int} (h : ∀ c ∈ l, 0 ≤ w c ∧ w c ≤ B) : ∀ x ∈ kw w l, 0 ≤ x ∧ x ≤ B := by
  intro x hx
  unfold kw at hx
  obtain ⟨c, hc, rfl⟩ := List.mem_map.mp (List.mem_filter.mp hx).1
  exact h c hc
theorem kpf_rng {w : Int → Int → Int} {B : Int} (hw : ∀ k, 0 ≤ k → k < 3 → ∀ c, 0 ≤ c → c < 75 → 0 ≤ w k c ∧ w k c ≤ B) (l : List Int) (hl : ∀ c ∈ l, 0 ≤ c ∧ c < 75) : ∀ x ∈ kpf w l 3, 0 ≤ x ∧ x ≤ max B 0 := by
  have key : ∀ n : Nat, n ≤ 3 → ∀ x ∈ kpf w l n, 0 ≤ x ∧ x ≤ max B 0 := by
    intro n
    induction n with
    | zero => intro _ x hx; cases hx
    | succ n ih =>
      intro hn x hx
      have hx' : x ∈ kpf w l n ++ (if n = 0 then [] else [0]) ++ kw (w (n : Int)) l := hx
      rcases List.mem_append.mp hx' with q | q
      · rcases List.mem_append.mp q with q | q
        · exact ih (by omega) x q
        · split at q
          · cases q
          · rw [List.mem_singleton] at q; omega
      · have := kw_rng (w := w (n : Int)) (B := B) (fun c hc => hw n (by omega) (by omega) c (hl c hc).1 (hl c hc).2) x q
        omega
  exact key 3 (Nat.le_refl _)
