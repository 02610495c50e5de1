/-! pure rows: the class's forms -/
theorem srt_app (rk : Int → Int) (L l m : List Int) : srt rk L (l ++ m) = srt rk (srt rk L l) m := by
  unfold srt
  rw [List.foldl_append]
theorem srt_one (rk : Int → Int) (L : List Int) (c : Int) : srt rk L [c] = insR rk c L := rfl
theorem jnL_snoc (rk : Int → Int) (jn : Int → Int → Int) (L l : List Int) (c : Int) : jnL rk jn L (l ++ [c]) = jst rk jn (jnL rk jn L l) c := by
  unfold jnL
  rw [List.foldl_append]
  rfl
theorem ins_stop {rk : Int → Int} {c : Int} {g : Int → Int} {p : Int} (hp : 0 ≤ p) (h : rk c ≤ 0 ∨ p = 0 ∨ rk (g (p - 1)) ≤ rk c) : insR rk c (rsg g p.toNat) = c :: rsg g p.toNat := by
  by_cases e : p = 0
  · rw [e]; rfl
  · rw [rsg_pop (by omega)]
    exact if_neg (by omega)
theorem ins_go {rk : Int → Int} {c : Int} {g : Int → Int} {p : Int} (hp : 1 ≤ p) (h0 : 0 < rk c) (h : rk c < rk (g (p - 1))) : insR rk c (rsg g p.toNat) = g (p - 1) :: insR rk c (rsg g (p - 1).toNat) := by
  rw [rsg_pop hp]
  exact if_pos ⟨h0, h⟩
theorem ins_rsg {g g' : Int → Int} {p n c : Int} (h0 : 0 ≤ p) (h1 : p ≤ n) (a1 : ∀ j, j < p → g' j = g j) (a2 : g' p = c) (a3 : ∀ j, p < j → j ≤ n → g' j = g (j - 1)) : rsg g' (n + 1).toNat = (sg g p (n - p).toNat).reverse ++ c :: rsg g p.toNat := by
  have e1 : sg g' 0 (n + 1).toNat = sg g 0 p.toNat ++ c :: sg g p (n - p).toNat := by
    rw [show n + 1 = p + (n - p + 1) by omega, sg_app h0 (by omega), sg_congr (g := g') (h := g) p.toNat 0 (fun j x y => a1 j (by omega)), show (0 : Int) + p = p by omega, sg_cons (g := g') (a := p) (n := n - p + 1) (by omega), a2, show n - p + 1 - 1 = n - p by omega]
    congr 2
    exact sg_shift _ _ _ (fun j x y => by rw [a3 (p + 1 + j) (by omega) (by omega), show p + 1 + j - 1 = p + j by omega])
  rw [rsg_sg, e1, List.reverse_append, List.reverse_cons, rsg_sg g p.toNat]
  simp
theorem sg_rev_cons {g : Int → Int} {p n : Int} (h : 1 ≤ p) (h1 : p ≤ n) : (sg g (p - 1) (n - (p - 1)).toNat).reverse = (sg g p (n - p).toNat).reverse ++ [g (p - 1)] := by
  rw [sg_cons (n := n - (p - 1)) (by omega), show p - 1 + 1 = p by omega, show n - (p - 1) - 1 = n - p by omega, List.reverse_cons]
theorem jgo_lift {rk : Int → Int} {jn : Int → Int → Int} {c : Int} {g : Int → Int} {k : Nat} (h : jgo rk jn c (rsg g k) = none) : ∀ d : Nat, (∀ j : Int, (k : Int) ≤ j → j < (k : Int) + d → rk (g j) ≠ 0 ∧ rk (g j) < rk c) → jgo rk jn c (rsg g (k + d)) = none := by
  intro d
  induction d with
  | zero => intro _; exact h
  | succ d ih =>
    intro H
    have h1 := H ((k : Int) + d) (by omega) (by omega)
    show (if rk (g ((k + d : Nat) : Int)) = 0 then _ else if rk c ≤ rk (g ((k + d : Nat) : Int)) then none else (jgo rk jn c (rsg g (k + d))).map (fun z => g ((k + d : Nat) : Int) :: z)) = none
    rw [show ((k + d : Nat) : Int) = (k : Int) + d by omega, if_neg h1.1, if_neg (by omega), ih (fun j x y => H j x (by omega))]
    rfl
/-- no starter is open for a character of rank r -/
def opN (rk g : Int → Int) (w r : Int) : Prop := ∀ (jn : Int → Int → Int) (c : Int), rk c = r → jgo rk jn c (rsg g w.toNat) = none
theorem opN_all {rk g : Int → Int} {w r : Int} (hw : 0 ≤ w) (h : ∀ j, 0 ≤ j → j < w → rk (g j) ≠ 0 ∧ rk (g j) < r) : opN rk g w r := fun jn c hc => by
  have := jgo_lift (rk := rk) (jn := jn) (c := c) (g := g) (k := 0) rfl w.toNat (fun j x y => by rw [hc]; exact h j (by omega) (by omega))
  rw [Nat.zero_add] at this
  exact this
theorem opN_stop {rk g : Int → Int} {w r k : Int} (h0 : 0 ≤ k) (hw : k < w) (h : ∀ j, k < j → j < w → rk (g j) ≠ 0 ∧ rk (g j) < r) (hk : rk (g k) ≠ 0) (hr : r ≤ rk (g k)) : opN rk g w r := fun jn c hc => by
  have h1 : jgo rk jn c (rsg g (k.toNat + 1)) = none := by
    show (if rk (g (k.toNat : Int)) = 0 then _ else if rk c ≤ rk (g (k.toNat : Int)) then none else _) = none
    rw [show (k.toNat : Int) = k by omega, if_neg hk, if_pos (by omega)]
  have := jgo_lift h1 (w - k - 1).toNat (fun j x y => by rw [hc]; exact h j (by omega) (by omega))
  rw [show k.toNat + 1 + (w - k - 1).toNat = w.toNat by omega] at this
  exact this
theorem rg_of {g : Int → Int} {n : Int} {L : List Int} (e : rsg g n.toNat = L) (h : ∀ x ∈ L, 0 ≤ x ∧ x < 75) : ∀ j, 0 ≤ j → j < n → 0 ≤ g j ∧ g j < 75 := fun j a b => by
  apply h
  rw [← e]
  exact rsg_in a (by omega)
theorem rg_to {g : Int → Int} {n : Int} (h : ∀ j, 0 ≤ j → j < n → 0 ≤ g j ∧ g j < 75) : ∀ x ∈ rsg g n.toNat, 0 ≤ x ∧ x < 75 := fun x hx => by
  obtain ⟨j, a, b, c⟩ := rsg_mem hx
  rw [← c]
  exact h j a (by omega)
def jnC (p0 t1 t2 ex : Int → Int) (a b : Int) : Int := fsx (jokC p0 t1 t2 ex a b) 75 0
def wtC (p4 p5 p6 : Int → Int) (k c : Int) : Int := if k = 0 then p4 c else if k = 1 then p5 c else p6 c
