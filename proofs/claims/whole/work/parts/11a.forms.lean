/-! pure rows: the stack of parts, the rounds of the sort, over rows of numbers -/
theorem syl_len (x : Int) : 2 ≤ (syl x).length ∧ (x % 3 ≠ 0 → 3 ≤ (syl x).length) := by
  unfold syl
  split
  · exact ⟨by simp, fun h => absurd (by assumption) h⟩
  · exact ⟨by simp, fun _ => by simp⟩
theorem PT_pos (fi se : Int → Int) (x : Int) : 0 < (PT fi se x).length := List.length_pos_iff.mpr (PT_ne 75 x)
def SHT (fi se : Int → Int) : Prop := ∀ j, 0 ≤ j → j < 40 → KC fi se j ≤ 4
theorem uI_back {g : Int → Int} {c a : Int} : uI (uI g c a) c (g c) = g := by
  funext j
  by_cases h : j = c
  · rw [uI_e h, h]
  · rw [uI_n h, uI_n h]
theorem vpt_up {fi se : Int → Int} (h : vpt fi se) {c a b : Int} (hp : partOK c a b) : vpt (uI fi c a) (uI se c b) := by
  intro j h0 h1
  obtain ⟨p1, p2, p3, p4, p5, p6, p7⟩ := hp
  by_cases e : j = c
  · rw [uI_e e, uI_e e]; omega
  · rw [uI_n e, uI_n e]; exact h j h0 h1
theorem rsg_pop {g : Int → Int} {n : Int} (h : 1 ≤ n) : rsg g n.toNat = g (n - 1) :: rsg g (n - 1).toNat := by
  obtain ⟨k, rfl⟩ : ∃ k : Nat, n = (k : Int) + 1 := ⟨(n - 1).toNat, by omega⟩
  rw [show ((k : Int) + 1).toNat = k + 1 by omega, show ((k : Int) + 1 - 1) = (k : Int) by omega, show ((k : Int)).toNat = k by omega]
  rfl
theorem rsg_put {g : Int → Int} {n c : Int} (h : 0 ≤ n) : rsg (uI g n c) (n + 1).toNat = c :: rsg g n.toNat := by
  obtain ⟨k, rfl⟩ : ∃ k : Nat, n = (k : Int) := ⟨n.toNat, by omega⟩
  rw [show ((k : Int) + 1).toNat = k + 1 by omega, show ((k : Int)).toNat = k by omega]
  exact rsg_push
theorem rsg_upd {g : Int → Int} {n i c : Int} (h : n ≤ i) : rsg (uI g i c) n.toNat = rsg g n.toNat := rsg_congr _ (fun j h1 h2 => uI_n (by omega))
def fm (fi se : Int → Int) (L : List Int) : List Int := L.flatMap (PT fi se)
theorem fm_c (fi se : Int → Int) (x : Int) (L : List Int) : fm fi se (x :: L) = PT fi se x ++ fm fi se L := List.flatMap_cons
def mND (fi se : Int → Int) (L : List Int) : Nat := (L.map (ND fi se)).sum
theorem mND_c (fi se : Int → Int) (x : Int) (L : List Int) : mND fi se (x :: L) = ND fi se x + mND fi se L := by
  unfold mND; rw [List.map_cons, List.sum_cons]
theorem fm_len (fi se : Int → Int) : ∀ L : List Int, L.length ≤ (fm fi se L).length := by
  intro L
  induction L with
  | nil => exact Nat.le_refl _
  | cons x t ih =>
    rw [fm_c, List.length_append, List.length_cons]
    have := List.length_pos_iff.mpr (PT_ne (fi := fi) (se := se) 75 x)
    have h2 : 0 < (PT fi se x).length := this
    omega
/-- the state of putParts: what is on the pile, what has been put -/
def ppI (fi se : Int → Int) (c fl : Int) (fo : Int → Int) (n : Int) (pl : Int → Int) (fl1 : Int) (fo1 : Int → Int) : Prop :=
  0 ≤ n ∧ fl ≤ fl1 ∧ (∀ x ∈ rsg pl n.toNat, 0 ≤ x ∧ x < 75) ∧ (fm fi se (rsg pl n.toNat)).reverse ++ rsg fo1 fl1.toNat = (PT fi se c).reverse ++ rsg fo fl.toNat
theorem pp_len {fi se : Int → Int} {c fl n fl1 : Int} {fo pl fo1 : Int → Int} (h : ppI fi se c fl fo n pl fl1 fo1) (hf : 0 ≤ fl) : ((fm fi se (rsg pl n.toNat)).length : Int) + fl1 = (PT fi se c).length + fl := by
  have e := congrArg List.length h.2.2.2
  rw [List.length_append, List.length_append, List.length_reverse, List.length_reverse, rsg_len, rsg_len] at e
  have := h.2.1
  omega
theorem pp_b {fi se : Int → Int} {c fl n fl1 : Int} {fo pl fo1 : Int → Int} (hv : vpt fi se) (hs : SHT fi se) (hc : 0 ≤ c ∧ c < 75) (h : ppI fi se c fl fo n pl fl1 fo1) (hf : 0 ≤ fl) : n ≤ 4 ∧ fl1 ≤ fl + 4 := by
  have h1 := pp_len h hf
  have h2 := PT_le4 hv hs hc.1 hc.2
  have h3 := fm_len fi se (rsg pl n.toNat)
  rw [rsg_len] at h3
  have := h.2.1
  have := h.1
  omega
theorem pp_x {fi se : Int → Int} {c fl n fl1 : Int} {fo pl fo1 : Int → Int} (hv : vpt fi se) (hs : SHT fi se) (hc : 0 ≤ c ∧ c < 75) (h : ppI fi se c fl fo n pl fl1 fo1) (hf : 0 ≤ fl) (hn : 1 ≤ n) : (0 ≤ pl (n - 1) ∧ pl (n - 1) < 75) ∧ n - 1 + (PT fi se (pl (n - 1))).length ≤ 4 ∧ fl1 + (PT fi se (pl (n - 1))).length ≤ fl + 4 := by
  have h1 := pp_len h hf
  have h2 := PT_le4 hv hs hc.1 hc.2
  have hm := h.2.2.1
  rw [rsg_pop hn] at h1 hm
  rw [fm_c, List.length_append] at h1
  have h3 := fm_len fi se (rsg pl (n - 1).toNat)
  rw [rsg_len] at h3
  have := h.1
  have := h.2.1
  exact ⟨hm _ List.mem_cons_self, by omega, by omega⟩
theorem pp_put {fi se : Int → Int} {c fl n fl1 x : Int} {fo pl fo1 : Int → Int} (h : ppI fi se c fl fo n pl fl1 fo1) (hn : 1 ≤ n) (ex : x = pl (n - 1)) {l : List Int} (hx : PT fi se x = l) {fl2 : Int} {fo2 : Int → Int} (h2 : fl ≤ fl2) (hl : rsg fo2 fl2.toNat = l.reverse ++ rsg fo1 fl1.toNat) : ppI fi se c fl fo (n - 1) pl fl2 fo2 := by
  obtain ⟨a, b, d, e⟩ := h
  rw [rsg_pop hn] at d e
  rw [fm_c, ← ex, hx] at e
  refine ⟨by omega, h2, fun y hy => d y (List.mem_cons_of_mem _ hy), ?_⟩
  rw [hl, ← List.append_assoc, ← List.reverse_append]
  exact e
theorem pp_two {fi se : Int → Int} (hv : vpt fi se) {c fl n fl1 x : Int} {fo pl fo1 : Int → Int} (h : ppI fi se c fl fo n pl fl1 fo1) (hn : 1 ≤ n) (ex : x = pl (n - 1)) (h0 : 0 ≤ x ∧ x < 40) (hf : 0 ≤ fi x) (hs : 0 ≤ se x) : ppI fi se c fl fo (n - 1 + 1 + 1) (uI (uI pl (n - 1) (se x)) (n - 1 + 1) (fi x)) fl1 fo1 := by
  obtain ⟨a, b, d, e⟩ := h
  rw [rsg_pop hn] at d e
  have hvx := hv x h0.1 h0.2
  have e1 : rsg (uI (uI pl (n - 1) (se x)) (n - 1 + 1) (fi x)) (n - 1 + 1 + 1).toNat = fi x :: se x :: rsg pl (n - 1).toNat := by rw [rsg_put (by omega), rsg_put (by omega)]
  refine ⟨by omega, b, ?_, ?_⟩
  · rw [e1]
    intro y hy
    rcases List.mem_cons.mp hy with q | hy
    · omega
    · rcases List.mem_cons.mp hy with q | hy
      · omega
      · exact d y (List.mem_cons_of_mem _ hy)
  · rw [e1, fm_c, fm_c, ← List.append_assoc]
    rw [fm_c, ← ex, PT_parts hv h0.1 h0.2 hf, if_pos hs] at e
    exact e
theorem pp_one {fi se : Int → Int} (hv : vpt fi se) {c fl n fl1 x : Int} {fo pl fo1 : Int → Int} (h : ppI fi se c fl fo n pl fl1 fo1) (hn : 1 ≤ n) (ex : x = pl (n - 1)) (h0 : 0 ≤ x ∧ x < 40) (hf : 0 ≤ fi x) (hs : se x < 0) : ppI fi se c fl fo (n - 1 + 1) (uI pl (n - 1) (fi x)) fl1 fo1 := by
  obtain ⟨a, b, d, e⟩ := h
  rw [rsg_pop hn] at d e
  have hvx := hv x h0.1 h0.2
  have e1 : rsg (uI pl (n - 1) (fi x)) (n - 1 + 1).toNat = fi x :: rsg pl (n - 1).toNat := by rw [rsg_put (by omega)]
  refine ⟨by omega, b, ?_, ?_⟩
  · rw [e1]
    intro y hy
    rcases List.mem_cons.mp hy with q | hy
    · omega
    · exact d y (List.mem_cons_of_mem _ hy)
  · rw [e1, fm_c]
    rw [fm_c, ← ex, PT_parts hv h0.1 h0.2 hf, if_neg (by omega), List.append_nil] at e
    exact e
theorem mND_pop {fi se : Int → Int} {n : Int} {pl : Int → Int} (hn : 1 ≤ n) : mND fi se (rsg pl (n - 1).toNat) < mND fi se (rsg pl n.toNat) := by
  rw [rsg_pop hn, mND_c]
  have := ND_pos fi se (pl (n - 1))
  omega
theorem mND_two {fi se : Int → Int} (hv : vpt fi se) {n x : Int} {pl : Int → Int} (hn : 1 ≤ n) (ex : x = pl (n - 1)) (h0 : 0 ≤ x ∧ x < 40) (hf : 0 ≤ fi x) (hs : 0 ≤ se x) : mND fi se (rsg (uI (uI pl (n - 1) (se x)) (n - 1 + 1) (fi x)) (n - 1 + 1 + 1).toNat) < mND fi se (rsg pl n.toNat) := by
  rw [rsg_put (by omega), rsg_put (by omega), rsg_pop hn, mND_c, mND_c, mND_c, ← ex, ND_parts hv h0.1 h0.2 hf, if_pos hs]
  omega
theorem mND_one {fi se : Int → Int} (hv : vpt fi se) {n x : Int} {pl : Int → Int} (hn : 1 ≤ n) (ex : x = pl (n - 1)) (h0 : 0 ≤ x ∧ x < 40) (hf : 0 ≤ fi x) (hs : se x < 0) : mND fi se (rsg (uI pl (n - 1) (fi x)) (n - 1 + 1).toNat) < mND fi se (rsg pl n.toNat) := by
  rw [rsg_put (by omega), rsg_pop hn, mND_c, mND_c, ← ex, ND_parts hv h0.1 h0.2 hf, if_neg (by omega)]
  omega
/-- a round that has come to i -/
def rdI (rk : Int → Int) (n : Int) (g0 g : Int → Int) (i : Int) : Prop := sg g 0 i.toNat ++ pas rk (g i) (sg g (i + 1) (n - i - 1).toNat) = pass rk (sg g0 0 n.toNat)
theorem rd_0 {rk : Int → Int} {n : Int} {g : Int → Int} (h : 1 ≤ n) : rdI rk n g g 0 := by
  unfold rdI
  obtain ⟨k, rfl⟩ : ∃ k : Nat, n = (k : Int) + 1 := ⟨(n - 1).toNat, by omega⟩
  rw [show ((k : Int) + 1).toNat = k + 1 by omega, show ((k : Int) + 1 - 0 - 1).toNat = k by omega]
  rfl
theorem rd_end {rk : Int → Int} {n : Int} {g0 g : Int → Int} {i : Int} (h : rdI rk n g0 g i) (h0 : 0 ≤ i) (hi : i + 1 = n) : sg g 0 n.toNat = pass rk (sg g0 0 n.toNat) := by
  unfold rdI at h
  rw [show (n - i - 1).toNat = 0 by omega] at h
  rw [← h, ← hi, show (i + 1).toNat = i.toNat + 1 by omega, sg_snoc, show (0 : Int) + (i.toNat : Int) = i by omega]
  rfl
theorem rd_no {rk : Int → Int} {n : Int} {g0 g : Int → Int} {i : Int} (h : rdI rk n g0 g i) (h0 : 0 ≤ i) (hi : i + 1 < n) (hs : ¬ (rk (g (i + 1)) < rk (g i) ∧ 0 < rk (g (i + 1)))) : rdI rk n g0 g (i + 1) := by
  unfold rdI at h ⊢
  rw [← h, show (n - i - 1).toNat = (n - (i + 1) - 1).toNat + 1 by omega, show (i + 1).toNat = i.toNat + 1 by omega, sg_snoc, show (0 : Int) + (i.toNat : Int) = i by omega, List.append_assoc]
  congr 1
  show g i :: _ = (if rk (g (i + 1)) < rk (g i) ∧ 0 < rk (g (i + 1)) then _ else g i :: pas rk (g (i + 1)) (sg g (i + 1 + 1) _))
  rw [if_neg hs]
  rfl
theorem rd_sw {rk : Int → Int} {n : Int} {g0 g : Int → Int} {i : Int} (h : rdI rk n g0 g i) (h0 : 0 ≤ i) (hi : i + 1 < n) (hs : rk (g (i + 1)) < rk (g i) ∧ 0 < rk (g (i + 1))) : rdI rk n g0 (uI (uI g i (g (i + 1))) (i + 1) (g i)) (i + 1) := by
  unfold rdI at h ⊢
  have e1 : uI (uI g i (g (i + 1))) (i + 1) (g i) (i + 1) = g i := uI_s
  have e2 : sg (uI (uI g i (g (i + 1))) (i + 1) (g i)) (i + 1 + 1) (n - (i + 1) - 1).toNat = sg g (i + 1 + 1) (n - (i + 1) - 1).toNat := sg_congr _ _ (fun j a b => by rw [uI_n (by omega), uI_n (by omega)])
  have e3 : sg (uI (uI g i (g (i + 1))) (i + 1) (g i)) 0 (i + 1).toNat = sg g 0 i.toNat ++ [g (i + 1)] := by
    rw [show (i + 1).toNat = i.toNat + 1 by omega, sg_snoc, show (0 : Int) + (i.toNat : Int) = i by omega, uI_n (by omega), uI_s]
    congr 1
    exact sg_congr _ _ (fun j a b => by rw [uI_n (by omega), uI_n (by omega)])
  rw [e1, e2, e3, ← h, show (n - i - 1).toNat = (n - (i + 1) - 1).toNat + 1 by omega, List.append_assoc]
  congr 1
  show g (i + 1) :: _ = (if rk (g (i + 1)) < rk (g i) ∧ 0 < rk (g (i + 1)) then g (i + 1) :: pas rk (g i) (sg g (i + 1 + 1) _) else _)
  rw [if_pos hs]
  rfl
/-- all parts of the first n characters, in order -/
def ap (fi se tx : Int → Int) : Nat → List Int
  | 0 => []
  | n + 1 => ap fi se tx n ++ PT fi se (tx (n : Int))
/-- the parted form, reversed -/
def FM (rk fi se tx : Int → Int) (n : Int) : List Int := srt rk [] (ap fi se tx n.toNat)
theorem insR_mem {rk : Int → Int} {c x : Int} : ∀ L : List Int, x ∈ insR rk c L ↔ x = c ∨ x ∈ L := by
  intro L
  induction L with
  | nil => show x ∈ [c] ↔ _; simp
  | cons y t ih =>
    show x ∈ (if 0 < rk c ∧ rk c < rk y then y :: insR rk c t else c :: y :: t) ↔ _
    split
    · rw [List.mem_cons, ih, List.mem_cons]
      exact ⟨fun h => h.elim (fun a => Or.inr (Or.inl a)) (fun a => a.elim Or.inl (fun b => Or.inr (Or.inr b))), fun h => h.elim (fun a => Or.inr (Or.inl a)) (fun a => a.elim Or.inl (fun b => Or.inr (Or.inr b)))⟩
    · rw [List.mem_cons]
theorem insR_len {rk : Int → Int} {c : Int} : ∀ L : List Int, (insR rk c L).length = L.length + 1 := by
  intro L
  induction L with
  | nil => rfl
  | cons y t ih =>
    show (if 0 < rk c ∧ rk c < rk y then y :: insR rk c t else c :: y :: t).length = _
    split
    · rw [List.length_cons, ih, List.length_cons]
    · rfl
theorem srt_mem {rk : Int → Int} {x : Int} : ∀ (l L : List Int), x ∈ srt rk L l ↔ x ∈ L ∨ x ∈ l := by
  intro l
  induction l with
  | nil => intro L; show x ∈ L ↔ _; simp
  | cons y t ih =>
    intro L
    show x ∈ srt rk (insR rk y L) t ↔ _
    rw [ih, insR_mem, List.mem_cons]
    exact ⟨fun h => h.elim (fun a => a.elim (fun b => Or.inr (Or.inl b)) Or.inl) (fun a => Or.inr (Or.inr a)), fun h => h.elim (fun a => Or.inl (Or.inr a)) (fun a => a.elim (fun b => Or.inl (Or.inl b)) Or.inr)⟩
theorem srt_len {rk : Int → Int} : ∀ (l L : List Int), (srt rk L l).length = L.length + l.length := by
  intro l
  induction l with
  | nil => intro L; rfl
  | cons y t ih =>
    intro L
    show (srt rk (insR rk y L) t).length = _
    rw [ih, insR_len, List.length_cons]
    omega
theorem ap_len {fi se tx : Int → Int} (hv : vpt fi se) (hs : SHT fi se) : ∀ n : Nat, (∀ j : Int, 0 ≤ j → j < n → 0 ≤ tx j ∧ tx j < 75) → (ap fi se tx n).length ≤ 4 * n := by
  intro n
  induction n with
  | zero => intro _; exact Nat.le_refl _
  | succ n ih =>
    intro h
    have h1 := ih (fun j a b => h j a (by omega))
    have h2 := h n (by omega) (by omega)
    have h3 := PT_le4 hv hs h2.1 h2.2
    show (ap fi se tx n ++ PT fi se (tx (n : Int))).length ≤ _
    rw [List.length_append]
    omega
theorem ap_mem {fi se tx : Int → Int} (hv : vpt fi se) : ∀ n : Nat, (∀ j : Int, 0 ≤ j → j < n → 0 ≤ tx j ∧ tx j < 75) → ∀ x ∈ ap fi se tx n, 0 ≤ x ∧ x < 48 := by
  intro n
  induction n with
  | zero => intro _ x hx; cases hx
  | succ n ih =>
    intro h x hx
    have hx' : x ∈ ap fi se tx n ++ PT fi se (tx (n : Int)) := hx
    rcases List.mem_append.mp hx' with q | q
    · exact ih (fun j a b => h j a (by omega)) x q
    · have h2 := h n (by omega) (by omega)
      exact PT_rng hv 75 _ h2.1 (by omega) h2.2 x q
theorem FM_mem {rk fi se tx : Int → Int} (hv : vpt fi se) {n : Int} (h : ∀ j : Int, 0 ≤ j → j < n → 0 ≤ tx j ∧ tx j < 75) : ∀ x ∈ FM rk fi se tx n, 0 ≤ x ∧ x < 48 := by
  intro x hx
  rcases (srt_mem _ _).mp hx with q | q
  · cases q
  · exact ap_mem hv n.toNat (fun j a b => h j a (by omega)) x q
theorem FM_len {rk fi se tx : Int → Int} (hv : vpt fi se) (hs : SHT fi se) {n : Int} (h0 : 0 ≤ n) (h : ∀ j : Int, 0 ≤ j → j < n → 0 ≤ tx j ∧ tx j < 75) : ((FM rk fi se tx n).length : Int) ≤ 4 * n := by
  unfold FM
  rw [srt_len]
  have := ap_len hv hs n.toNat (fun j a b => h j a (by omega))
  have e : ([] : List Int).length = 0 := rfl
  omega
