/-! what two texts that agree have in common -/
theorem ap_congr {fi se t u : Int → Int} : ∀ n : Nat, (∀ j : Int, 0 ≤ j → j < n → t j = u j) → ap fi se t n = ap fi se u n := by
  intro n
  induction n with
  | zero => intro _; rfl
  | succ n ih =>
    intro h
    show ap fi se t n ++ PT fi se (t (n : Int)) = ap fi se u n ++ PT fi se (u (n : Int))
    rw [ih (fun j a b => h j a (by omega)), h n (by omega) (by omega)]
theorem FM_congr {rk fi se t u : Int → Int} {n : Int} (h : ∀ j, 0 ≤ j → j < n → t j = u j) : FM rk fi se t n = FM rk fi se u n := by
  unfold FM
  rw [ap_congr n.toNat (fun j a b => h j a (by omega))]
theorem pbf_congr {cz t u : Int → Int} : ∀ n : Nat, (∀ j : Int, 0 ≤ j → j < n → t j = u j) → pbf cz t n = pbf cz u n := by
  intro n
  induction n with
  | zero => intro _; rfl
  | succ n ih =>
    intro h
    show (if cz (t (n : Int)) = 4 then pbf cz t n else if cz (t (n : Int)) = 9 then 1 else 0) = (if cz (u (n : Int)) = 4 then pbf cz u n else if cz (u (n : Int)) = 9 then 1 else 0)
    rw [ih (fun j a b => h j a (by omega)), h n (by omega) (by omega)]
theorem rcf_congr {cz t u : Int → Int} : ∀ n : Nat, (∀ j : Int, 0 ≤ j → j < n → t j = u j) → rcf cz t n = rcf cz u n := by
  intro n
  induction n with
  | zero => intro _; rfl
  | succ n ih =>
    intro h
    show (if cz (t (n : Int)) = 6 then rcf cz t n + 1 else 0) = (if cz (u (n : Int)) = 6 then rcf cz u n + 1 else 0)
    rw [ih (fun j a b => h j a (by omega)), h n (by omega) (by omega)]
theorem evf_congr {cz t u : Int → Int} {n i : Int} (h : ∀ j, 0 ≤ j → j < n → t j = u j) (h1 : 1 ≤ i) (h2 : i < n) : evf cz t i = evf cz u i := by
  unfold evf
  rw [h i (by omega) h2, h (i - 1) (by omega) (by omega), pbf_congr (i - 1).toNat (fun j a b => h j a (by omega)), rcf_congr i.toNat (fun j a b => h j a (by omega))]
theorem csm_congr {e f : Int → Int} : ∀ n : Nat, (∀ j : Int, 1 ≤ j → j ≤ n → e j = f j) → csm e n = csm f n := by
  intro n
  induction n with
  | zero => intro _; rfl
  | succ n ih =>
    intro h
    show csm e n + e ((n : Int) + 1) = csm f n + f ((n : Int) + 1)
    rw [ih (fun j a b => h j a (by omega)), h ((n : Int) + 1) (by omega) (by omega)]
theorem lkf_cong2 {lz t u : Int → Int} : ∀ n : Nat, (∀ j : Int, 0 ≤ j → j ≤ n → t j = u j) → lkf lz t n = lkf lz u n := by
  intro n
  induction n with
  | zero => intro h; show (if lz (t 0) ≠ 11 then lz (t 0) else 0) = _; rw [h 0 (by omega) (by omega)]; rfl
  | succ n ih =>
    intro h
    show (if lz (t ((n : Int) + 1)) ≠ 11 then lz (t ((n : Int) + 1)) else if lkf lz t n = 0 ∨ 3 < lkf lz t n then lkf lz t n else 0) = (if lz (u ((n : Int) + 1)) ≠ 11 then lz (u ((n : Int) + 1)) else if lkf lz u n = 0 ∨ 3 < lkf lz u n then lkf lz u n else 0)
    rw [ih (fun j a b => h j a (by omega)), h ((n : Int) + 1) (by omega) (by omega)]
theorem lnf_congr {lz t u : Int → Int} {n i : Int} (h : ∀ j, 0 ≤ j → j < n → t j = u j) (h1 : 0 ≤ i) (h2 : i ≤ n) : lnf lz t n i = lnf lz u n i := by
  unfold lnf
  by_cases a : i = 0
  · rw [if_pos a, if_pos a]
  · rw [if_neg a, if_neg a]
    by_cases b : i = n
    · rw [if_pos b, if_pos b]
    · rw [if_neg b, if_neg b]
      have e1 : ∀ k : Int, 0 ≤ k → k < n → lkf lz t k.toNat = lkf lz u k.toNat := fun k z w => lkf_cong2 _ (fun j c d => h j c (by omega))
      have e2 : flf lz t i = flf lz u i := by
        unfold flf
        rw [h i h1 (by omega), e1 (i - 1) (by omega) (by omega)]
      rw [e1 i h1 (by omega), e1 (i - 1) (by omega) (by omega), e2, osf_congr i.toNat (fun j c d => e1 j c (by omega))]
theorem gapf_congr {sz t u : Int → Int} : ∀ (d : Nat) (i : Int), (∀ j : Int, i ≤ j → j < i + d → t j = u j) → gapf sz t d i = gapf sz u d i := by
  intro d
  induction d with
  | zero => intro i _; rfl
  | succ d ih =>
    intro i h
    show (if sz (t i) = 10 ∨ (sz (t i) = 9 ∧ gapf sz t d (i + 1) = 1) then (1 : Int) else 0) = (if sz (u i) = 10 ∨ (sz (u i) = 9 ∧ gapf sz u d (i + 1) = 1) then 1 else 0)
    rw [ih (i + 1) (fun j a b => h j (by omega) (by omega)), h i (by omega) (by omega)]
theorem KYL_congr {v w : Int → Int → Int} {rk fi se t u : Int → Int} {n : Int} (hv : vpt fi se) (ht : ∀ j, 0 ≤ j → j < n → 0 ≤ t j ∧ t j < 75) (h : ∀ j, 0 ≤ j → j < n → t j = u j) (hw : ∀ (k x : Int), 0 ≤ k → k < 3 → 0 ≤ x → x < 48 → v k x = w k x) : KYL v rk fi se t n = KYL w rk fi se u n := by
  unfold KYL
  rw [← FM_congr (rk := rk) (fi := fi) (se := se) h]
  refine kpf_congr 3 (fun k hk x hx => ?_)
  have hm := FM_mem (rk := rk) hv ht x (List.mem_reverse.mp hx)
  exact hw k x (by omega) (by omega) hm.1 hm.2
/-! joining, in the class and in the reference -/
theorem fsx_ext {f g : Int → Bool} (h1 : ∀ c, 0 ≤ c → c < 40 → f c = g c) (h2 : ∀ c, 40 ≤ c → c < 75 → f c = false) : fsx f 75 0 = fsx g 40 0 := by
  rcases fsx_spec f 75 0 with ⟨a1, a2⟩ | ⟨a1, a2, a3, a4⟩
  · rcases fsx_spec g 40 0 with ⟨b1, b2⟩ | ⟨b1, b2, b3, b4⟩
    · rw [a1, b1]
    · have := a2 _ b1 (by omega)
      rw [h1 _ b1 (by omega), b3] at this
      cases this
  · have hlt : fsx f 75 0 < 40 := by
      apply Int.not_le.mp
      intro z
      have := h2 _ z (by omega)
      rw [a3] at this
      cases this
    rcases fsx_spec g 40 0 with ⟨b1, b2⟩ | ⟨b1, b2, b3, b4⟩
    · have := b2 _ a1 (by omega)
      rw [← h1 _ a1 hlt, a3] at this
      cases this
    · rcases (show fsx f 75 0 < fsx g 40 0 ∨ fsx f 75 0 = fsx g 40 0 ∨ fsx g 40 0 < fsx f 75 0 by omega) with z | z | z
      · have := b4 _ a1 z
        rw [← h1 _ a1 hlt, a3] at this
        cases this
      · exact z
      · have := a4 _ b1 z
        rw [h1 _ b1 (by omega), b3] at this
        cases this
theorem fsx_uq2 {f : Int → Bool} {c : Int} (h0 : 0 ≤ c) (h1 : c < 75) (hc : f c = true) (hu : ∀ j, 0 ≤ j → j < 75 → f j = true → j = c) : fsx f 75 0 = c := by
  rcases fsx_spec f 75 0 with ⟨a1, a2⟩ | ⟨a1, a2, a3, a4⟩
  · have := a2 c h0 (by omega)
    rw [hc] at this
    cases this
  · exact hu _ a1 (by omega) a3
theorem jnC_jnM {tb t1 t2 ex : Int → Int} (hv : vpt t1 t2) (hf : fixP t1 t2) (he : ∀ c, 40 ≤ c → c < 75 → ex c = 0) {a b : Int} (ha : 0 ≤ a ∧ a < 75) : jnC (rkM tb) t1 t2 ex a b = jnM tb t1 t2 ex a b := by
  have hrk : ∀ c, 40 ≤ c → rkM tb c = 0 := fun c z => by unfold rkM; rw [if_neg (by omega)]
  have key : ∀ c, 0 ≤ c → c < 75 → jokC (rkM tb) t1 t2 ex a b c = true → c < 40 ∨ (((40 ≤ a ∧ a < 43) ∧ (43 ≤ b ∧ b < 46)) ∧ c = 48 + 9 * (a - 40) + 3 * (b - 43)) ∨ (((47 < a ∧ a % 3 = 0) ∧ (46 ≤ b ∧ b < 48)) ∧ c = a + b - 45) := by
    intro c z0 z1 z
    have z : t1 c = a ∧ t2 c = b ∧ rkM tb c = 0 ∧ ex c = 0 := of_decide_eq_true z
    by_cases y : c < 40
    · exact Or.inl y
    by_cases y2 : c < 48
    · have := (hf.1 c (by omega) y2).1
      omega
    · obtain ⟨q1, q2⟩ := hf.2 c (by omega) z1
      by_cases m : c % 3 = 0
      · obtain ⟨r1, r2⟩ := q1 m
        right; left
        omega
      · obtain ⟨r1, r2⟩ := q2 m
        right; right
        omega
  have lo : ∀ c, 0 ≤ c → c < 40 → jokC (rkM tb) t1 t2 ex a b c = true → a < 40 := by
    intro c z0 z1 z
    have z : t1 c = a ∧ t2 c = b ∧ rkM tb c = 0 ∧ ex c = 0 := of_decide_eq_true z
    have := hv c z0 z1
    omega
  unfold jnC jnM
  by_cases p1 : (40 ≤ a ∧ a < 43) ∧ (43 ≤ b ∧ b < 46)
  · rw [if_pos p1]
    refine fsx_uq2 (by omega) (by omega) ?_ (fun j z0 z1 z => ?_)
    · obtain ⟨q1, -⟩ := hf.2 (48 + 9 * (a - 40) + 3 * (b - 43)) (by omega) (by omega)
      obtain ⟨r1, r2⟩ := q1 (by omega)
      exact decide_eq_true ⟨by omega, by omega, hrk _ (by omega), he _ (by omega) (by omega)⟩
    · rcases key j z0 z1 z with y | y | y
      · have := lo j z0 y z; omega
      · exact y.2
      · omega
  · rw [if_neg p1]
    by_cases p2 : (47 < a ∧ a % 3 = 0) ∧ (46 ≤ b ∧ b < 48)
    · rw [if_pos p2]
      refine fsx_uq2 (by omega) (by omega) ?_ (fun j z0 z1 z => ?_)
      · obtain ⟨-, q2⟩ := hf.2 (a + b - 45) (by omega) (by omega)
        obtain ⟨r1, r2⟩ := q2 (by omega)
        exact decide_eq_true ⟨by omega, by omega, hrk _ (by omega), he _ (by omega) (by omega)⟩
      · rcases key j z0 z1 z with y | y | y
        · have := lo j z0 y z; omega
        · omega
        · exact y.2
    · rw [if_neg p2]
      refine fsx_ext (fun c z0 z1 => ?_) (fun c z0 z1 => ?_)
      · unfold jokC jokM
        congr 1
        exact propext ⟨fun ⟨y1, y2, y3, y4⟩ => ⟨y3, y1, y2, y4⟩, fun ⟨y1, y2, y3, y4⟩ => ⟨y2, y3, y1, y4⟩⟩
      · cases hz : jokC (rkM tb) t1 t2 ex a b c with
        | false => rfl
        | true =>
          rcases key c (by omega) z1 hz with y | y | y
          · omega
          · exact absurd y.1 p1
          · exact absurd y.1 p2
theorem jnC_lt {p0 t1 t2 ex : Int → Int} (a b : Int) : jnC p0 t1 t2 ex a b < 75 := by
  unfold jnC
  rcases fsx_spec (jokC p0 t1 t2 ex a b) 75 0 with ⟨a1, -⟩ | ⟨-, a2, -⟩ <;> omega
theorem jgo_congr {rk : Int → Int} {f g : Int → Int → Int} {c : Int} : ∀ L : List Int, (∀ x ∈ L, f x c = g x c) → jgo rk f c L = jgo rk g c L := by
  intro L
  induction L with
  | nil => intro _; rfl
  | cons x t ih =>
    intro h
    show (if rk x = 0 then (if 0 ≤ f x c then some (f x c :: t) else none) else if rk c ≤ rk x then none else (jgo rk f c t).map (fun z => x :: z)) = (if rk x = 0 then (if 0 ≤ g x c then some (g x c :: t) else none) else if rk c ≤ rk x then none else (jgo rk g c t).map (fun z => x :: z))
    rw [h x List.mem_cons_self, ih (fun y hy => h y (List.mem_cons_of_mem _ hy))]
theorem jgo_mem {rk : Int → Int} {f : Int → Int → Int} {c : Int} (hf : ∀ x, f x c < 75) : ∀ (L L' : List Int), (∀ x ∈ L, 0 ≤ x ∧ x < 75) → jgo rk f c L = some L' → ∀ x ∈ L', 0 ≤ x ∧ x < 75 := by
  intro L
  induction L with
  | nil => intro L' _ h; cases h
  | cons x t ih =>
    intro L' hL h
    have h : (if rk x = 0 then (if 0 ≤ f x c then some (f x c :: t) else none) else if rk c ≤ rk x then none else (jgo rk f c t).map (fun z => x :: z)) = some L' := h
    split at h
    · split at h
      · cases h
        intro y hy
        rcases List.mem_cons.mp hy with rfl | hy
        · exact ⟨by assumption, hf x⟩
        · exact hL y (List.mem_cons_of_mem _ hy)
      · cases h
    · split at h
      · cases h
      · cases hg : jgo rk f c t with
        | none => rw [hg] at h; cases h
        | some z =>
          rw [hg] at h
          cases h
          intro y hy
          rcases List.mem_cons.mp hy with rfl | hy
          · exact hL _ List.mem_cons_self
          · exact ih z (fun w hw => hL w (List.mem_cons_of_mem _ hw)) hg y hy
theorem jst_mem {rk : Int → Int} {f : Int → Int → Int} {c : Int} {L : List Int} (hf : ∀ x, f x c < 75) (hc : 0 ≤ c ∧ c < 75) (hL : ∀ x ∈ L, 0 ≤ x ∧ x < 75) : ∀ x ∈ jst rk f L c, 0 ≤ x ∧ x < 75 := by
  unfold jst
  cases hg : jgo rk f c L with
  | none =>
    intro x hx
    rcases List.mem_cons.mp hx with rfl | hx
    · exact hc
    · exact hL x hx
  | some z => exact jgo_mem hf L z hL hg
theorem jnL_two {rk : Int → Int} {f g : Int → Int → Int} (hf : ∀ x c, f x c < 75) (hfg : ∀ x c, 0 ≤ x ∧ x < 75 → f x c = g x c) : ∀ (l L : List Int), (∀ x ∈ l, 0 ≤ x ∧ x < 75) → (∀ x ∈ L, 0 ≤ x ∧ x < 75) → jnL rk f L l = jnL rk g L l ∧ ∀ x ∈ jnL rk f L l, 0 ≤ x ∧ x < 75 := by
  intro l
  induction l with
  | nil => intro L _ hL; exact ⟨rfl, hL⟩
  | cons c t ih =>
    intro L hl hL
    have e : jst rk f L c = jst rk g L c := by
      unfold jst
      rw [jgo_congr L (fun x hx => hfg x c (hL x hx))]
    have := ih (jst rk f L c) (fun x hx => hl x (List.mem_cons_of_mem _ hx)) (jst_mem (fun x => hf x c) (hl c List.mem_cons_self) hL)
    refine ⟨?_, this.2⟩
    show jnL rk f (jst rk f L c) t = jnL rk g (jst rk g L c) t
    rw [this.1, e]
theorem fbf_congr {sz t u : Int → Int} : ∀ (d : Nat) (i : Int), (∀ j : Int, i ≤ j → j < i + d → t j = u j) → fbf sz t d i = fbf sz u d i := by
  intro d
  induction d with
  | zero => intro i _; rfl
  | succ d ih =>
    intro i h
    show (if sz (t i) < 3 then (if sz (t i) = 0 then (0 : Int) else 1) else fbf sz t d (i + 1)) = (if sz (u i) < 3 then (if sz (u i) = 0 then 0 else 1) else fbf sz u d (i + 1))
    rw [ih (i + 1) (fun j a b => h j (by omega) (by omega)), h i (by omega) (by omega)]
theorem fbf_01 {sz t : Int → Int} : ∀ (d : Nat) (i : Int), fbf sz t d i = 0 ∨ fbf sz t d i = 1 := by
  intro d
  induction d with
  | zero => intro i; exact Or.inl rfl
  | succ d ih =>
    intro i
    show (if sz (t i) < 3 then (if sz (t i) = 0 then (0 : Int) else 1) else fbf sz t d (i + 1)) = 0 ∨ (if sz (t i) < 3 then (if sz (t i) = 0 then (0 : Int) else 1) else fbf sz t d (i + 1)) = 1
    split
    · split
      · exact Or.inl rfl
      · exact Or.inr rfl
    · exact ih (i + 1)
theorem lvf_congr {sz t u : Int → Int} {n w j : Int} (hz : ∀ c, 0 ≤ c → c < 75 → 0 ≤ sz c ∧ sz c ≤ 11) (ht : ∀ j, 0 ≤ j → j < n → 0 ≤ t j ∧ t j < 75) (h : ∀ j, 0 ≤ j → j < n → t j = u j) (h0 : 0 ≤ j) (h1 : j < n) : lvf sz t n w j = lvf sz u n w j := by
  have e1 : bsf sz t n w = bsf sz u n w := by
    unfold bsf
    rw [fbf_congr n.toNat 0 (fun k a b => h k a (by omega))]
  have e2 : gapf sz t (n - j).toNat j = gapf sz u (n - j).toNat j := gapf_congr _ _ (fun k a b => h k (by omega) (by omega))
  have hb : bsf sz t n w = 0 ∨ bsf sz t n w = 1 := by
    unfold bsf
    split
    · assumption
    · exact fbf_01 _ _
  have hE : EqR n (k0f sz t n (bsf sz t n w)) (k0f sz u n (bsf sz t n w)) := fun k a b => by
    unfold k0f
    by_cases z : k = 0 ∨ k = n + 1
    · rw [if_pos z, if_pos z]
    · rw [if_neg z, if_neg z, h (k - 1) (by omega) (by omega)]
  have hB : BS n (k0f sz t n (bsf sz t n w)) := by
    refine ⟨?_, ?_, fun k a b => ?_⟩
    · unfold k0f; rw [if_pos (Or.inl rfl)]; exact hb
    · unfold k0f; rw [if_pos (Or.inr rfl)]; exact hb
    · unfold k0f
      by_cases z : k = 0 ∨ k = n + 1
      · rw [if_pos z]; omega
      · rw [if_neg z]
        have q := ht (k - 1) (by omega) (by omega)
        exact hz _ q.1 q.2
  have e3 := EqR_8 (c := bsf sz t n w) (wk_congr (by omega) hB hE) (j + 1) (by omega) (by omega)
  unfold lvf kff
  rw [e2, ← e1, e3]
