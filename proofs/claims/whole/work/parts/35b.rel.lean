/-! the class and the reference side by side: how each step keeps them alike -/
theorem gok_set {c w v : Int} : (0 ≤ c ∧ c < 40 ∧ 0 ≤ w ∧ w < 7 ∧ 0 ≤ v ∧ v ≤ gr w) ↔ setOK c w v := by
  unfold setOK gr
  constructor
  · intro h
    have h6 := h.2.2.2.2.2
    rcases (show w = 0 ∨ w = 1 ∨ w = 2 ∨ w = 3 ∨ 4 ≤ w by omega) with z | z | z | z | z
    · rw [if_pos z] at h6; omega
    · rw [if_neg (by omega), if_pos z] at h6; omega
    · rw [if_neg (by omega), if_neg (by omega), if_pos z] at h6; omega
    · rw [if_neg (by omega), if_neg (by omega), if_neg (by omega), if_pos z] at h6; omega
    · rw [if_neg (by omega), if_neg (by omega), if_neg (by omega), if_neg (by omega)] at h6; omega
  · intro h
    refine ⟨by omega, by omega, by omega, by omega, by omega, ?_⟩
    rcases (show w = 0 ∨ w = 1 ∨ w = 2 ∨ w = 3 ∨ 4 ≤ w by omega) with z | z | z | z | z
    · rw [if_pos z]; omega
    · rw [if_neg (by omega), if_pos z]; omega
    · rw [if_neg (by omega), if_neg (by omega), if_pos z]; omega
    · rw [if_neg (by omega), if_neg (by omega), if_neg (by omega), if_pos z]; omega
    · rw [if_neg (by omega), if_neg (by omega), if_neg (by omega), if_neg (by omega)]; omega
theorem uI_if {g : Int → Int} {i v j : Int} : uI g i v j = if j = i then v else g j := rfl
theorem set_0 {tb : Int → Int} {c w v : Int} (h : setOK c w v) : ∀ j, 0 ≤ j → j < 75 → (if w = 0 then uI (rkM tb) c v else rkM tb) j = rkM (uI tb (40 * w + c) v) j := by
  intro j a b
  unfold setOK at h
  by_cases hw : w = 0
  · rw [if_pos hw, uI_if]; unfold rkM; rw [uI_if]
    by_cases hj : j = c
    · rw [if_pos hj, if_pos (by omega), if_pos (by omega)]
    · rw [if_neg hj]; by_cases h4 : j < 40
      · rw [if_pos h4, if_pos h4, if_neg (by omega)]
      · rw [if_neg h4, if_neg h4]
  · rw [if_neg hw]; unfold rkM; by_cases h4 : j < 40
    · rw [if_pos h4, if_pos h4, uI_n (by omega)]
    · rw [if_neg h4, if_neg h4]
theorem set_1 {tb : Int → Int} {c w v : Int} (h : setOK c w v) : ∀ j, 0 ≤ j → j < 75 → (if w = 1 then uI (czM tb) c v else czM tb) j = czM (uI tb (40 * w + c) v) j := by
  intro j a b
  unfold setOK at h
  by_cases hw : w = 1
  · rw [if_pos hw, uI_if]; unfold czM; rw [uI_if]
    by_cases hj : j = c
    · rw [if_pos hj, if_pos (by omega), if_pos (by omega)]
    · rw [if_neg hj]; by_cases h4 : j < 40
      · rw [if_pos h4, if_pos h4, if_neg (by omega)]
      · rw [if_neg h4, if_neg h4]
  · rw [if_neg hw]; unfold czM; by_cases h4 : j < 40
    · rw [if_pos h4, if_pos h4, uI_n (by omega)]
    · rw [if_neg h4, if_neg h4]
theorem set_2 {tb : Int → Int} {c w v : Int} (h : setOK c w v) : ∀ j, 0 ≤ j → j < 75 → (if w = 2 then uI (lzM tb) c v else lzM tb) j = lzM (uI tb (40 * w + c) v) j := by
  intro j a b
  unfold setOK at h
  by_cases hw : w = 2
  · rw [if_pos hw, uI_if]; unfold lzM; rw [uI_if]
    by_cases hj : j = c
    · rw [if_pos hj, if_pos (by omega), if_pos (by omega)]
    · rw [if_neg hj]; by_cases h4 : j < 40
      · rw [if_pos h4, if_pos h4, if_neg (by omega)]
      · rw [if_neg h4, if_neg h4]
  · rw [if_neg hw]; unfold lzM; by_cases h4 : j < 40
    · rw [if_pos h4, if_pos h4, uI_n (by omega)]
    · rw [if_neg h4, if_neg h4]
theorem set_3 {tb : Int → Int} {c w v : Int} (h : setOK c w v) : ∀ j, 0 ≤ j → j < 75 → (if w = 3 then uI (szM tb) c v else szM tb) j = szM (uI tb (40 * w + c) v) j := by
  intro j a b
  unfold setOK at h
  by_cases hw : w = 3
  · rw [if_pos hw, uI_if]; unfold szM; rw [uI_if]
    by_cases hj : j = c
    · rw [if_pos hj, if_pos (by omega), if_pos (by omega)]
    · rw [if_neg hj]; by_cases h4 : j < 40
      · rw [if_pos h4, if_pos h4, if_neg (by omega)]
      · rw [if_neg h4, if_neg h4]
  · rw [if_neg hw]; unfold szM; by_cases h4 : j < 40
    · rw [if_pos h4, if_pos h4, uI_n (by omega)]
    · rw [if_neg h4, if_neg h4]
/-- the weights agree where a form has characters -/
def WTE (tb p4 p5 p6 : Int → Int) : Prop := ∀ k x : Int, 0 ≤ k → k < 3 → 0 ≤ x → x < 48 → wtC p4 p5 p6 k x = wtM tb k x
def WTR (p4 p5 p6 : Int → Int) : Prop := ∀ c, 0 ≤ c → c < 75 → (0 ≤ p4 c ∧ p4 c ≤ 5000) ∧ (0 ≤ p5 c ∧ p5 c ≤ 5000) ∧ (0 ≤ p6 c ∧ p6 c ≤ 5000)
theorem WTR.hwr {p4 p5 p6 : Int → Int} (h : WTR p4 p5 p6) : ∀ k c, 0 ≤ c → c < 75 → 0 ≤ wtC p4 p5 p6 k c ∧ wtC p4 p5 p6 k c ≤ 5000 := by
  intro k c a b
  unfold wtC
  have := h c a b
  repeat' split
  · exact this.1
  · exact this.2.1
  · exact this.2.2
theorem wtC_0 {p4 p5 p6 : Int → Int} {x : Int} : wtC p4 p5 p6 0 x = p4 x := if_pos rfl
theorem wtC_1 {p4 p5 p6 : Int → Int} {x : Int} : wtC p4 p5 p6 1 x = p5 x := (if_neg (by decide)).trans (if_pos rfl)
theorem wtC_2 {p4 p5 p6 : Int → Int} {x : Int} : wtC p4 p5 p6 2 x = p6 x := (if_neg (by decide)).trans (if_neg (by decide))
theorem set_w {tb p4 p5 p6 : Int → Int} {c w v : Int} (h : setOK c w v) (hE : WTE tb p4 p5 p6) : WTE (uI tb (40 * w + c) v) (if w = 4 then uI p4 c v else p4) (if w = 5 then uI p5 c v else p5) (if w = 6 then uI p6 c v else p6) := by
  intro k x k0 k1 x0 x1
  unfold setOK at h
  have e := hE k x k0 k1 x0 x1
  have hM : wtM (uI tb (40 * w + c) v) k x = if x = c ∧ w = k + 4 then v else wtM tb k x := by
    unfold wtM
    by_cases h4 : x < 40
    · rw [if_pos h4, if_pos h4, uI_if]
      by_cases hx : x = c ∧ w = k + 4
      · rw [if_pos hx, if_pos (by omega)]
      · rw [if_neg hx, if_neg (by omega)]
    · rw [if_neg h4, if_neg h4, if_neg (show ¬ (x = c ∧ w = k + 4) by omega)]
  rw [hM, ← e]
  rcases (show k = 0 ∨ k = 1 ∨ k = 2 by omega) with z | z | z
  · subst z
    rw [wtC_0, wtC_0]
    by_cases hw : w = 4
    · rw [if_pos hw, uI_if]
      by_cases hx : x = c
      · rw [if_pos hx, if_pos ⟨hx, by omega⟩]
      · rw [if_neg hx, if_neg (fun z => hx z.1)]
    · rw [if_neg hw, if_neg (fun z => hw (by omega))]
  · subst z
    rw [wtC_1, wtC_1]
    by_cases hw : w = 5
    · rw [if_pos hw, uI_if]
      by_cases hx : x = c
      · rw [if_pos hx, if_pos ⟨hx, by omega⟩]
      · rw [if_neg hx, if_neg (fun z => hx z.1)]
    · rw [if_neg hw, if_neg (fun z => hw (by omega))]
  · subst z
    rw [wtC_2, wtC_2]
    by_cases hw : w = 6
    · rw [if_pos hw, uI_if]
      by_cases hx : x = c
      · rw [if_pos hx, if_pos ⟨hx, by omega⟩]
      · rw [if_neg hx, if_neg (fun z => hx z.1)]
    · rw [if_neg hw, if_neg (fun z => hw (by omega))]
theorem set_r {p4 p5 p6 : Int → Int} {c w v : Int} (h : setOK c w v) (hR : WTR p4 p5 p6) : WTR (if w = 4 then uI p4 c v else p4) (if w = 5 then uI p5 c v else p5) (if w = 6 then uI p6 c v else p6) := by
  intro j a b
  unfold setOK at h
  have e := hR j a b
  have key : ∀ (q : Int) (p : Int → Int), (0 ≤ p j ∧ p j ≤ 5000) → 0 ≤ (if w = q then uI p c v else p) j ∧ (if w = q then uI p c v else p) j ≤ 5000 := by
    intro q p hp
    by_cases hw : w = q
    · rw [if_pos hw, uI_if]
      split
      · omega
      · exact hp
    · rw [if_neg hw]; exact hp
  exact ⟨key 4 p4 e.1, key 5 p5 e.2.1, key 6 p6 e.2.2⟩
theorem set_t {tb : Int → Int} {c w v : Int} (h : setOK c w v) (hT : TBK tb) : TBK (uI tb (40 * w + c) v) := by
  intro j a b
  unfold setOK at h
  have e := hT j a b
  have key : ∀ k B : Int, (0 ≤ tb (40 * k + j) ∧ tb (40 * k + j) ≤ B) → (w = k → v ≤ B) → 0 ≤ k → 0 ≤ uI tb (40 * w + c) v (40 * k + j) ∧ uI tb (40 * w + c) v (40 * k + j) ≤ B := by
    intro k B h1 h2 h3
    rw [uI_if]
    by_cases hx : 40 * k + j = 40 * w + c
    · rw [if_pos hx]; have := h2 (by omega); omega
    · rw [if_neg hx]; exact h1
  refine ⟨?_, ?_, ?_, ?_, ?_, ?_, ?_⟩
  · have := key 0 254 (by simpa using e.1) (by omega) (by omega); simpa using this
  · exact key 1 9 e.2.1 (by omega) (by omega)
  · exact key 2 12 e.2.2.1 (by omega) (by omega)
  · exact key 3 11 e.2.2.2.1 (by omega) (by omega)
  · exact key 4 999 e.2.2.2.2.1 (by omega) (by omega)
  · exact key 5 999 e.2.2.2.2.2.1 (by omega) (by omega)
  · exact key 6 999 e.2.2.2.2.2.2 (by omega) (by omega)
theorem hp_rk {tb : Int → Int} (hT : TBK tb) : ∀ c, 0 ≤ c → c < 75 → 0 ≤ rkM tb c ∧ rkM tb c ≤ 254 := fun c a b => by
  unfold rkM; split
  · exact (hT c a (by assumption)).1
  · omega
theorem hp_cz {tb : Int → Int} (hT : TBK tb) : ∀ c, 0 ≤ c → c < 75 → 0 ≤ czM tb c ∧ czM tb c ≤ 9 := fun c a b => by
  unfold czM; split
  · exact (hT c a (by assumption)).2.1
  · omega
theorem hp_lz {tb : Int → Int} (hT : TBK tb) : ∀ c, 0 ≤ c → c < 75 → 0 ≤ lzM tb c ∧ lzM tb c ≤ 12 := fun c a b => by
  unfold lzM; split
  · exact (hT c a (by assumption)).2.2.1
  · omega
theorem hp_sz {tb : Int → Int} (hT : TBK tb) : ∀ c, 0 ≤ c → c < 75 → 0 ≤ szM tb c ∧ szM tb c ≤ 11 := fun c a b => by
  unfold szM; split
  · exact (hT c a (by assumption)).2.2.2.1
  · omega
/-- parting keeps the characters' order -/
theorem part_v {t1 t2 : Int → Int} {c a b : Int} (hv : vpt t1 t2) (h : partOK c a b) : vpt (uI t1 c a) (uI t2 c b) := by
  intro j z0 z1
  unfold partOK at h
  rw [uI_if, uI_if]
  by_cases hj : j = c
  · rw [if_pos hj, if_pos hj]; omega
  · rw [if_neg hj, if_neg hj]; exact hv j z0 z1
theorem part_f {t1 t2 : Int → Int} {c a b : Int} (hf : fixP t1 t2) (h : partOK c a b) : fixP (uI t1 c a) (uI t2 c b) := by
  unfold partOK at h
  refine ⟨fun j z0 z1 => ?_, fun j z0 z1 => ?_⟩
  · rw [uI_n (by omega), uI_n (by omega)]; exact hf.1 j z0 z1
  · rw [uI_n (by omega), uI_n (by omega)]; exact hf.2 j z0 z1
theorem BC_BR {tb t1 t2 ex xf tx : Int → Int} {xs j : Int} (hv : vpt t1 t2) (hf : fixP t1 t2) (he : ∀ c, 40 ≤ c → c < 75 → ex c = 0) (hr : ∀ j, 0 ≤ j → j < xs → 0 ≤ xf j ∧ xf j < 75) (h : ∀ j, 0 ≤ j → j < xs → xf j = tx j) : BC (rkM tb) t1 t2 ex xf xs j = BR tb t1 t2 ex tx xs j ∧ ∀ x ∈ BC (rkM tb) t1 t2 ex xf xs j, 0 ≤ x ∧ x < 75 := by
  have hm : ∀ x ∈ FM (rkM tb) t1 t2 xf xs, 0 ≤ x ∧ x < 75 := fun x hx => by have := FM_mem (rk := rkM tb) hv hr x hx; omega
  unfold BC BR
  rw [← FM_congr (rk := rkM tb) (fi := t1) (se := t2) h]
  by_cases z : j = 0
  · rw [if_pos z, if_pos z]; exact ⟨rfl, hm⟩
  · rw [if_neg z, if_neg z]
    exact jnL_two (fun x c => jnC_lt x c) (fun x c hx => jnC_jnM hv hf he hx) _ [] (fun x hx => hm x (List.mem_reverse.mp hx)) (fun x hx => by cases hx)
theorem jl_inj {a b : Int} (ha : -2147483648 ≤ a ∧ a < 2147483648) (hb : -2147483648 ≤ b ∧ b < 2147483648) : jl a = jl b ↔ a = b := by
  unfold jl
  constructor
  · intro h
    have h2 := congrArg Int64.toInt h
    rw [Int32.toInt_toInt64, Int32.toInt_toInt64, iv_toInt ha, iv_toInt hb] at h2
    exact h2
  · intro h; rw [h]
