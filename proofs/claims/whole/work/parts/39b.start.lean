/-! what the law's start gives: the classes, the statics, the exceptions -/
theorem st_xf : ∀ w ∈ jXF, w ∈ lw_tbl ∧ w.onTables = true := by decide +kernel
theorem st_xs : ∀ q ∈ jXS, Cond.stringRef "TextPipeline" q.1 q.2 ∈ lw_tbl := by decide +kernel
theorem st_l1 : Cond.laysStatic Bundle.tN "UNASSIGNED_STACK" Bundle.steD ∈ lw_tbl ∧ Cond.laysStatic Bundle.tN "SUPPRESSED_SENTINEL" Bundle.listD ∈ lw_tbl ∧ Cond.initialized Bundle.tN ∈ lw_tbl := by decide +kernel
theorem st_l2 : Cond.laysStatic "TextPipeline$Table" "GREATEST" "[I" ∈ lw_tbl ∧ Cond.initialized "TextPipeline$Table" ∈ lw_tbl := by decide +kernel
theorem st_l3 : Cond.arrayOver (.object "TextPipeline$Row") ∈ lw_tbl ∧ Cond.arrayOver (.array .int) ∈ lw_tbl ∧ Cond.arrayClass .int ∈ lw_tbl ∧ Cond.arrayClass .boolean ∈ lw_tbl ∧ Cond.arrayClass .long ∈ lw_tbl := by decide +kernel
section XP
variable {s : State} {b : Nat}
theorem st_ws (hts : ∀ w ∈ lw_tbl, w.before #[Value.ref b] s = true) : ∀ w ∈ WS0, w.before #[Value.ref b] s = true := fun w h => hts w (List.mem_filter.mp h).1
theorem st_O (hts : ∀ w ∈ lw_tbl, w.before #[Value.ref b] s = true) : jO s := ⟨va_AO.of (hts _ st_l3.1), hts _ st_l3.2.1⟩
theorem st_Z {n d : String} (hl : (Cond.laysStatic Bundle.tN n d).before #[Value.ref b] s = true) (hini : (Cond.initialized Bundle.tN).before #[Value.ref b] s = true) (h : (Cond.isRef (.static Bundle.tN n d)).before #[Value.ref b] s = true) : jXZ n d (fun q => s.heap.size ≤ q) s := by
  have hz := va_Zqof (A := fun q => s.heap.size ≤ q) hl hini h (fun a ha hA => absurd ha (Nat.not_lt.mpr hA))
  refine ⟨hl, h, ?_⟩
  rcases hz with hz | ⟨t, hz⟩
  · obtain ⟨cf, kf, fi, f, a, cell, h1, -, -, h4, h5, -, -, h8⟩ := hz
    exact ⟨cf, kf, fi, f, a, h1, h4, (Array.getElem?_eq_some_iff.mp h5).1, h8⟩
  · obtain ⟨cf, kf, fi, f, a, cell, h1, -, -, h4, h5, -, -, h8⟩ := hz
    exact ⟨cf, kf, fi, f, a, h1, h4, (Array.getElem?_eq_some_iff.mp h5).1, h8⟩
theorem st_X (hts : ∀ w ∈ lw_tbl, w.before #[Value.ref b] s = true) (hg : (Jvm.Cond.and given_1 narrow_1).before #[Value.ref b] s = true) : jX (fun q => s.heap.size ≤ q) s := by
  have hq := flat_of_before _ hg
  refine ⟨fun w hw => jxf_args (st_xf w hw).2 rfl (hts w (st_xf w hw).1), fun q h => ?_, fun c1 c2 e1 e2 => ?_, st_Z (hts _ st_l1.1) (hts _ st_l1.2.2) (hq _ (by decide +kernel)), st_Z (hts _ st_l1.2.1) (hts _ st_l1.2.2) (hq _ (by decide +kernel))⟩
  · have h1 := hts _ (st_xs q h)
    simp only [Cond.before, Cond.holds, Cond.value] at h1 ⊢
    exact h1
  · have h1 : (Cond.not (Cond.castable xISE xIAE)).before #[Value.ref b] s = true := hq _ (by decide +kernel)
    simp only [Cond.before, Cond.holds, Cond.value, e1, e2] at h1
    simpa using h1
theorem st_G (hts : ∀ w ∈ lw_tbl, w.before #[Value.ref b] s = true) (hg : (Jvm.Cond.and given_1 narrow_1).before #[Value.ref b] s = true) : jG (fun q => s.heap.size ≤ q) s := by
  have hq := flat_of_before _ hg
  have hA : ∀ a : Nat, a < s.heap.size → ¬ (fun q => s.heap.size ≤ q) a := fun a ha h => absurd ha (Nat.not_lt.mpr h)
  have g0 : (Cond.eq (.elem (.static "TextPipeline$Table" "GREATEST" "[I") (.int 0)) (.int 254)).before #[Value.ref b] s = true := hq _ (by decide +kernel)
  have g1 : (Cond.eq (.elem (.static "TextPipeline$Table" "GREATEST" "[I") (.int 1)) (.int 9)).before #[Value.ref b] s = true := hq _ (by decide +kernel)
  have g2 : (Cond.eq (.elem (.static "TextPipeline$Table" "GREATEST" "[I") (.int 2)) (.int 12)).before #[Value.ref b] s = true := hq _ (by decide +kernel)
  have g3 : (Cond.eq (.elem (.static "TextPipeline$Table" "GREATEST" "[I") (.int 3)) (.int 11)).before #[Value.ref b] s = true := hq _ (by decide +kernel)
  have g4 : (Cond.eq (.elem (.static "TextPipeline$Table" "GREATEST" "[I") (.int 4)) (.int 999)).before #[Value.ref b] s = true := hq _ (by decide +kernel)
  have g5 : (Cond.eq (.elem (.static "TextPipeline$Table" "GREATEST" "[I") (.int 5)) (.int 999)).before #[Value.ref b] s = true := hq _ (by decide +kernel)
  have g6 : (Cond.eq (.elem (.static "TextPipeline$Table" "GREATEST" "[I") (.int 6)) (.int 999)).before #[Value.ref b] s = true := hq _ (by decide +kernel)
  have gl : (Cond.eq (.length (.static "TextPipeline$Table" "GREATEST" "[I")) (.int 7)).before #[Value.ref b] s = true := hq _ (by decide +kernel)
  have ga : (Cond.arrayOf (.static "TextPipeline$Table" "GREATEST" "[I") .int).before #[Value.ref b] s = true := hq _ (by decide +kernel)
  have n0 : iv (gr ((0 : Nat) : Int)) = 254 := by decide
  have n1 : iv (gr ((1 : Nat) : Int)) = 9 := by decide
  have n2 : iv (gr ((2 : Nat) : Int)) = 12 := by decide
  have n3 : iv (gr ((3 : Nat) : Int)) = 11 := by decide
  have n4 : iv (gr ((4 : Nat) : Int)) = 999 := by decide
  have n5 : iv (gr ((5 : Nat) : Int)) = 999 := by decide
  have n6 : iv (gr ((6 : Nat) : Int)) = 999 := by decide
  obtain ⟨t, ht, hT⟩ := va_Tof (tm := .static "TextPipeline$Table" "GREATEST" "[I") (ty := .int) (N := 7) (f := fun j => .int (iv (gr (j : Int)))) (A := fun q => s.heap.size ≤ q) (by decide) ga (va_eqt gl) (fun j hj => by
    rcases (show j = 0 ∨ j = 1 ∨ j = 2 ∨ j = 3 ∨ j = 4 ∨ j = 5 ∨ j = 6 by omega) with rfl | rfl | rfl | rfl | rfl | rfl | rfl
    · show _ = some (Value.int (iv (gr ((0 : Nat) : Int)))); rw [n0]; exact va_eqt g0
    · show _ = some (Value.int (iv (gr ((1 : Nat) : Int)))); rw [n1]; exact va_eqt g1
    · show _ = some (Value.int (iv (gr ((2 : Nat) : Int)))); rw [n2]; exact va_eqt g2
    · show _ = some (Value.int (iv (gr ((3 : Nat) : Int)))); rw [n3]; exact va_eqt g3
    · show _ = some (Value.int (iv (gr ((4 : Nat) : Int)))); rw [n4]; exact va_eqt g4
    · show _ = some (Value.int (iv (gr ((5 : Nat) : Int)))); rw [n5]; exact va_eqt g5
    · show _ = some (Value.int (iv (gr ((6 : Nat) : Int)))); rw [n6]; exact va_eqt g6) hA
  exact ⟨t, va_Zref (hts _ st_l2.1) (hts _ st_l2.2) ht hA, hT⟩
theorem st_E (hts : ∀ w ∈ lw_tbl, w.before #[Value.ref b] s = true) (hg : (Jvm.Cond.and given_1 narrow_1).before #[Value.ref b] s = true) : jE (fun q => s.heap.size ≤ q) s := ⟨st_X hts hg, st_G hts hg⟩
theorem st_arr {ty : FieldType} (h : (Cond.arrayClass ty).before #[Value.ref b] s = true) (ho : ∀ C, ty ≠ .object C) : ∃ c : ClassId, ArrOfT s c ty ∧ va_RA s c ty := by
  obtain ⟨c, k, comp, h1, h2, h3⟩ := Cond.arrayClass_spec h
  refine ⟨c, fun N z => ⟨(fun q hq => by cases hq), k, h2, comp, h3⟩, ?_⟩
  cases ty <;> first | exact h1 | exact absurd rfl (ho _)
theorem st_K (hts : ∀ w ∈ lw_tbl, w.before #[Value.ref b] s = true) : ∃ (dC : Nat → ClassId) (dI : Nat → Nat → Nat) (cI cZ cG cR cJ : ClassId), va_K (dC, dI) vwCl (jT5 cI cZ cG cR cJ) s := by
  have hw0 := st_ws hts
  obtain ⟨a0, i0, k0⟩ := u_known hw0 inP (hw0 _ q19)
  obtain ⟨a1, i1, k1⟩ := u_known hw0 inT (hw0 _ q27)
  obtain ⟨a2, i2, k2⟩ := u_known hw0 inR (hw0 _ q89)
  obtain ⟨a3, i3, k3⟩ := u_known hw0 inL (hw0 _ q103)
  obtain ⟨a4, i4, k4⟩ := u_known hw0 inS (hw0 _ q113)
  obtain ⟨a5, i5, k5⟩ := u_known hw0 inM (hw0 _ q646)
  obtain ⟨cI, hI⟩ := st_arr (hts _ st_l3.2.2.1) (fun C h => by cases h)
  obtain ⟨cZ, hZ⟩ := st_arr (hts _ st_l3.2.2.2.1) (fun C h => by cases h)
  obtain ⟨cJ, hJ⟩ := st_arr (hts _ st_l3.2.2.2.2) (fun C h => by cases h)
  obtain ⟨compG, cG, kG, -, -, gk, gt, gn⟩ := jOA_spec (st_O hts).2
  obtain ⟨compR, cR, kR, r1, -, r3, r4, r5⟩ := Cond.arrayOver_spec (hts _ st_l3.1)
  refine ⟨fun n => match n with | 0 => a0 | 1 => a1 | 2 => a2 | 3 => a3 | 4 => a4 | _ => a5, fun n => match n with | 0 => i0 | 1 => i1 | 2 => i2 | 3 => i3 | 4 => i4 | _ => i5, cI, cZ, cG, cR, cJ, fun n q hq => ?_, fun n q hq => ?_⟩
  · match n, hq with
    | 0, hq => cases hq; exact k0
    | 1, hq => cases hq; exact k1
    | 2, hq => cases hq; exact k2
    | 3, hq => cases hq; exact k3
    | 4, hq => cases hq; exact k4
    | 5, hq => cases hq; exact k5
    | n + 6, hq => cases hq
  · match n, hq with
    | 0, hq => cases hq; exact hI
    | 1, hq => cases hq; exact hZ
    | 2, hq => cases hq; exact ⟨fun N z => ⟨(fun q hq => by cases hq), kG, gk, compG, gt⟩, gn⟩
    | 3, hq => cases hq; exact ⟨fun N z => ⟨(fun q hq => by cases hq), kR, r3, compR, r4⟩, kR, compR, r3, r4, r1, r5⟩
    | 4, hq => cases hq; exact hJ
    | n + 5, hq => cases hq
end XP
theorem st_W {p4 p5 p6 : Int → Int} (h1 : ∀ j, 40 ≤ j → j < 48 → p4 j = 1000 + j) (h2 : ∀ j, (j < 40 ∨ 48 ≤ j) → p4 j = 0) (h3 : ∀ j, 40 ≤ j → j < 48 → p5 j = 1) (h4 : ∀ j, (j < 40 ∨ 48 ≤ j) → p5 j = 0) (h5 : ∀ j, 40 ≤ j → j < 48 → p6 j = 1) (h6 : ∀ j, (j < 40 ∨ 48 ≤ j) → p6 j = 0) : WTE (fun _ => 0) p4 p5 p6 ∧ WTR p4 p5 p6 := by
  refine ⟨fun k x k0 k1 x0 x1 => ?_, fun c a b => ?_⟩
  · unfold wtM
    rcases (show k = 0 ∨ k = 1 ∨ k = 2 by omega) with rfl | rfl | rfl
    · rw [wtC_0]
      by_cases h : x < 40
      · rw [if_pos h]; exact h2 x (Or.inl h)
      · rw [if_neg h, if_pos rfl]; exact h1 x (by omega) x1
    · rw [wtC_1]
      by_cases h : x < 40
      · rw [if_pos h]; exact h4 x (Or.inl h)
      · rw [if_neg h, if_neg (by decide)]; exact h3 x (by omega) x1
    · rw [wtC_2]
      by_cases h : x < 40
      · rw [if_pos h]; exact h6 x (Or.inl h)
      · rw [if_neg h, if_neg (by decide)]; exact h5 x (by omega) x1
  · by_cases h : 40 ≤ c ∧ c < 48
    · rw [h1 c h.1 h.2, h3 c h.1 h.2, h5 c h.1 h.2]; omega
    · rw [h2 c (by omega), h4 c (by omega), h6 c (by omega)]; omega
