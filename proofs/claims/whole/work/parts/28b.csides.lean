set_option maxRecDepth 100000 in
set_option maxHeartbeats 4000000 in
theorem c_S_changeUnits (l : Launch) (dC : Nat → ClassId) (dI : Nat → Nat → Nat) (cI : ClassId) (cZ : ClassId) (cG : ClassId) (cR : ClassId) (sA : Nat → Nat) (kd : Int → Int) (lw : Int → Int) (od : Int → Int) (sz : Nat) (n : Int) (hn9 : 0 ≤ n ∧ n ≤ 40) (hB : BS n kd) : Met l yS_changeUnits wsS_changeUnits ({ frames := 1, cells := 0, slots := 0, locals := 24 }) (va_Pc [.ref (sA 0), .int (iv n)] (jPre (dC, dI) (jT cI cZ cG cR) (wS cI cZ cG cR sA kd lw od) sz)) (va_Qv (fun u : (Int → Int) => EqR n u (w6 (w5 n kd))) (fun u => jEnd (dC, dI) (jT cI cZ cG cR) (va_A (wS cI cZ cG cR sA kd lw od) sz) (wS cI cZ cG cR sA u lw od)) (va_A (wS cI cZ cG cR sA kd lw od) sz)) 0 0 (va_A (wS cI cZ cG cR sA kd lw od) sz) := by
  refine jv_mv (cc := cS_changeUnits) (maxL := 5) (by decide) rfl (Nat.le_of_ble_eq_true rfl) ?_
  intro p0 e0 s0 m0 a0 b0 t0 c0 R0 Q0 A0 ls gX gB hts hown hml hRf hRl hA hK hret hl hP hD hS
  have hown : s0.vm.findClass "TextPipeline$Sides" = some m0.cls := hown
  have hw0 : ∀ w ∈ WS0, w.before a0 s0 = true := fun w h => hts w (List.mem_cons_of_mem _ h)
  have hl : lv_has ls 5 [(0, .ref (sA 0)), (1, .int (iv n))] := hl
  have hRf : 1 ≤ R0.frames := hRf
  have hRl : 24 ≤ R0.locals := hRl
  have hB5 := BS_5 hn9.1 hB
  have hB6 := BS_6 hn9.1 hB5.1
  have hK1 : kd (n + 1) ≠ 5 := by have := hB.2.1; omega
  have hK0 : kd 0 ≠ 5 := by have := hB.1; omega
  refine lv_iconst (pc := 0) (v := iv 1) gX gB dS_changeUnits_0 rfl ?_
  refine lv_istore_n (pc := 1) (lv' := [(2, .int (iv 1)), (0, .ref (sA 0)), (1, .int (iv n))]) gX gB dS_changeUnits_1 rfl hl (by decide) rfl (fun ls hl => ?_)
  have cut2 : ∀ (n0 : Nat) (i : Int) (g : Int → Int) (ls : Array Slot) (H : Heap) (locs : List Loc), (1 ≤ i ∧ i ≤ n + 1) → (∃ e9, i ≤ e9 ∧ e9 ≤ n + 1 ∧ STG n (w6 (w5 n kd)) kd e9 g ∧ (kd (e9 - 1) ≠ 5 ∨ kd e9 ≠ 5) ∧ (∀ j, i ≤ j → j < e9 → kd j = 5)) → (RGK n g) → ((n + 1 - i : Int).toNat < n0) → lv_has ls 5 [(0, .ref (sA 0)), (1, .int (iv n)), (2, .int (iv i))] → va_P (dC, dI) vwCl (wS cI cZ cG cR sA g lw od) H → va_D A0 (wS cI cZ cG cR sA g lw od) → va_S A0 s0.heap H locs → W p0 l e0 R0 s0 m0 a0 b0 t0 c0 H locs 0 0 Q0 (F0 m0 2 ls []) := by
    intro n0
    induction n0 with
    | zero => intro i g ls H locs hi hE hr9 hm hl hP hD hS; exact absurd hm (Nat.not_lt_zero _)
    | succ n0 ih2 =>
      intro i g ls H locs hi hE hr9 hm2 hl hP hD hS
      refine lv_iload_n (pc := 2) gX gB dS_changeUnits_2 rfl (lv_at hl 2 rfl) ?_
      refine lv_iload_n (pc := 3) gX gB dS_changeUnits_3 rfl (lv_at hl 1 rfl) ?_
      refine jv_icmp_gt (pc := 4) (tgt := 124) gX gB dS_changeUnits_4 (by decide) (by omega) (by omega) (fun h1 => ?_) (fun h1 => ?_)
      · skip
        exact hret (g) dS_changeUnits_124 (by obtain ⟨e9, hq1, hq2, hq3, hq4, hq5⟩ := hE; exact stg_end hq3 (by omega) (hB5.2.2.trans hB6.2.2)) hP hD hS
      have a3 := hr9 i (by omega) (by omega)
      obtain ⟨e9, hq1, hq2, hq3, hq4, hq5⟩ := hE
      have hcs : (i < e9 ∧ kd i = 5 ∧ (g i = 3 ∨ g i = 11)) ∨ (i = e9 ∧ g i = kd i) := by rcases (show i < e9 ∨ i = e9 by omega) with z | z; (have q := hq5 i (by omega) z; exact Or.inl ⟨z, q, by rw [hq3.1 i (by omega) z]; exact w6_run q⟩); (exact Or.inr ⟨z, hq3.2 i (by omega) (by omega)⟩)
      have cut118 : ∀ (g2 : Int → Int) (ls : Array Slot) (H : Heap) (locs : List Loc), (∃ e9, i + 1 ≤ e9 ∧ e9 ≤ n + 1 ∧ STG n (w6 (w5 n kd)) kd e9 g2 ∧ (kd (e9 - 1) ≠ 5 ∨ kd e9 ≠ 5) ∧ (∀ j, i + 1 ≤ j → j < e9 → kd j = 5)) → (RGK n g2) → lv_has ls 5 [(0, .ref (sA 0)), (1, .int (iv n)), (2, .int (iv i))] → va_P (dC, dI) vwCl (wS cI cZ cG cR sA g2 lw od) H → va_D A0 (wS cI cZ cG cR sA g2 lw od) → va_S A0 s0.heap H locs → W p0 l e0 R0 s0 m0 a0 b0 t0 c0 H locs 0 0 Q0 (F0 m0 118 ls []) := by
        intro g2 ls H locs hE2 hr2 hl hP hD hS
        refine jv_iinc (pc := 118) (k := 2) (x := i) (n := 1) (lv' := [(2, .int (iv (i + 1))), (0, .ref (sA 0)), (1, .int (iv n))]) gX gB dS_changeUnits_118 hl rfl (by decide) rfl (fun ls hl => ?_)
        refine lv_goto (pc := 121) (tgt := 2) gX gB dS_changeUnits_121 (by decide) ?_
        exact ih2 (i + 1) g2 _ _ _ (by omega) (by exact hE2) (by exact hr2) (by omega) (lv_sub hl [1, 2, 0] rfl) hP hD hS
      refine lv_aload_n (pc := 7) gX gB dS_changeUnits_7 rfl (lv_at hl 0 rfl) ?_
      refine va_get (pc := 8) (D := (dC, dI)) (ci := 4) (v := .ref (sA 1)) (C := RS) (T := TS) (N := 3) gX gB hw0 inS hown hK hP 0 rfl rfl 0 (by decide) (hw0 _ q118) (fun _ h9 => h9) rfl dS_changeUnits_8 ?_
      refine lv_iload_n (pc := 11) gX gB dS_changeUnits_11 rfl (lv_at hl 2 rfl) ?_
      refine jv_iald (pc := 12) gX gB hK hP 1 0 rfl rfl (by decide) (by omega) dS_changeUnits_12 ?_
      refine lv_iconst (pc := 13) (v := iv 5) gX gB dS_changeUnits_13 rfl ?_
      refine jv_icmp_ne (pc := 14) (tgt := 89) gX gB dS_changeUnits_14 (by decide) (by omega) (by decide) (fun h2 => ?_) (fun h2 => ?_)
      · skip
        have cut110 : ∀ (ls : Array Slot) (H : Heap) (locs : List Loc), (g i = 4 ∨ g i = 7) → lv_has ls 5 [(0, .ref (sA 0)), (1, .int (iv n)), (2, .int (iv i))] → va_P (dC, dI) vwCl (wS cI cZ cG cR sA g lw od) H → va_D A0 (wS cI cZ cG cR sA g lw od) → va_S A0 s0.heap H locs → W p0 l e0 R0 s0 m0 a0 b0 t0 c0 H locs 0 0 Q0 (F0 m0 110 ls []) := by
          intro  ls H locs h110 hl hP hD hS
          refine lv_aload_n (pc := 110) gX gB dS_changeUnits_110 rfl (lv_at hl 0 rfl) ?_
          refine va_get (pc := 111) (D := (dC, dI)) (ci := 4) (v := .ref (sA 1)) (C := RS) (T := TS) (N := 3) gX gB hw0 inS hown hK hP 0 rfl rfl 0 (by decide) (hw0 _ q118) (fun _ h9 => h9) rfl dS_changeUnits_111 ?_
          refine lv_iload_n (pc := 114) gX gB dS_changeUnits_114 rfl (lv_at hl 2 rfl) ?_
          refine lv_bipush (pc := 115) (v := iv 11) gX gB dS_changeUnits_115 (by decide) ?_
          refine jv_iast (pc := 117) (ws' := (wS cI cZ cG cR sA (uI g i 11) lw od)) gX gB hK hP hD hS 1 0 rfl rfl (by decide) (by omega) dS_changeUnits_117 rfl (fun H locs hP hD hS => ?_)
          exact cut118 (uI g i 11) _ _ _ (by have hie : i = e9 ∧ g i = kd i := (by rcases hcs with z | z; (exfalso; omega); exact z); have hg : STG n (w6 (w5 n kd)) kd i g := (by rw [hie.1]; exact hq3); exact ⟨i + 1, by omega, by omega, stg_up hg (by rw [w6_5 (by omega), if_pos (by omega)]), Or.inl (by rw [show i + 1 - 1 = i by omega]; omega), fun j a b => by omega⟩) (by exact RGK_up hr9 (by omega)) hl hP hD hS
        refine lv_aload_n (pc := 89) gX gB dS_changeUnits_89 rfl (lv_at hl 0 rfl) ?_
        refine va_get (pc := 90) (D := (dC, dI)) (ci := 4) (v := .ref (sA 1)) (C := RS) (T := TS) (N := 3) gX gB hw0 inS hown hK hP 0 rfl rfl 0 (by decide) (hw0 _ q118) (fun _ h9 => h9) rfl dS_changeUnits_90 ?_
        refine lv_iload_n (pc := 93) gX gB dS_changeUnits_93 rfl (lv_at hl 2 rfl) ?_
        refine jv_iald (pc := 94) gX gB hK hP 1 0 rfl rfl (by decide) (by omega) dS_changeUnits_94 ?_
        refine lv_iconst (pc := 95) (v := iv 4) gX gB dS_changeUnits_95 rfl ?_
        refine jv_icmp_eq (pc := 96) (tgt := 110) gX gB dS_changeUnits_96 (by decide) (by omega) (by decide) (fun h3 => ?_) (fun h3 => ?_)
        · skip
          exact cut110  _ _ _ (by exact Or.inl (by assumption)) hl hP hD hS
        refine lv_aload_n (pc := 99) gX gB dS_changeUnits_99 rfl (lv_at hl 0 rfl) ?_
        refine va_get (pc := 100) (D := (dC, dI)) (ci := 4) (v := .ref (sA 1)) (C := RS) (T := TS) (N := 3) gX gB hw0 inS hown hK hP 0 rfl rfl 0 (by decide) (hw0 _ q118) (fun _ h9 => h9) rfl dS_changeUnits_100 ?_
        refine lv_iload_n (pc := 103) gX gB dS_changeUnits_103 rfl (lv_at hl 2 rfl) ?_
        refine jv_iald (pc := 104) gX gB hK hP 1 0 rfl rfl (by decide) (by omega) dS_changeUnits_104 ?_
        refine lv_bipush (pc := 105) (v := iv 7) gX gB dS_changeUnits_105 (by decide) ?_
        refine jv_icmp_ne (pc := 107) (tgt := 118) gX gB dS_changeUnits_107 (by decide) (by omega) (by decide) (fun h4 => ?_) (fun h4 => ?_)
        · skip
          exact cut118 g _ _ _ (by rcases hcs with z | z; (exact ⟨e9, by omega, hq2, hq3, hq4, fun j a b => hq5 j (by omega) b⟩); (have hg : STG n (w6 (w5 n kd)) kd i g := (by rw [z.1]; exact hq3); exact ⟨i + 1, by omega, by omega, stg_keep hg (by omega) (by rw [w6_5 (by omega), if_neg (by omega)]), Or.inl (by rw [show i + 1 - 1 = i by omega]; omega), fun j a b => by omega⟩)) (by exact hr9) hl hP hD hS
        exact cut110  _ _ _ (by exact Or.inr (by assumption)) hl hP hD hS
      have hie : i = e9 ∧ g i = kd i := by rcases hcs with z | z; (exfalso; omega); exact z
      have hg : STG n (w6 (w5 n kd)) kd i g := by rw [hie.1]; exact hq3
      have hbd : kd (i - 1) ≠ 5 := by rw [hie.1]; rcases hq4 with z | z; exact z; (rw [← hie.1] at z; omega)
      have a4 := hr9 (i - 1) (by omega) (by omega)
      clear hcs hq1 hq2 hq3 hq4 hq5
      refine lv_iload_n (pc := 17) gX gB dS_changeUnits_17 rfl (lv_at hl 2 rfl) ?_
      refine lv_istore_n (pc := 18) (lv' := [(3, .int (iv i)), (0, .ref (sA 0)), (1, .int (iv n)), (2, .int (iv i))]) gX gB dS_changeUnits_18 rfl hl (by decide) rfl (fun ls hl => ?_)
      have cut40 : ∀ (to : Int) (ls : Array Slot) (H : Heap) (locs : List Loc), (i ≤ to ∧ to ≤ n + 1) → (∀ j, i ≤ j → j < to → kd j = 5) → (kd to ≠ 5) → lv_has ls 5 [(0, .ref (sA 0)), (1, .int (iv n)), (2, .int (iv i)), (3, .int (iv to))] → va_P (dC, dI) vwCl (wS cI cZ cG cR sA g lw od) H → va_D A0 (wS cI cZ cG cR sA g lw od) → va_S A0 s0.heap H locs → W p0 l e0 R0 s0 m0 a0 b0 t0 c0 H locs 0 0 Q0 (F0 m0 40 ls []) := by
        intro to ls H locs ht hrun hne hl hP hD hS
        have hrt := hr9 to (by omega) (by omega)
        have cut67 : ∀ (is : Int) (ls : Array Slot) (H : Heap) (locs : List Loc), ((is = 1 ∧ (g (i - 1) = 3 ∨ g to = 3)) ∨ (is = 0 ∧ ¬ (g (i - 1) = 3 ∨ g to = 3))) → lv_has ls 5 [(0, .ref (sA 0)), (1, .int (iv n)), (2, .int (iv i)), (3, .int (iv to))] → va_P (dC, dI) vwCl (wS cI cZ cG cR sA g lw od) H → va_D A0 (wS cI cZ cG cR sA g lw od) → va_S A0 s0.heap H locs → W p0 l e0 R0 s0 m0 a0 b0 t0 c0 H locs 0 0 Q0 (F0 m0 67 ls [.int (iv is)]) := by
          intro is ls H locs his hl hP hD hS
          refine lv_istore (pc := 67) (lv' := [(4, .int (iv is)), (0, .ref (sA 0)), (1, .int (iv n)), (2, .int (iv i)), (3, .int (iv to))]) gX gB dS_changeUnits_67 hl (by decide) rfl (fun ls hl => ?_)
          have rgi : -2147483648 ≤ is ∧ is < 2147483648 := by rcases his with z | z <;> (rw [z.1]; decide)
          refine lv_aload_n (pc := 69) gX gB dS_changeUnits_69 rfl (lv_at hl 1 rfl) ?_
          refine lv_iload_n (pc := 70) gX gB dS_changeUnits_70 rfl (lv_at hl 3 rfl) ?_
          refine lv_iload_n (pc := 71) gX gB dS_changeUnits_71 rfl (lv_at hl 4 rfl) ?_
          have cut83 : ∀ (v : Int) (ls : Array Slot) (H : Heap) (locs : List Loc), (v = if g (i - 1) = 3 ∨ g to = 3 then 3 else 11) → (0 ≤ v ∧ v ≤ 11) → lv_has ls 5 [(0, .ref (sA 0)), (1, .int (iv n)), (2, .int (iv i))] → va_P (dC, dI) vwCl (wS cI cZ cG cR sA g lw od) H → va_D A0 (wS cI cZ cG cR sA g lw od) → va_S A0 s0.heap H locs → W p0 l e0 R0 s0 m0 a0 b0 t0 c0 H locs 0 0 Q0 (F0 m0 83 ls [.int (iv v), .int (iv to), .int (iv i), .ref (sA 0)]) := by
            intro v ls H locs hv9 hvr hl hP hD hS
            refine jv_rv (pc := 83) (wr := []) (wn := fun u : (Int → Int) => (wS cI cZ cG cR sA u lw od)) (va_runV (rest := []) ⟨gX, gB, hml, hown, hw0⟩ (c_S_fillKinds l dC dI cI cZ cG cR sA g lw od _ i to v (by omega)) (jcV hw0 kS_fillKinds q549 rfl rfl ⟨Nat.le_trans (Nat.le_of_ble_eq_true rfl) hRf, Nat.le_trans (Nat.le_of_ble_eq_true rfl) hRl⟩) (jv_preV (ci := 4) (q0 := 0) hK hP hD [0, 1, 2, 3] rfl (by decide) rfl rfl) rfl rfl hl.1 rfl (lv_room (Nat.le_of_ble_eq_true rfl)) dS_changeUnits_83 ⟨Nat.zero_le _, Nat.zero_le _⟩) hP hD hS hA [0, 1, 2, 3] [] [0, 1, 2, 3] rfl rfl (by decide) (by decide) (by decide) (fun _ => rfl) (fun u H locs hw83 hP hD hS => ?_)
            obtain ⟨kd_83, hu⟩ : ∃ z, z = u := ⟨_, rfl⟩; subst hu
            refine lv_goto (pc := 86) (tgt := 118) gX gB dS_changeUnits_86 (by decide) ?_
            exact cut118 kd_83 _ _ _ (by have hlt : i < to := (by rcases (show i = to ∨ i < to by omega) with z | z; (exfalso; rw [← z] at hne; omega); exact z); exact ⟨to, by omega, by omega, cu_end hg (by omega) (by omega) hbd hne hrun hv9 hw83 (by omega), Or.inr hne, fun j a b => hrun j (by omega) b⟩) (by intro j a b; rw [hw83 j]; split; exact hvr; exact hr9 j a b) hl hP hD hS
          refine lv_iload (pc := 72) gX gB dS_changeUnits_72 (lv_at hl 0 rfl) ?_
          refine jv_if_eq (pc := 74) (tgt := 81) gX gB dS_changeUnits_74 (by decide) rgi (fun h5 => ?_) (fun h5 => ?_)
          · skip
            refine lv_bipush (pc := 81) (v := iv 11) gX gB dS_changeUnits_81 (by decide) ?_
            exact cut83 11 _ _ _ (by rw [if_neg (by rcases his with z | z; (exact absurd z.1 (by omega)); exact z.2)]) (by omega) (lv_sub hl [1, 2, 3] rfl) hP hD hS
          refine lv_iconst (pc := 77) (v := iv 3) gX gB dS_changeUnits_77 rfl ?_
          refine lv_goto (pc := 78) (tgt := 83) gX gB dS_changeUnits_78 (by decide) ?_
          exact cut83 3 _ _ _ (by rw [if_pos (by rcases his with z | z; exact z.2; exact absurd z.1 (by assumption))]) (by omega) (lv_sub hl [1, 2, 3] rfl) hP hD hS
        have cut66 : ∀ (ls : Array Slot) (H : Heap) (locs : List Loc), (¬ (g (i - 1) = 3 ∨ g to = 3)) → lv_has ls 5 [(0, .ref (sA 0)), (1, .int (iv n)), (2, .int (iv i)), (3, .int (iv to))] → va_P (dC, dI) vwCl (wS cI cZ cG cR sA g lw od) H → va_D A0 (wS cI cZ cG cR sA g lw od) → va_S A0 s0.heap H locs → W p0 l e0 R0 s0 m0 a0 b0 t0 c0 H locs 0 0 Q0 (F0 m0 66 ls []) := by
          intro  ls H locs h66 hl hP hD hS
          refine lv_iconst (pc := 66) (v := iv 0) gX gB dS_changeUnits_66 rfl ?_
          exact cut67 0 _ _ _ (by exact Or.inr ⟨rfl, h66⟩) hl hP hD hS
        have cut62 : ∀ (ls : Array Slot) (H : Heap) (locs : List Loc), (g (i - 1) = 3 ∨ g to = 3) → lv_has ls 5 [(0, .ref (sA 0)), (1, .int (iv n)), (2, .int (iv i)), (3, .int (iv to))] → va_P (dC, dI) vwCl (wS cI cZ cG cR sA g lw od) H → va_D A0 (wS cI cZ cG cR sA g lw od) → va_S A0 s0.heap H locs → W p0 l e0 R0 s0 m0 a0 b0 t0 c0 H locs 0 0 Q0 (F0 m0 62 ls []) := by
          intro  ls H locs h62 hl hP hD hS
          refine lv_iconst (pc := 62) (v := iv 1) gX gB dS_changeUnits_62 rfl ?_
          refine lv_goto (pc := 63) (tgt := 67) gX gB dS_changeUnits_63 (by decide) ?_
          exact cut67 1 _ _ _ (by exact Or.inl ⟨rfl, h62⟩) hl hP hD hS
        refine lv_aload_n (pc := 40) gX gB dS_changeUnits_40 rfl (lv_at hl 0 rfl) ?_
        refine va_get (pc := 41) (D := (dC, dI)) (ci := 4) (v := .ref (sA 1)) (C := RS) (T := TS) (N := 3) gX gB hw0 inS hown hK hP 0 rfl rfl 0 (by decide) (hw0 _ q118) (fun _ h9 => h9) rfl dS_changeUnits_41 ?_
        refine lv_iload_n (pc := 44) gX gB dS_changeUnits_44 rfl (lv_at hl 2 rfl) ?_
        refine lv_iconst (pc := 45) (v := iv 1) gX gB dS_changeUnits_45 rfl ?_
        refine jv_isub (pc := 46) (x := i) (y := 1) gX gB dS_changeUnits_46 ?_
        refine jv_iald (pc := 47) gX gB hK hP 1 0 rfl rfl (by decide) (by omega) dS_changeUnits_47 ?_
        refine lv_iconst (pc := 48) (v := iv 3) gX gB dS_changeUnits_48 rfl ?_
        refine jv_icmp_eq (pc := 49) (tgt := 62) gX gB dS_changeUnits_49 (by decide) (by omega) (by decide) (fun h6 => ?_) (fun h6 => ?_)
        · skip
          exact cut62  _ _ _ (by exact Or.inl (by assumption)) hl hP hD hS
        refine lv_aload_n (pc := 52) gX gB dS_changeUnits_52 rfl (lv_at hl 0 rfl) ?_
        refine va_get (pc := 53) (D := (dC, dI)) (ci := 4) (v := .ref (sA 1)) (C := RS) (T := TS) (N := 3) gX gB hw0 inS hown hK hP 0 rfl rfl 0 (by decide) (hw0 _ q118) (fun _ h9 => h9) rfl dS_changeUnits_53 ?_
        refine lv_iload_n (pc := 56) gX gB dS_changeUnits_56 rfl (lv_at hl 3 rfl) ?_
        refine jv_iald (pc := 57) gX gB hK hP 1 0 rfl rfl (by decide) (by omega) dS_changeUnits_57 ?_
        refine lv_iconst (pc := 58) (v := iv 3) gX gB dS_changeUnits_58 rfl ?_
        refine jv_icmp_ne (pc := 59) (tgt := 66) gX gB dS_changeUnits_59 (by decide) (by omega) (by decide) (fun h7 => ?_) (fun h7 => ?_)
        · skip
          exact cut66  _ _ _ (by exact fun z => by rcases z with z | z; exact absurd z (by assumption); exact absurd z (by assumption)) hl hP hD hS
        exact cut62  _ _ _ (by exact Or.inr (by assumption)) hl hP hD hS
      have cut19 : ∀ (n0 : Nat) (to : Int) (ls : Array Slot) (H : Heap) (locs : List Loc), (i ≤ to ∧ to ≤ n + 1) → (∀ j, i ≤ j → j < to → kd j = 5) → ((n + 1 - to : Int).toNat < n0) → lv_has ls 5 [(0, .ref (sA 0)), (1, .int (iv n)), (2, .int (iv i)), (3, .int (iv to))] → va_P (dC, dI) vwCl (wS cI cZ cG cR sA g lw od) H → va_D A0 (wS cI cZ cG cR sA g lw od) → va_S A0 s0.heap H locs → W p0 l e0 R0 s0 m0 a0 b0 t0 c0 H locs 0 0 Q0 (F0 m0 19 ls []) := by
        intro n0
        induction n0 with
        | zero => intro to ls H locs ht hrun hm hl hP hD hS; exact absurd hm (Nat.not_lt_zero _)
        | succ n0 ih19 =>
          intro to ls H locs ht hrun hm19 hl hP hD hS
          refine lv_iload_n (pc := 19) gX gB dS_changeUnits_19 rfl (lv_at hl 3 rfl) ?_
          refine lv_iload_n (pc := 20) gX gB dS_changeUnits_20 rfl (lv_at hl 1 rfl) ?_
          refine jv_icmp_gt (pc := 21) (tgt := 40) gX gB dS_changeUnits_21 (by decide) (by omega) (by omega) (fun h8 => ?_) (fun h8 => ?_)
          · skip
            exact cut40 to _ _ _ (by omega) (by exact hrun) (by rw [show to = n + 1 by omega]; exact hK1) hl hP hD hS
          have hrt := hr9 to (by omega) (by omega)
          have hft := hg.2 to (by omega) (by omega)
          refine lv_aload_n (pc := 24) gX gB dS_changeUnits_24 rfl (lv_at hl 0 rfl) ?_
          refine va_get (pc := 25) (D := (dC, dI)) (ci := 4) (v := .ref (sA 1)) (C := RS) (T := TS) (N := 3) gX gB hw0 inS hown hK hP 0 rfl rfl 0 (by decide) (hw0 _ q118) (fun _ h9 => h9) rfl dS_changeUnits_25 ?_
          refine lv_iload_n (pc := 28) gX gB dS_changeUnits_28 rfl (lv_at hl 3 rfl) ?_
          refine jv_iald (pc := 29) gX gB hK hP 1 0 rfl rfl (by decide) (by omega) dS_changeUnits_29 ?_
          refine lv_iconst (pc := 30) (v := iv 5) gX gB dS_changeUnits_30 rfl ?_
          refine jv_icmp_ne (pc := 31) (tgt := 40) gX gB dS_changeUnits_31 (by decide) (by omega) (by decide) (fun h9 => ?_) (fun h9 => ?_)
          · skip
            exact cut40 to _ _ _ (by omega) (by exact hrun) (by rw [← hft]; assumption) hl hP hD hS
          refine jv_iinc (pc := 34) (k := 3) (x := to) (n := 1) (lv' := [(3, .int (iv (to + 1))), (0, .ref (sA 0)), (1, .int (iv n)), (2, .int (iv i))]) gX gB dS_changeUnits_34 hl rfl (by decide) rfl (fun ls hl => ?_)
          refine lv_goto (pc := 37) (tgt := 19) gX gB dS_changeUnits_37 (by decide) ?_
          exact ih19 (to + 1) _ _ _ (by omega) (by intro j a b; by_cases c : j = to; (rw [c, ← hft]; assumption); exact hrun j a (by omega)) (by omega) (lv_sub hl [1, 2, 3, 0] rfl) hP hD hS
      exact cut19 (((n + 1 - i : Int).toNat) + 1) i _ _ _ (by omega) (by intro j a b; omega) (Nat.lt_succ_self _) (lv_sub hl [1, 2, 3, 0] rfl) hP hD hS
  exact cut2 (((n + 1 - 1 : Int).toNat) + 1) 1 kd _ _ _ (by omega) (by exact ⟨1, by omega, by omega, stg_0 (hB5.2.1.trans hB6.2.1), Or.inl (by rw [show (1 : Int) - 1 = 0 by omega]; exact hK0), fun j a b => by omega⟩) (by exact hB.2.2) (Nat.lt_succ_self _) (lv_sub hl [1, 2, 0] rfl) hP hD hS
set_option maxRecDepth 100000 in
set_option maxHeartbeats 1000000 in
theorem c_S_kindBetween (l : Launch) (dC : Nat → ClassId) (dI : Nat → Nat → Nat) (cI : ClassId) (cZ : ClassId) (cG : ClassId) (cR : ClassId) (sA : Nat → Nat) (kd : Int → Int) (lw : Int → Int) (od : Int → Int) (sz : Nat) (be : Int) (bh : Int) (h1 : 0 ≤ be ∧ be ≤ 11) (h2 : 0 ≤ bh ∧ bh ≤ 11) : Met l yS_kindBetween wsS_kindBetween ({ frames := 1, cells := 0, slots := 0, locals := 20 }) (va_Pc [.ref (sA 0), .int (iv be), .int (iv bh)] (jPre (dC, dI) (jT cI cZ cG cR) (wS cI cZ cG cR sA kd lw od) sz)) (va_Qi (fun (r0 : Int32) (u : Int) => r0 = iv u ∧ (u = (if be = 0 ∧ bh = 0 then 0 else if (be = 1 ∨ be = 3 ∨ be = 6) ∧ (bh = 1 ∨ bh = 3 ∨ bh = 6) then 1 else kd 0))) (fun u => jEnd (dC, dI) (jT cI cZ cG cR) (va_A (wS cI cZ cG cR sA kd lw od) sz) (wS cI cZ cG cR sA kd lw od)) (va_A (wS cI cZ cG cR sA kd lw od) sz)) 0 0 (va_A (wS cI cZ cG cR sA kd lw od) sz) := by
  refine jv_mi (cc := cS_kindBetween) (maxL := 3) (by decide) rfl (Nat.le_of_ble_eq_true rfl) ?_
  intro p0 e0 s0 m0 a0 b0 t0 c0 R0 Q0 A0 ls gX gB hts hown hml hRf hRl hA hK hret hl hP hD hS
  have hown : s0.vm.findClass "TextPipeline$Sides" = some m0.cls := hown
  have hw0 : ∀ w ∈ WS0, w.before a0 s0 = true := fun w h => hts w (List.mem_cons_of_mem _ h)
  have hl : lv_has ls 3 [(0, .ref (sA 0)), (1, .int (iv be)), (2, .int (iv bh))] := hl
  have hRf : 1 ≤ R0.frames := hRf
  have hRl : 20 ≤ R0.locals := hRl
  have cut10 : ∀ (ls : Array Slot) (H : Heap) (locs : List Loc), (¬ (be = 0 ∧ bh = 0)) → lv_has ls 3 [(0, .ref (sA 0)), (1, .int (iv be)), (2, .int (iv bh))] → va_P (dC, dI) vwCl (wS cI cZ cG cR sA kd lw od) H → va_D A0 (wS cI cZ cG cR sA kd lw od) → va_S A0 s0.heap H locs → W p0 l e0 R0 s0 m0 a0 b0 t0 c0 H locs 0 0 Q0 (F0 m0 10 ls []) := by
    intro  ls H locs h10 hl hP hD hS
    have cut28 : ∀ (ls : Array Slot) (H : Heap) (locs : List Loc), (¬ ((be = 1 ∨ be = 3 ∨ be = 6) ∧ (bh = 1 ∨ bh = 3 ∨ bh = 6))) → lv_has ls 3 [(0, .ref (sA 0)), (1, .int (iv be)), (2, .int (iv bh))] → va_P (dC, dI) vwCl (wS cI cZ cG cR sA kd lw od) H → va_D A0 (wS cI cZ cG cR sA kd lw od) → va_S A0 s0.heap H locs → W p0 l e0 R0 s0 m0 a0 b0 t0 c0 H locs 0 0 Q0 (F0 m0 28 ls []) := by
      intro  ls H locs h28 hl hP hD hS
      refine lv_aload_n (pc := 28) gX gB dS_kindBetween_28 rfl (lv_at hl 0 rfl) ?_
      refine va_get (pc := 29) (D := (dC, dI)) (ci := 4) (v := .ref (sA 1)) (C := RS) (T := TS) (N := 3) gX gB hw0 inS hown hK hP 0 rfl rfl 0 (by decide) (hw0 _ q118) (fun _ h9 => h9) rfl dS_kindBetween_29 ?_
      refine lv_iconst (pc := 32) (v := iv 0) gX gB dS_kindBetween_32 rfl ?_
      refine jv_iald (pc := 33) gX gB hK hP 1 0 rfl rfl (by decide) (by omega) dS_kindBetween_33 ?_
      exact hret _ (kd 0) dS_kindBetween_34 ⟨rfl, by first | (rw [if_neg h10, if_neg h28]) | (rw [if_neg h10, if_pos ⟨hw11.2.mp (by omega), hw18.2.mp (by omega)⟩])⟩ hP hD hS
    refine lv_iload_n (pc := 10) gX gB dS_kindBetween_10 rfl (lv_at hl 1 rfl) ?_
    refine jv_ri (pc := 11) (wr := [(sA 0, .inr (4, [.ref (sA 1), .ref (sA 2), .ref (sA 3)])), (sA 1, .inl (cI, 42, .inl (av kd))), (sA 2, .inl (cI, 40, .inl (av lw))), (sA 3, .inl (cI, 40, .inl (av od)))]) (wn := fun u : Int => (wS cI cZ cG cR sA kd lw od)) (va_runS (rest := []) ⟨gX, gB, hml, hown, hw0⟩ (c_S_readsRight l dC dI cI cZ cG cR  _ be (by omega)) (jcS hw0 kS_readsRight q568 rfl rfl ⟨Nat.le_trans (Nat.le_of_ble_eq_true rfl) hRf, Nat.le_trans (Nat.le_of_ble_eq_true rfl) hRl⟩) (jv_preS hK hP hD [] rfl (by decide)) rfl rfl hl.1 rfl (lv_room (Nat.le_of_ble_eq_true rfl)) dS_kindBetween_11 ⟨Nat.zero_le _, Nat.zero_le _⟩) hP hD hS hA [] [0, 1, 2, 3] [0, 1, 2, 3] rfl rfl (by decide) (by decide) (by decide) (fun _ => rfl) (fun r0 u H locs hw11 hP hD hS => ?_)
    obtain ⟨r_11, hu⟩ : ∃ z, z = u := ⟨_, rfl⟩; subst hu
    obtain ⟨rfl, hw11⟩ := hw11
    refine jv_if_eq (pc := 14) (tgt := 28) gX gB dS_kindBetween_14 (by decide) (by omega) (fun h1 => ?_) (fun h1 => ?_)
    · skip
      exact cut28  _ _ _ (by exact fun z => by have := hw11.2.mpr z.1; omega) hl hP hD hS
    refine lv_iload_n (pc := 17) gX gB dS_kindBetween_17 rfl (lv_at hl 2 rfl) ?_
    refine jv_ri (pc := 18) (wr := [(sA 0, .inr (4, [.ref (sA 1), .ref (sA 2), .ref (sA 3)])), (sA 1, .inl (cI, 42, .inl (av kd))), (sA 2, .inl (cI, 40, .inl (av lw))), (sA 3, .inl (cI, 40, .inl (av od)))]) (wn := fun u : Int => (wS cI cZ cG cR sA kd lw od)) (va_runS (rest := []) ⟨gX, gB, hml, hown, hw0⟩ (c_S_readsRight l dC dI cI cZ cG cR  _ bh (by omega)) (jcS hw0 kS_readsRight q568 rfl rfl ⟨Nat.le_trans (Nat.le_of_ble_eq_true rfl) hRf, Nat.le_trans (Nat.le_of_ble_eq_true rfl) hRl⟩) (jv_preS hK hP hD [] rfl (by decide)) rfl rfl hl.1 rfl (lv_room (Nat.le_of_ble_eq_true rfl)) dS_kindBetween_18 ⟨Nat.zero_le _, Nat.zero_le _⟩) hP hD hS hA [] [0, 1, 2, 3] [0, 1, 2, 3] rfl rfl (by decide) (by decide) (by decide) (fun _ => rfl) (fun r0 u H locs hw18 hP hD hS => ?_)
    obtain ⟨r_18, hu⟩ : ∃ z, z = u := ⟨_, rfl⟩; subst hu
    obtain ⟨rfl, hw18⟩ := hw18
    refine jv_if_eq (pc := 21) (tgt := 28) gX gB dS_kindBetween_21 (by decide) (by omega) (fun h2 => ?_) (fun h2 => ?_)
    · skip
      exact cut28  _ _ _ (by exact fun z => by have := hw18.2.mpr z.2; omega) hl hP hD hS
    refine lv_iconst (pc := 24) (v := iv 1) gX gB dS_kindBetween_24 rfl ?_
    refine lv_goto (pc := 25) (tgt := 34) gX gB dS_kindBetween_25 (by decide) ?_
    exact hret _ (1) dS_kindBetween_34 ⟨rfl, by first | (rw [if_neg h10, if_neg h28]) | (rw [if_neg h10, if_pos ⟨hw11.2.mp (by omega), hw18.2.mp (by omega)⟩])⟩ hP hD hS
  refine lv_iload_n (pc := 0) gX gB dS_kindBetween_0 rfl (lv_at hl 1 rfl) ?_
  refine jv_if_ne (pc := 1) (tgt := 10) gX gB dS_kindBetween_1 (by decide) (by omega) (fun h3 => ?_) (fun h3 => ?_)
  · skip
    exact cut10  _ _ _ (by exact fun z => absurd z.1 (by assumption)) hl hP hD hS
  refine lv_iload_n (pc := 4) gX gB dS_kindBetween_4 rfl (lv_at hl 2 rfl) ?_
  refine jv_if_ne (pc := 5) (tgt := 10) gX gB dS_kindBetween_5 (by decide) (by omega) (fun h4 => ?_) (fun h4 => ?_)
  · skip
    exact cut10  _ _ _ (by exact fun z => absurd z.2 (by assumption)) hl hP hD hS
  refine lv_iconst (pc := 8) (v := iv 0) gX gB dS_kindBetween_8 rfl ?_
  exact hret _ (0) dS_kindBetween_9 ⟨rfl, by rw [if_pos ⟨by assumption, by assumption⟩]⟩ hP hD hS
set_option maxRecDepth 100000 in
set_option maxHeartbeats 4000000 in
theorem c_S_changeNeutrals (l : Launch) (dC : Nat → ClassId) (dI : Nat → Nat → Nat) (cI : ClassId) (cZ : ClassId) (cG : ClassId) (cR : ClassId) (sA : Nat → Nat) (kd : Int → Int) (lw : Int → Int) (od : Int → Int) (sz : Nat) (n : Int) (hn9 : 0 ≤ n ∧ n ≤ 40) (hB : BS n kd) (h7 : S7 n kd) : Met l yS_changeNeutrals wsS_changeNeutrals ({ frames := 2, cells := 0, slots := 0, locals := 42 }) (va_Pc [.ref (sA 0), .int (iv n)] (jPre (dC, dI) (jT cI cZ cG cR) (wS cI cZ cG cR sA kd lw od) sz)) (va_Qv (fun u : (Int → Int) => EqR n u (w8 (kd 0) n kd)) (fun u => jEnd (dC, dI) (jT cI cZ cG cR) (va_A (wS cI cZ cG cR sA kd lw od) sz) (wS cI cZ cG cR sA u lw od)) (va_A (wS cI cZ cG cR sA kd lw od) sz)) 0 0 (va_A (wS cI cZ cG cR sA kd lw od) sz) := by
  refine jv_mv (cc := cS_changeNeutrals) (maxL := 4) (by decide) rfl (Nat.le_of_ble_eq_true rfl) ?_
  intro p0 e0 s0 m0 a0 b0 t0 c0 R0 Q0 A0 ls gX gB hts hown hml hRf hRl hA hK hret hl hP hD hS
  have hown : s0.vm.findClass "TextPipeline$Sides" = some m0.cls := hown
  have hw0 : ∀ w ∈ WS0, w.before a0 s0 = true := fun w h => hts w (List.mem_cons_of_mem _ h)
  have hl : lv_has ls 4 [(0, .ref (sA 0)), (1, .int (iv n))] := hl
  have hRf : 2 ≤ R0.frames := hRf
  have hRl : 42 ≤ R0.locals := hRl
  have hB8 := BS_8 hn9.1 hB.1 hB
  have hK1 : ¬ 8 < kd (n + 1) := by have := hB.2.1; omega
  have hK0 : ¬ 8 < kd 0 := by have := hB.1; omega
  refine lv_iconst (pc := 0) (v := iv 1) gX gB dS_changeNeutrals_0 rfl ?_
  refine lv_istore_n (pc := 1) (lv' := [(2, .int (iv 1)), (0, .ref (sA 0)), (1, .int (iv n))]) gX gB dS_changeNeutrals_1 rfl hl (by decide) rfl (fun ls hl => ?_)
  have cut2 : ∀ (n0 : Nat) (i : Int) (g : Int → Int) (ls : Array Slot) (H : Heap) (locs : List Loc), (1 ≤ i ∧ i ≤ n + 1) → (∃ e9, i ≤ e9 ∧ e9 ≤ n + 1 ∧ STG n (w8 (kd 0) n kd) kd e9 g ∧ (¬ 8 < kd (e9 - 1) ∨ ¬ 8 < kd e9) ∧ (∀ j, i ≤ j → j < e9 → 8 < kd j)) → (RGK n g) → ((n + 1 - i : Int).toNat < n0) → lv_has ls 4 [(0, .ref (sA 0)), (1, .int (iv n)), (2, .int (iv i))] → va_P (dC, dI) vwCl (wS cI cZ cG cR sA g lw od) H → va_D A0 (wS cI cZ cG cR sA g lw od) → va_S A0 s0.heap H locs → W p0 l e0 R0 s0 m0 a0 b0 t0 c0 H locs 0 0 Q0 (F0 m0 2 ls []) := by
    intro n0
    induction n0 with
    | zero => intro i g ls H locs hi hE hr9 hm hl hP hD hS; exact absurd hm (Nat.not_lt_zero _)
    | succ n0 ih2 =>
      intro i g ls H locs hi hE hr9 hm2 hl hP hD hS
      refine lv_iload_n (pc := 2) gX gB dS_changeNeutrals_2 rfl (lv_at hl 2 rfl) ?_
      refine lv_iload_n (pc := 3) gX gB dS_changeNeutrals_3 rfl (lv_at hl 1 rfl) ?_
      refine jv_icmp_gt (pc := 4) (tgt := 74) gX gB dS_changeNeutrals_4 (by decide) (by omega) (by omega) (fun h1 => ?_) (fun h1 => ?_)
      · skip
        exact hret (g) dS_changeNeutrals_74 (by obtain ⟨e9, hq1, hq2, hq3, hq4, hq5⟩ := hE; exact stg_end hq3 (by omega) hB8.2.1) hP hD hS
      have a3 := hr9 i (by omega) (by omega)
      obtain ⟨e9, hq1, hq2, hq3, hq4, hq5⟩ := hE
      have hcs : (i < e9 ∧ (g i = 0 ∨ g i = 1)) ∨ (i = e9 ∧ g i = kd i) := by rcases (show i < e9 ∨ i = e9 by omega) with z | z; (have q := hq5 i (by omega) z; exact Or.inl ⟨z, by rw [hq3.1 i (by omega) z]; exact w8_run hB.1 q⟩); (exact Or.inr ⟨z, hq3.2 i (by omega) (by omega)⟩)
      have cut68 : ∀ (g2 : Int → Int) (ls : Array Slot) (H : Heap) (locs : List Loc), (∃ e9, i + 1 ≤ e9 ∧ e9 ≤ n + 1 ∧ STG n (w8 (kd 0) n kd) kd e9 g2 ∧ (¬ 8 < kd (e9 - 1) ∨ ¬ 8 < kd e9) ∧ (∀ j, i + 1 ≤ j → j < e9 → 8 < kd j)) → (RGK n g2) → lv_has ls 4 [(0, .ref (sA 0)), (1, .int (iv n)), (2, .int (iv i))] → va_P (dC, dI) vwCl (wS cI cZ cG cR sA g2 lw od) H → va_D A0 (wS cI cZ cG cR sA g2 lw od) → va_S A0 s0.heap H locs → W p0 l e0 R0 s0 m0 a0 b0 t0 c0 H locs 0 0 Q0 (F0 m0 68 ls []) := by
        intro g2 ls H locs hE2 hr2 hl hP hD hS
        refine jv_iinc (pc := 68) (k := 2) (x := i) (n := 1) (lv' := [(2, .int (iv (i + 1))), (0, .ref (sA 0)), (1, .int (iv n))]) gX gB dS_changeNeutrals_68 hl rfl (by decide) rfl (fun ls hl => ?_)
        refine lv_goto (pc := 71) (tgt := 2) gX gB dS_changeNeutrals_71 (by decide) ?_
        exact ih2 (i + 1) g2 _ _ _ (by omega) (by exact hE2) (by exact hr2) (by omega) (lv_sub hl [1, 2, 0] rfl) hP hD hS
      refine lv_aload_n (pc := 7) gX gB dS_changeNeutrals_7 rfl (lv_at hl 0 rfl) ?_
      refine va_get (pc := 8) (D := (dC, dI)) (ci := 4) (v := .ref (sA 1)) (C := RS) (T := TS) (N := 3) gX gB hw0 inS hown hK hP 0 rfl rfl 0 (by decide) (hw0 _ q118) (fun _ h9 => h9) rfl dS_changeNeutrals_8 ?_
      refine lv_iload_n (pc := 11) gX gB dS_changeNeutrals_11 rfl (lv_at hl 2 rfl) ?_
      refine jv_iald (pc := 12) gX gB hK hP 1 0 rfl rfl (by decide) (by omega) dS_changeNeutrals_12 ?_
      refine jv_ri (pc := 13) (wr := [(sA 0, .inr (4, [.ref (sA 1), .ref (sA 2), .ref (sA 3)])), (sA 1, .inl (cI, 42, .inl (av g))), (sA 2, .inl (cI, 40, .inl (av lw))), (sA 3, .inl (cI, 40, .inl (av od)))]) (wn := fun u : Int => (wS cI cZ cG cR sA g lw od)) (va_runS (rest := []) ⟨gX, gB, hml, hown, hw0⟩ (c_S_isNeutral l dC dI cI cZ cG cR  _ (g i) (by exact a3)) (jcS hw0 kS_isNeutral q561 rfl rfl ⟨Nat.le_trans (Nat.le_of_ble_eq_true rfl) hRf, Nat.le_trans (Nat.le_of_ble_eq_true rfl) hRl⟩) (jv_preS hK hP hD [] rfl (by decide)) rfl rfl hl.1 rfl (lv_room (Nat.le_of_ble_eq_true rfl)) dS_changeNeutrals_13 ⟨Nat.zero_le _, Nat.zero_le _⟩) hP hD hS hA [] [0, 1, 2, 3] [0, 1, 2, 3] rfl rfl (by decide) (by decide) (by decide) (fun _ => rfl) (fun r0 u H locs hw13 hP hD hS => ?_)
      obtain ⟨r_13, hu⟩ : ∃ z, z = u := ⟨_, rfl⟩; subst hu
      obtain ⟨rfl, hw13⟩ := hw13
      refine jv_if_eq (pc := 16) (tgt := 68) gX gB dS_changeNeutrals_16 (by decide) (by omega) (fun h2 => ?_) (fun h2 => ?_)
      · skip
        exact cut68 g _ _ _ (by rcases hcs with z | z; (exact ⟨e9, by omega, hq2, hq3, hq4, fun j a b => hq5 j (by omega) b⟩); (have hg : STG n (w8 (kd 0) n kd) kd i g := (by rw [z.1]; exact hq3); have h8 : ¬ 8 < kd i := (by omega); exact ⟨i + 1, by omega, by omega, stg_keep hg (by omega) (if_neg h8).symm, Or.inl (by rw [show i + 1 - 1 = i by omega]; exact h8), fun j a b => by omega⟩)) (by exact hr9) hl hP hD hS
      have hie : i = e9 ∧ g i = kd i := by rcases hcs with z | z; (exfalso; omega); exact z
      have hg : STG n (w8 (kd 0) n kd) kd i g := by rw [hie.1]; exact hq3
      have hk8 : 8 < kd i := by omega
      have hbd : ¬ 8 < kd (i - 1) := by rw [hie.1]; rcases hq4 with z | z; exact z; (rw [← hie.1] at z; omega)
      have a4 := hr9 (i - 1) (by omega) (by omega)
      have hgp : g (i - 1) = kd (i - 1) := by rw [hg.1 (i - 1) (by omega) (by omega)]; exact if_neg hbd
      have hg0 : g 0 = kd 0 := by rw [hg.1 0 (by omega) (by omega)]; exact hB8.1.symm
      clear hcs hq1 hq2 hq3 hq4 hq5
      refine lv_iload_n (pc := 19) gX gB dS_changeNeutrals_19 rfl (lv_at hl 2 rfl) ?_
      refine lv_istore_n (pc := 20) (lv' := [(3, .int (iv i)), (0, .ref (sA 0)), (1, .int (iv n)), (2, .int (iv i))]) gX gB dS_changeNeutrals_20 rfl hl (by decide) rfl (fun ls hl => ?_)
      have cut44 : ∀ (to : Int) (ls : Array Slot) (H : Heap) (locs : List Loc), (i ≤ to ∧ to ≤ n + 1) → (∀ j, i ≤ j → j < to → 8 < kd j) → (¬ 8 < kd to) → lv_has ls 4 [(0, .ref (sA 0)), (1, .int (iv n)), (2, .int (iv i)), (3, .int (iv to))] → va_P (dC, dI) vwCl (wS cI cZ cG cR sA g lw od) H → va_D A0 (wS cI cZ cG cR sA g lw od) → va_S A0 s0.heap H locs → W p0 l e0 R0 s0 m0 a0 b0 t0 c0 H locs 0 0 Q0 (F0 m0 44 ls []) := by
        intro to ls H locs ht hrun hne hl hP hD hS
        have hrt := hr9 to (by omega) (by omega)
        have hft := hg.2 to (by omega) (by omega)
        have s1 := h7 (i - 1) (by omega) (by omega)
        have s2 := h7 to (by omega) (by omega)
        have s3 : (g (i - 1) = 1 ∨ g (i - 1) = 3 ∨ g (i - 1) = 6) ↔ 0 < g (i - 1) := by clear s2; omega
        have s4 : (g to = 1 ∨ g to = 3 ∨ g to = 6) ↔ 0 < g to := by clear s1 s3; omega
        refine lv_aload_n (pc := 44) gX gB dS_changeNeutrals_44 rfl (lv_at hl 0 rfl) ?_
        refine lv_iload_n (pc := 45) gX gB dS_changeNeutrals_45 rfl (lv_at hl 2 rfl) ?_
        refine lv_iload_n (pc := 46) gX gB dS_changeNeutrals_46 rfl (lv_at hl 3 rfl) ?_
        refine lv_aload_n (pc := 47) gX gB dS_changeNeutrals_47 rfl (lv_at hl 0 rfl) ?_
        refine lv_aload_n (pc := 48) gX gB dS_changeNeutrals_48 rfl (lv_at hl 0 rfl) ?_
        refine va_get (pc := 49) (D := (dC, dI)) (ci := 4) (v := .ref (sA 1)) (C := RS) (T := TS) (N := 3) gX gB hw0 inS hown hK hP 0 rfl rfl 0 (by decide) (hw0 _ q118) (fun _ h9 => h9) rfl dS_changeNeutrals_49 ?_
        refine lv_iload_n (pc := 52) gX gB dS_changeNeutrals_52 rfl (lv_at hl 2 rfl) ?_
        refine lv_iconst (pc := 53) (v := iv 1) gX gB dS_changeNeutrals_53 rfl ?_
        refine jv_isub (pc := 54) (x := i) (y := 1) gX gB dS_changeNeutrals_54 ?_
        refine jv_iald (pc := 55) gX gB hK hP 1 0 rfl rfl (by decide) (by omega) dS_changeNeutrals_55 ?_
        refine lv_aload_n (pc := 56) gX gB dS_changeNeutrals_56 rfl (lv_at hl 0 rfl) ?_
        refine va_get (pc := 57) (D := (dC, dI)) (ci := 4) (v := .ref (sA 1)) (C := RS) (T := TS) (N := 3) gX gB hw0 inS hown hK hP 0 rfl rfl 0 (by decide) (hw0 _ q118) (fun _ h9 => h9) rfl dS_changeNeutrals_57 ?_
        refine lv_iload_n (pc := 60) gX gB dS_changeNeutrals_60 rfl (lv_at hl 3 rfl) ?_
        refine jv_iald (pc := 61) gX gB hK hP 1 0 rfl rfl (by decide) (by omega) dS_changeNeutrals_61 ?_
        refine jv_ri (pc := 62) (wr := []) (wn := fun u : Int => (wS cI cZ cG cR sA g lw od)) (va_runV (rest := [.int (iv to), .int (iv i), .ref (sA 0)]) ⟨gX, gB, hml, hown, hw0⟩ (c_S_kindBetween l dC dI cI cZ cG cR sA g lw od _ (g (i - 1)) (g to) (by exact a4) (by exact hrt)) (jcV hw0 kS_kindBetween q564 rfl rfl ⟨Nat.le_trans (Nat.le_of_ble_eq_true rfl) hRf, Nat.le_trans (Nat.le_of_ble_eq_true rfl) hRl⟩) (jv_preV (ci := 4) (q0 := 0) hK hP hD [0, 1, 2, 3] rfl (by decide) rfl rfl) rfl rfl hl.1 rfl (lv_room (Nat.le_of_ble_eq_true rfl)) dS_changeNeutrals_62 ⟨Nat.zero_le _, Nat.zero_le _⟩) hP hD hS hA [0, 1, 2, 3] [] [0, 1, 2, 3] rfl rfl (by decide) (by decide) (by decide) (fun _ => rfl) (fun r0 u H locs hw62 hP hD hS => ?_)
        obtain ⟨r_62, hu⟩ : ∃ z, z = u := ⟨_, rfl⟩; subst hu
        obtain ⟨rfl, hw62⟩ := hw62
        have hvv : r_62 = if g (i - 1) = 0 ∧ g to = 0 then 0 else if 0 < g (i - 1) ∧ 0 < g to then 1 else kd 0 := by rw [hw62, hg0]; by_cases c : g (i - 1) = 0 ∧ g to = 0; (rw [if_pos c, if_pos c]); (rw [if_neg c, if_neg c]; by_cases d : 0 < g (i - 1) ∧ 0 < g to; (rw [if_pos ⟨s3.mpr d.1, s4.mpr d.2⟩, if_pos d]); (rw [if_neg (fun q => d ⟨s3.mp q.1, s4.mp q.2⟩), if_neg d]))
        have hvr : 0 ≤ r_62 ∧ r_62 ≤ 11 := by rw [hvv]; clear s1 s2 s3 s4 hvv hw62; have := hB.1; split; omega; split; omega; omega
        refine jv_rv (pc := 65) (wr := []) (wn := fun u : (Int → Int) => (wS cI cZ cG cR sA u lw od)) (va_runV (rest := []) ⟨gX, gB, hml, hown, hw0⟩ (c_S_fillKinds l dC dI cI cZ cG cR sA g lw od _ i to r_62 (by omega)) (jcV hw0 kS_fillKinds q549 rfl rfl ⟨Nat.le_trans (Nat.le_of_ble_eq_true rfl) hRf, Nat.le_trans (Nat.le_of_ble_eq_true rfl) hRl⟩) (jv_preV (ci := 4) (q0 := 0) hK hP hD [0, 1, 2, 3] rfl (by decide) rfl rfl) rfl rfl hl.1 rfl (lv_room (Nat.le_of_ble_eq_true rfl)) dS_changeNeutrals_65 ⟨Nat.zero_le _, Nat.zero_le _⟩) hP hD hS hA [0, 1, 2, 3] [] [0, 1, 2, 3] rfl rfl (by decide) (by decide) (by decide) (fun _ => rfl) (fun u H locs hw65 hP hD hS => ?_)
        obtain ⟨kd_65, hu⟩ : ∃ z, z = u := ⟨_, rfl⟩; subst hu
        exact cut68 kd_65 _ _ _ (by have hlt : i < to := (by rcases (show i = to ∨ i < to by omega) with z | z; (exfalso; rw [← z] at hne; exact hne hk8); exact z); exact ⟨to, by omega, by omega, nq_end hg (by omega) (by omega) hbd hne hrun hvv hlt hw65, Or.inr hne, fun j a b => hrun j (by omega) b⟩) (by intro j a b; rw [hw65 j]; split; exact hvr; exact hr9 j a b) (lv_sub hl [0, 1, 2] rfl) hP hD hS
      have cut21 : ∀ (n0 : Nat) (to : Int) (ls : Array Slot) (H : Heap) (locs : List Loc), (i ≤ to ∧ to ≤ n + 1) → (∀ j, i ≤ j → j < to → 8 < kd j) → ((n + 1 - to : Int).toNat < n0) → lv_has ls 4 [(0, .ref (sA 0)), (1, .int (iv n)), (2, .int (iv i)), (3, .int (iv to))] → va_P (dC, dI) vwCl (wS cI cZ cG cR sA g lw od) H → va_D A0 (wS cI cZ cG cR sA g lw od) → va_S A0 s0.heap H locs → W p0 l e0 R0 s0 m0 a0 b0 t0 c0 H locs 0 0 Q0 (F0 m0 21 ls []) := by
        intro n0
        induction n0 with
        | zero => intro to ls H locs ht hrun hm hl hP hD hS; exact absurd hm (Nat.not_lt_zero _)
        | succ n0 ih21 =>
          intro to ls H locs ht hrun hm21 hl hP hD hS
          refine lv_iload_n (pc := 21) gX gB dS_changeNeutrals_21 rfl (lv_at hl 3 rfl) ?_
          refine lv_iload_n (pc := 22) gX gB dS_changeNeutrals_22 rfl (lv_at hl 1 rfl) ?_
          refine jv_icmp_gt (pc := 23) (tgt := 44) gX gB dS_changeNeutrals_23 (by decide) (by omega) (by omega) (fun h3 => ?_) (fun h3 => ?_)
          · skip
            exact cut44 to _ _ _ (by omega) (by exact hrun) (by rw [show to = n + 1 by omega]; exact hK1) hl hP hD hS
          have hrt := hr9 to (by omega) (by omega)
          have hft := hg.2 to (by omega) (by omega)
          refine lv_aload_n (pc := 26) gX gB dS_changeNeutrals_26 rfl (lv_at hl 0 rfl) ?_
          refine va_get (pc := 27) (D := (dC, dI)) (ci := 4) (v := .ref (sA 1)) (C := RS) (T := TS) (N := 3) gX gB hw0 inS hown hK hP 0 rfl rfl 0 (by decide) (hw0 _ q118) (fun _ h9 => h9) rfl dS_changeNeutrals_27 ?_
          refine lv_iload_n (pc := 30) gX gB dS_changeNeutrals_30 rfl (lv_at hl 3 rfl) ?_
          refine jv_iald (pc := 31) gX gB hK hP 1 0 rfl rfl (by decide) (by omega) dS_changeNeutrals_31 ?_
          refine jv_ri (pc := 32) (wr := [(sA 0, .inr (4, [.ref (sA 1), .ref (sA 2), .ref (sA 3)])), (sA 1, .inl (cI, 42, .inl (av g))), (sA 2, .inl (cI, 40, .inl (av lw))), (sA 3, .inl (cI, 40, .inl (av od)))]) (wn := fun u : Int => (wS cI cZ cG cR sA g lw od)) (va_runS (rest := []) ⟨gX, gB, hml, hown, hw0⟩ (c_S_isNeutral l dC dI cI cZ cG cR  _ (g to) (by exact hrt)) (jcS hw0 kS_isNeutral q561 rfl rfl ⟨Nat.le_trans (Nat.le_of_ble_eq_true rfl) hRf, Nat.le_trans (Nat.le_of_ble_eq_true rfl) hRl⟩) (jv_preS hK hP hD [] rfl (by decide)) rfl rfl hl.1 rfl (lv_room (Nat.le_of_ble_eq_true rfl)) dS_changeNeutrals_32 ⟨Nat.zero_le _, Nat.zero_le _⟩) hP hD hS hA [] [0, 1, 2, 3] [0, 1, 2, 3] rfl rfl (by decide) (by decide) (by decide) (fun _ => rfl) (fun r0 u H locs hw32 hP hD hS => ?_)
          obtain ⟨r_32, hu⟩ : ∃ z, z = u := ⟨_, rfl⟩; subst hu
          obtain ⟨rfl, hw32⟩ := hw32
          refine jv_if_eq (pc := 35) (tgt := 44) gX gB dS_changeNeutrals_35 (by decide) (by omega) (fun h4 => ?_) (fun h4 => ?_)
          · skip
            exact cut44 to _ _ _ (by omega) (by exact hrun) (by rw [← hft]; omega) hl hP hD hS
          refine jv_iinc (pc := 38) (k := 3) (x := to) (n := 1) (lv' := [(3, .int (iv (to + 1))), (0, .ref (sA 0)), (1, .int (iv n)), (2, .int (iv i))]) gX gB dS_changeNeutrals_38 hl rfl (by decide) rfl (fun ls hl => ?_)
          refine lv_goto (pc := 41) (tgt := 21) gX gB dS_changeNeutrals_41 (by decide) ?_
          exact ih21 (to + 1) _ _ _ (by omega) (by intro j a b; by_cases c : j = to; (rw [c, ← hft]; omega); exact hrun j a (by omega)) (by omega) (lv_sub hl [1, 2, 3, 0] rfl) hP hD hS
      exact cut21 (((n + 1 - i : Int).toNat) + 1) i _ _ _ (by omega) (by intro j a b; omega) (Nat.lt_succ_self _) (lv_sub hl [1, 2, 3, 0] rfl) hP hD hS
  exact cut2 (((n + 1 - 1 : Int).toNat) + 1) 1 kd _ _ _ (by omega) (by exact ⟨1, by omega, by omega, stg_0 hB8.1, Or.inl (by rw [show (1 : Int) - 1 = 0 by omega]; exact hK0), fun j a b => by omega⟩) (by exact hB.2.2) (Nat.lt_succ_self _) (lv_sub hl [1, 2, 0] rfl) hP hD hS
