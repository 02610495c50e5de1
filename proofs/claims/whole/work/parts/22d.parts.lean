set_option maxRecDepth 100000 in
set_option maxHeartbeats 4000000 in
theorem c_T_staysSmall (l : Launch) (dC : Nat → ClassId) (dI : Nat → Nat → Nat) (cI : ClassId) (cZ : ClassId) (cG : ClassId) (cR : ClassId) (tA : Nat → Nat) (pr0 : Int → Int) (pr1 : Int → Int) (pr2 : Int → Int) (pr3 : Int → Int) (pr4 : Int → Int) (pr5 : Int → Int) (pr6 : Int → Int) (t1 : Int → Int) (t2 : Int → Int) (ex : Int → Int) (pt : Int → Int) (pn : Int → Int) (tc : Int → Int) (sz : Nat) (c : Int) (a : Int) (b : Int) (hv : vpt t1 t2) (hok : partOK c a b) : Met l yT_staysSmall wsT_staysSmall ({ frames := 0, cells := 0, slots := 0, locals := 0 }) (va_Pc [.ref (tA 0), .int (iv c), .int (iv a), .int (iv b)] (jPre (dC, dI) (jT cI cZ cG cR) (wT cI cZ cG cR tA pr0 pr1 pr2 pr3 pr4 pr5 pr6 t1 t2 ex pt pn tc) sz)) (va_Qi (fun (r0 : Int32) (u : Int × (Int → Int)) => r0 = iv u.1 ∧ ((u.1 = 0 ∨ u.1 = 1) ∧ (u.1 = 1 ↔ (SHT (uI t1 c a) (uI t2 c b))))) (fun u => jEnd (dC, dI) (jT cI cZ cG cR) (va_A (wT cI cZ cG cR tA pr0 pr1 pr2 pr3 pr4 pr5 pr6 t1 t2 ex pt pn tc) sz) (wT cI cZ cG cR tA pr0 pr1 pr2 pr3 pr4 pr5 pr6 t1 t2 ex pt pn u.2)) (va_A (wT cI cZ cG cR tA pr0 pr1 pr2 pr3 pr4 pr5 pr6 t1 t2 ex pt pn tc) sz)) 0 0 (va_A (wT cI cZ cG cR tA pr0 pr1 pr2 pr3 pr4 pr5 pr6 t1 t2 ex pt pn tc) sz) := by
  refine jv_mz (cc := cT_staysSmall) (maxL := 7) (by decide) rfl (Nat.le_of_ble_eq_true rfl) ?_
  intro p0 e0 s0 m0 a0 b0 t0 c0 R0 Q0 A0 ls gX gB hts hown hml hRf hRl hA hK hret hl hP hD hS
  have hown : s0.vm.findClass "TextPipeline$Table" = some m0.cls := hown
  have hw0 : ∀ w ∈ WS0, w.before a0 s0 = true := fun w h => hts w (List.mem_cons_of_mem _ h)
  have hl : lv_has ls 7 [(0, .ref (tA 0)), (1, .int (iv c)), (2, .int (iv a)), (3, .int (iv b))] := hl
  have hRf : 0 ≤ R0.frames := hRf
  have hRl : 0 ≤ R0.locals := hRl
  have hok2 := hok
  unfold partOK at hok2
  have hvx := vpt_up hv hok
  refine lv_iconst (pc := 0) (v := iv 0) gX gB dT_staysSmall_0 rfl ?_
  refine lv_istore (pc := 1) (lv' := [(4, .int (iv 0)), (0, .ref (tA 0)), (1, .int (iv c)), (2, .int (iv a)), (3, .int (iv b))]) gX gB dT_staysSmall_1 hl (by decide) rfl (fun ls hl => ?_)
  have cut3 : ∀ (n0 : Nat) (i : Int) (g : Int → Int) (ls : Array Slot) (H : Heap) (locs : List Loc), (0 ≤ i ∧ i ≤ 40) → (∀ j, 0 ≤ j → j < i → g j = KC (uI t1 c a) (uI t2 c b) j ∧ KC (uI t1 c a) (uI t2 c b) j ≤ 4) → ((40 - i : Int).toNat < n0) → lv_has ls 7 [(0, .ref (tA 0)), (1, .int (iv c)), (2, .int (iv a)), (3, .int (iv b)), (4, .int (iv i))] → va_P (dC, dI) vwCl (wT cI cZ cG cR tA pr0 pr1 pr2 pr3 pr4 pr5 pr6 t1 t2 ex pt pn g) H → va_D A0 (wT cI cZ cG cR tA pr0 pr1 pr2 pr3 pr4 pr5 pr6 t1 t2 ex pt pn g) → va_S A0 s0.heap H locs → W p0 l e0 R0 s0 m0 a0 b0 t0 c0 H locs 0 0 Q0 (F0 m0 3 ls []) := by
    intro n0
    induction n0 with
    | zero => intro i g ls H locs hi hq hm hl hP hD hS; exact absurd hm (Nat.not_lt_zero _)
    | succ n0 ih3 =>
      intro i g ls H locs hi hq hm3 hl hP hD hS
      refine lv_iload (pc := 3) gX gB dT_staysSmall_3 (lv_at hl 4 rfl) ?_
      refine lv_bipush (pc := 5) (v := iv 40) gX gB dT_staysSmall_5 (by decide) ?_
      refine jv_icmp_ge (pc := 7) (tgt := 114) gX gB dT_staysSmall_7 (by decide) (by omega) (by decide) (fun h1 => ?_) (fun h1 => ?_)
      · skip
        refine lv_iconst (pc := 114) (v := iv 1) gX gB dT_staysSmall_114 rfl ?_
        exact hret _ (1, g) dT_staysSmall_115 (Or.inr rfl) ⟨rfl, by first | (dsimp only; exact ⟨Or.inr rfl, ⟨fun _ j p q => (hq j p (by omega)).2, fun _ => rfl⟩⟩) | (exact ⟨Or.inr rfl, ⟨fun _ j p q => (hq j p (by omega)).2, fun _ => rfl⟩⟩)⟩ hP hD hS
      have hvc := hvx i (by omega) (by omega)
      have cut27 : ∀ (y1 : Int) (ls : Array Slot) (H : Heap) (locs : List Loc), (y1 = uI t1 c a i) → lv_has ls 7 [(0, .ref (tA 0)), (1, .int (iv c)), (2, .int (iv a)), (3, .int (iv b)), (4, .int (iv i))] → va_P (dC, dI) vwCl (wT cI cZ cG cR tA pr0 pr1 pr2 pr3 pr4 pr5 pr6 t1 t2 ex pt pn g) H → va_D A0 (wT cI cZ cG cR tA pr0 pr1 pr2 pr3 pr4 pr5 pr6 t1 t2 ex pt pn g) → va_S A0 s0.heap H locs → W p0 l e0 R0 s0 m0 a0 b0 t0 c0 H locs 0 0 Q0 (F0 m0 27 ls [.int (iv y1)]) := by
        intro y1 ls H locs hy1 hl hP hD hS
        refine lv_istore (pc := 27) (lv' := [(5, .int (iv y1)), (0, .ref (tA 0)), (1, .int (iv c)), (2, .int (iv a)), (3, .int (iv b)), (4, .int (iv i))]) gX gB dT_staysSmall_27 hl (by decide) rfl (fun ls hl => ?_)
        have cut46 : ∀ (y2 : Int) (ls : Array Slot) (H : Heap) (locs : List Loc), (y2 = uI t2 c b i) → lv_has ls 7 [(0, .ref (tA 0)), (1, .int (iv c)), (2, .int (iv a)), (3, .int (iv b)), (4, .int (iv i)), (5, .int (iv y1))] → va_P (dC, dI) vwCl (wT cI cZ cG cR tA pr0 pr1 pr2 pr3 pr4 pr5 pr6 t1 t2 ex pt pn g) H → va_D A0 (wT cI cZ cG cR tA pr0 pr1 pr2 pr3 pr4 pr5 pr6 t1 t2 ex pt pn g) → va_S A0 s0.heap H locs → W p0 l e0 R0 s0 m0 a0 b0 t0 c0 H locs 0 0 Q0 (F0 m0 46 ls [.int (iv y2)]) := by
          intro y2 ls H locs hy2 hl hP hD hS
          refine lv_istore (pc := 46) (lv' := [(6, .int (iv y2)), (0, .ref (tA 0)), (1, .int (iv c)), (2, .int (iv a)), (3, .int (iv b)), (4, .int (iv i)), (5, .int (iv y1))]) gX gB dT_staysSmall_46 hl (by decide) rfl (fun ls hl => ?_)
          have hv9 : -1 ≤ y1 ∧ y1 < i ∧ -1 ≤ y2 ∧ y2 < i ∧ (y1 < 0 → y2 < 0) := by rw [hy1, hy2]; exact hvc
          have hkr : ∀ d, 0 ≤ d → d < i → 1 ≤ KC (uI t1 c a) (uI t2 c b) d ∧ KC (uI t1 c a) (uI t2 c b) d ≤ 5 := fun d p q => KC_rng hvx 40 d p (by omega) (by omega)
          refine lv_aload_n (pc := 48) gX gB dT_staysSmall_48 rfl (lv_at hl 1 rfl) ?_
          refine va_get (pc := 49) (D := (dC, dI)) (ci := 1) (v := .ref (tA 14)) (C := RT) (T := TT) (N := 7) gX gB hw0 inT hown hK hP 0 rfl rfl 6 (by decide) (hw0 _ q70) (fun _ h9 => h9) rfl dT_staysSmall_49 ?_
          refine lv_iload (pc := 52) gX gB dT_staysSmall_52 (lv_at hl 5 rfl) ?_
          have cut71 : ∀ (x : Int) (ls : Array Slot) (H : Heap) (locs : List Loc), ((y1 < 0 ∧ x = 1) ∨ (0 ≤ y1 ∧ x = KC (uI t1 c a) (uI t2 c b) y1)) → lv_has ls 7 [(0, .ref (tA 0)), (1, .int (iv c)), (2, .int (iv a)), (3, .int (iv b)), (4, .int (iv i)), (5, .int (iv y1)), (6, .int (iv y2))] → va_P (dC, dI) vwCl (wT cI cZ cG cR tA pr0 pr1 pr2 pr3 pr4 pr5 pr6 t1 t2 ex pt pn g) H → va_D A0 (wT cI cZ cG cR tA pr0 pr1 pr2 pr3 pr4 pr5 pr6 t1 t2 ex pt pn g) → va_S A0 s0.heap H locs → W p0 l e0 R0 s0 m0 a0 b0 t0 c0 H locs 0 0 Q0 (F0 m0 71 ls [.int (iv x), .int (iv i), .ref (tA 14)]) := by
            intro x ls H locs hx1 hl hP hD hS
            refine jv_iast (pc := 71) (ws' := (wT cI cZ cG cR tA pr0 pr1 pr2 pr3 pr4 pr5 pr6 t1 t2 ex pt pn (uI g i x))) gX gB hK hP hD hS 14 0 rfl rfl (by decide) (by omega) dT_staysSmall_71 rfl (fun H locs hP hD hS => ?_)
            obtain ⟨g1, eg1⟩ : ∃ z, z = (uI g i x) := ⟨_, rfl⟩
            rw [← eg1] at hP hD
            have hg1 : g1 i = x := by rw [eg1]; exact uI_s
            have hgo : ∀ j, 0 ≤ j → j < i → g1 j = KC (uI t1 c a) (uI t2 c b) j := fun j p q => by rw [eg1, uI_n (by omega)]; exact (hq j p q).1
            have cut95 : ∀ (g2 : Int → Int) (ls : Array Slot) (H : Heap) (locs : List Loc), (∀ j, 0 ≤ j → j < i → g2 j = KC (uI t1 c a) (uI t2 c b) j) → ((uI t1 c a i < 0 ∧ g2 i = 1) ∨ (0 ≤ uI t1 c a i ∧ uI t2 c b i < 0 ∧ g2 i = KC (uI t1 c a) (uI t2 c b) (uI t1 c a i)) ∨ (0 ≤ uI t1 c a i ∧ 0 ≤ uI t2 c b i ∧ g2 i = KC (uI t1 c a) (uI t2 c b) (uI t1 c a i) + KC (uI t1 c a) (uI t2 c b) (uI t2 c b i))) → lv_has ls 7 [(0, .ref (tA 0)), (1, .int (iv c)), (2, .int (iv a)), (3, .int (iv b)), (4, .int (iv i)), (5, .int (iv y1)), (6, .int (iv y2))] → va_P (dC, dI) vwCl (wT cI cZ cG cR tA pr0 pr1 pr2 pr3 pr4 pr5 pr6 t1 t2 ex pt pn g2) H → va_D A0 (wT cI cZ cG cR tA pr0 pr1 pr2 pr3 pr4 pr5 pr6 t1 t2 ex pt pn g2) → va_S A0 s0.heap H locs → W p0 l e0 R0 s0 m0 a0 b0 t0 c0 H locs 0 0 Q0 (F0 m0 95 ls []) := by
              intro g2 ls H locs hg2 hgi hl hP hD hS
              have hk1 : 0 ≤ uI t1 c a i → 1 ≤ KC (uI t1 c a) (uI t2 c b) (uI t1 c a i) ∧ KC (uI t1 c a) (uI t2 c b) (uI t1 c a i) ≤ 5 := fun z => hkr _ z (by omega)
              have hk2 : 0 ≤ uI t2 c b i → 1 ≤ KC (uI t1 c a) (uI t2 c b) (uI t2 c b i) ∧ KC (uI t1 c a) (uI t2 c b) (uI t2 c b i) ≤ 5 := fun z => hkr _ z (by omega)
              have hgr : 1 ≤ g2 i ∧ g2 i ≤ 10 := by omega
              refine lv_aload_n (pc := 95) gX gB dT_staysSmall_95 rfl (lv_at hl 0 rfl) ?_
              refine va_get (pc := 96) (D := (dC, dI)) (ci := 1) (v := .ref (tA 14)) (C := RT) (T := TT) (N := 7) gX gB hw0 inT hown hK hP 0 rfl rfl 6 (by decide) (hw0 _ q70) (fun _ h9 => h9) rfl dT_staysSmall_96 ?_
              refine lv_iload (pc := 99) gX gB dT_staysSmall_99 (lv_at hl 4 rfl) ?_
              refine jv_iald (pc := 101) gX gB hK hP 14 0 rfl rfl (by decide) (by omega) dT_staysSmall_101 ?_
              refine lv_iconst (pc := 102) (v := iv 4) gX gB dT_staysSmall_102 rfl ?_
              refine jv_icmp_le (pc := 103) (tgt := 108) gX gB dT_staysSmall_103 (by decide) (by omega) (by decide) (fun h2 => ?_) (fun h2 => ?_)
              · skip
                refine jv_iinc (pc := 108) (k := 4) (x := i) (n := 1) (lv' := [(4, .int (iv (i + 1))), (0, .ref (tA 0)), (1, .int (iv c)), (2, .int (iv a)), (3, .int (iv b)), (5, .int (iv y1)), (6, .int (iv y2))]) gX gB dT_staysSmall_108 hl rfl (by decide) rfl (fun ls hl => ?_)
                refine lv_goto (pc := 111) (tgt := 3) gX gB dT_staysSmall_111 (by decide) ?_
                exact ih3 (i + 1) g2 _ _ _ (by omega) (by intro j p q; by_cases e : j = i; (rw [e]; have hk := KC_step (y := g2 i) hvx (by omega) (by omega) hgi (Or.inl ⟨by omega, rfl⟩); exact ⟨hk, by rw [← hk]; assumption⟩); exact ⟨hg2 j p (by omega), (hq j p (by omega)).2⟩) (by omega) (lv_sub hl [1, 2, 3, 4, 0] rfl) hP hD hS
              refine lv_iconst (pc := 106) (v := iv 0) gX gB dT_staysSmall_106 rfl ?_
              exact hret _ (0, g2) dT_staysSmall_107 (Or.inl rfl) ⟨rfl, by first | (dsimp only; refine ⟨Or.inl rfl, ⟨fun z => by omega, fun z => ?_⟩⟩; have h9 := z i (by omega) (by omega); rcases (show g2 i ≤ 5 ∨ 5 < g2 i by omega) with w | w; (have hk := KC_step (y := g2 i) hvx (by omega) (by omega) hgi (Or.inl ⟨w, rfl⟩); omega); (have hk := KC_step (y := 5) hvx (by omega) (by omega) hgi (Or.inr ⟨w, rfl⟩); omega)) | (refine ⟨Or.inl rfl, ⟨fun z => by omega, fun z => ?_⟩⟩; have h9 := z i (by omega) (by omega); rcases (show g2 i ≤ 5 ∨ 5 < g2 i by omega) with w | w; (have hk := KC_step (y := g2 i) hvx (by omega) (by omega) hgi (Or.inl ⟨w, rfl⟩); omega); (have hk := KC_step (y := 5) hvx (by omega) (by omega) hgi (Or.inr ⟨w, rfl⟩); omega))⟩ hP hD hS
            refine lv_iload (pc := 72) gX gB dT_staysSmall_72 (lv_at hl 6 rfl) ?_
            refine lv_iconst (pc := 74) (v := iv (-1)) gX gB dT_staysSmall_74 rfl ?_
            refine jv_icmp_eq (pc := 75) (tgt := 95) gX gB dT_staysSmall_75 (by decide) (by omega) (by decide) (fun h3 => ?_) (fun h3 => ?_)
            · skip
              exact cut95 g1 _ _ _ (by exact hgo) (by rw [← hy1, ← hy2, hg1]; rcases hx1 with z | z; (exact Or.inl z); (exact Or.inr (Or.inl ⟨z.1, by omega, z.2⟩))) hl hP hD hS
            refine lv_aload_n (pc := 78) gX gB dT_staysSmall_78 rfl (lv_at hl 0 rfl) ?_
            refine va_get (pc := 79) (D := (dC, dI)) (ci := 1) (v := .ref (tA 14)) (C := RT) (T := TT) (N := 7) gX gB hw0 inT hown hK hP 0 rfl rfl 6 (by decide) (hw0 _ q70) (fun _ h9 => h9) rfl dT_staysSmall_79 ?_
            refine lv_iload (pc := 82) gX gB dT_staysSmall_82 (lv_at hl 4 rfl) ?_
            refine lv_dup2_11 (pc := 84) gX gB dT_staysSmall_84 rfl rfl ?_
            refine jv_iald (pc := 85) gX gB hK hP 14 0 rfl rfl (by decide) (by omega) dT_staysSmall_85 ?_
            refine lv_aload_n (pc := 86) gX gB dT_staysSmall_86 rfl (lv_at hl 0 rfl) ?_
            refine va_get (pc := 87) (D := (dC, dI)) (ci := 1) (v := .ref (tA 14)) (C := RT) (T := TT) (N := 7) gX gB hw0 inT hown hK hP 0 rfl rfl 6 (by decide) (hw0 _ q70) (fun _ h9 => h9) rfl dT_staysSmall_87 ?_
            refine lv_iload (pc := 90) gX gB dT_staysSmall_90 (lv_at hl 6 rfl) ?_
            refine jv_iald (pc := 92) gX gB hK hP 14 0 rfl rfl (by decide) (by omega) dT_staysSmall_92 ?_
            refine jv_iadd (pc := 93) (x := g1 i) (y := g1 y2) gX gB dT_staysSmall_93 ?_
            refine jv_iast (pc := 94) (ws' := (wT cI cZ cG cR tA pr0 pr1 pr2 pr3 pr4 pr5 pr6 t1 t2 ex pt pn (uI g1 i ((g1 i) + (g1 y2))))) gX gB hK hP hD hS 14 0 rfl rfl (by decide) (by omega) dT_staysSmall_94 rfl (fun H locs hP hD hS => ?_)
            exact cut95 (uI g1 i ((g1 i) + (g1 y2))) _ _ _ (by intro j p q; rw [uI_n (by omega)]; exact hgo j p q) (by rw [uI_s, ← hy1, ← hy2, hg1, hgo y2 (by omega) (by omega)]; rcases hx1 with z | z; (exfalso; omega); (exact Or.inr (Or.inr ⟨z.1, by omega, by rw [z.2]⟩))) hl hP hD hS
          refine lv_iload (pc := 54) gX gB dT_staysSmall_54 (lv_at hl 6 rfl) ?_
          refine lv_iconst (pc := 56) (v := iv (-1)) gX gB dT_staysSmall_56 rfl ?_
          refine jv_icmp_ne (pc := 57) (tgt := 64) gX gB dT_staysSmall_57 (by decide) (by omega) (by decide) (fun h4 => ?_) (fun h4 => ?_)
          · skip
            refine lv_aload_n (pc := 64) gX gB dT_staysSmall_64 rfl (lv_at hl 1 rfl) ?_
            refine va_get (pc := 65) (D := (dC, dI)) (ci := 1) (v := .ref (tA 14)) (C := RT) (T := TT) (N := 7) gX gB hw0 inT hown hK hP 0 rfl rfl 6 (by decide) (hw0 _ q70) (fun _ h9 => h9) rfl dT_staysSmall_65 ?_
            refine lv_iload (pc := 68) gX gB dT_staysSmall_68 (lv_at hl 6 rfl) ?_
            refine jv_iald (pc := 70) gX gB hK hP 14 0 rfl rfl (by decide) (by omega) dT_staysSmall_70 ?_
            exact cut71 (g y1) _ _ _ (by exact Or.inr ⟨by omega, (hq y1 (by omega) (by omega)).1⟩) (lv_sub hl [1, 2, 3, 4, 5, 6, 0] rfl) hP hD hS
          refine lv_iconst (pc := 60) (v := iv 1) gX gB dT_staysSmall_60 rfl ?_
          refine lv_goto (pc := 61) (tgt := 71) gX gB dT_staysSmall_61 (by decide) ?_
          exact cut71 1 _ _ _ (by exact Or.inl ⟨by omega, rfl⟩) (lv_sub hl [1, 2, 3, 4, 5, 6, 0] rfl) hP hD hS
        refine lv_iload (pc := 29) gX gB dT_staysSmall_29 (lv_at hl 5 rfl) ?_
        refine lv_iload_n (pc := 31) gX gB dT_staysSmall_31 rfl (lv_at hl 2 rfl) ?_
        refine jv_icmp_ne (pc := 32) (tgt := 39) gX gB dT_staysSmall_32 (by decide) (by omega) (by omega) (fun h5 => ?_) (fun h5 => ?_)
        · skip
          refine lv_aload_n (pc := 39) gX gB dT_staysSmall_39 rfl (lv_at hl 1 rfl) ?_
          refine va_get (pc := 40) (D := (dC, dI)) (ci := 1) (v := .ref (tA 10)) (C := RT) (T := TT) (N := 7) gX gB hw0 inT hown hK hP 0 rfl rfl 2 (by decide) (hw0 _ q66) (fun _ h9 => h9) rfl dT_staysSmall_40 ?_
          refine lv_iload (pc := 43) gX gB dT_staysSmall_43 (lv_at hl 5 rfl) ?_
          refine jv_iald (pc := 45) gX gB hK hP 10 0 rfl rfl (by decide) (by omega) dT_staysSmall_45 ?_
          exact cut46 (t2 i) _ _ _ (by rw [uI_n (by omega)]) (lv_sub hl [1, 2, 3, 4, 5, 0] rfl) hP hD hS
        refine lv_iload_n (pc := 35) gX gB dT_staysSmall_35 rfl (lv_at hl 4 rfl) ?_
        refine lv_goto (pc := 36) (tgt := 46) gX gB dT_staysSmall_36 (by decide) ?_
        exact cut46 b _ _ _ (by rw [uI_e (by omega)]) (lv_sub hl [1, 2, 3, 4, 5, 0] rfl) hP hD hS
      refine lv_iload (pc := 10) gX gB dT_staysSmall_10 (lv_at hl 4 rfl) ?_
      refine lv_iload_n (pc := 12) gX gB dT_staysSmall_12 rfl (lv_at hl 1 rfl) ?_
      refine jv_icmp_ne (pc := 13) (tgt := 20) gX gB dT_staysSmall_13 (by decide) (by omega) (by omega) (fun h6 => ?_) (fun h6 => ?_)
      · skip
        refine lv_aload_n (pc := 20) gX gB dT_staysSmall_20 rfl (lv_at hl 0 rfl) ?_
        refine va_get (pc := 21) (D := (dC, dI)) (ci := 1) (v := .ref (tA 9)) (C := RT) (T := TT) (N := 7) gX gB hw0 inT hown hK hP 0 rfl rfl 1 (by decide) (hw0 _ q65) (fun _ h9 => h9) rfl dT_staysSmall_21 ?_
        refine lv_iload (pc := 24) gX gB dT_staysSmall_24 (lv_at hl 4 rfl) ?_
        refine jv_iald (pc := 26) gX gB hK hP 9 0 rfl rfl (by decide) (by omega) dT_staysSmall_26 ?_
        exact cut27 (t1 i) _ _ _ (by rw [uI_n (by omega)]) hl hP hD hS
      refine lv_iload_n (pc := 16) gX gB dT_staysSmall_16 rfl (lv_at hl 2 rfl) ?_
      refine lv_goto (pc := 17) (tgt := 27) gX gB dT_staysSmall_17 (by decide) ?_
      exact cut27 a _ _ _ (by rw [uI_e (by omega)]) hl hP hD hS
  exact cut3 (((40 - 0 : Int).toNat) + 1) 0 tc _ _ _ (by omega) (by intro j x y; omega) (Nat.lt_succ_self _) (lv_sub hl [1, 2, 3, 4, 0] rfl) hP hD hS
set_option maxRecDepth 100000 in
set_option maxHeartbeats 4000000 in
theorem c_T_partAll (l : Launch) (dC : Nat → ClassId) (dI : Nat → Nat → Nat) (cI : ClassId) (cZ : ClassId) (cG : ClassId) (cR : ClassId) (tA : Nat → Nat) (pr0 : Int → Int) (pr1 : Int → Int) (pr2 : Int → Int) (pr3 : Int → Int) (pr4 : Int → Int) (pr5 : Int → Int) (pr6 : Int → Int) (t1 : Int → Int) (t2 : Int → Int) (ex : Int → Int) (pt : Int → Int) (pn : Int → Int) (tc : Int → Int) (sz : Nat) (hv : vpt t1 t2) (hs : SHT t1 t2) (hf : fixP t1 t2) : Met l yT_partAll wsT_partAll ({ frames := 2, cells := 0, slots := 0, locals := 45 }) (va_Pc [.ref (tA 0)] (jPre (dC, dI) (jT cI cZ cG cR) (wT cI cZ cG cR tA pr0 pr1 pr2 pr3 pr4 pr5 pr6 t1 t2 ex pt pn tc) sz)) (va_Qv (fun u : (Int → Int) × (Int → Int) => PL t1 t2 u.1 u.2 75) (fun u => jEnd (dC, dI) (jT cI cZ cG cR) (va_A (wT cI cZ cG cR tA pr0 pr1 pr2 pr3 pr4 pr5 pr6 t1 t2 ex pt pn tc) sz) (wT cI cZ cG cR tA pr0 pr1 pr2 pr3 pr4 pr5 pr6 t1 t2 ex u.1 u.2 tc)) (va_A (wT cI cZ cG cR tA pr0 pr1 pr2 pr3 pr4 pr5 pr6 t1 t2 ex pt pn tc) sz)) 0 0 (va_A (wT cI cZ cG cR tA pr0 pr1 pr2 pr3 pr4 pr5 pr6 t1 t2 ex pt pn tc) sz) := by
  refine jv_mv (cc := cT_partAll) (maxL := 2) (by decide) rfl (Nat.le_of_ble_eq_true rfl) ?_
  intro p0 e0 s0 m0 a0 b0 t0 c0 R0 Q0 A0 ls gX gB hts hown hml hRf hRl hA hK hret hl hP hD hS
  have hown : s0.vm.findClass "TextPipeline$Table" = some m0.cls := hown
  have hw0 : ∀ w ∈ WS0, w.before a0 s0 = true := fun w h => hts w (List.mem_cons_of_mem _ h)
  have hl : lv_has ls 2 [(0, .ref (tA 0))] := hl
  have hRf : 2 ≤ R0.frames := hRf
  have hRl : 45 ≤ R0.locals := hRl
  refine lv_iconst (pc := 0) (v := iv 0) gX gB dT_partAll_0 rfl ?_
  refine lv_istore_n (pc := 1) (lv' := [(1, .int (iv 0)), (0, .ref (tA 0))]) gX gB dT_partAll_1 rfl hl (by decide) rfl (fun ls hl => ?_)
  have cut2 : ∀ (n0 : Nat) (c : Int) (p1 : Int → Int) (n1 : Int → Int) (ls : Array Slot) (H : Heap) (locs : List Loc), (0 ≤ c ∧ c ≤ 75) → (PL t1 t2 p1 n1 c) → ((75 - c : Int).toNat < n0) → lv_has ls 2 [(0, .ref (tA 0)), (1, .int (iv c))] → va_P (dC, dI) vwCl (wT cI cZ cG cR tA pr0 pr1 pr2 pr3 pr4 pr5 pr6 t1 t2 ex p1 n1 tc) H → va_D A0 (wT cI cZ cG cR tA pr0 pr1 pr2 pr3 pr4 pr5 pr6 t1 t2 ex p1 n1 tc) → va_S A0 s0.heap H locs → W p0 l e0 R0 s0 m0 a0 b0 t0 c0 H locs 0 0 Q0 (F0 m0 2 ls []) := by
    intro n0
    induction n0 with
    | zero => intro c p1 n1 ls H locs hc hI hm hl hP hD hS; exact absurd hm (Nat.not_lt_zero _)
    | succ n0 ih2 =>
      intro c p1 n1 ls H locs hc hI hm2 hl hP hD hS
      refine lv_iload_n (pc := 2) gX gB dT_partAll_2 rfl (lv_at hl 1 rfl) ?_
      refine lv_bipush (pc := 3) (v := iv 75) gX gB dT_partAll_3 (by decide) ?_
      refine jv_icmp_ge (pc := 5) (tgt := 72) gX gB dT_partAll_5 (by decide) (by omega) (by decide) (fun h1 => ?_) (fun h1 => ?_)
      · skip
        exact hret (p1, n1) dT_partAll_72 (by first | (dsimp only; rw [show c = 75 by omega] at hI; exact hI) | (rw [show c = 75 by omega] at hI; exact hI)) hP hD hS
      have hvc := fix_rng hv hf (c := c) (by omega) (by omega)
      have hpf := PT_fix hv hf (c := c) (by omega) (by omega)
      have hp4 := PT_le4 hv hs (c := c) (by omega) (by omega)
      have hlp : 0 ≤ t1 c → (PT t1 t2 (t1 c)).length + (if 0 ≤ t2 c then PT t1 t2 (t2 c) else []).length ≤ 4 := fun z => by rw [hpf.2 z, List.length_append] at hp4; exact hp4
      refine lv_aload_n (pc := 8) gX gB dT_partAll_8 rfl (lv_at hl 0 rfl) ?_
      refine va_get (pc := 9) (D := (dC, dI)) (ci := 1) (v := .ref (tA 13)) (C := RT) (T := TT) (N := 7) gX gB hw0 inT hown hK hP 0 rfl rfl 5 (by decide) (hw0 _ q69) (fun _ h9 => h9) rfl dT_partAll_9 ?_
      refine lv_iload_n (pc := 12) gX gB dT_partAll_12 rfl (lv_at hl 1 rfl) ?_
      refine lv_iconst (pc := 13) (v := iv 0) gX gB dT_partAll_13 rfl ?_
      refine jv_iast (pc := 14) (ws' := (wT cI cZ cG cR tA pr0 pr1 pr2 pr3 pr4 pr5 pr6 t1 t2 ex p1 (uI n1 c 0) tc)) gX gB hK hP hD hS 13 0 rfl rfl (by decide) (by omega) dT_partAll_14 rfl (fun H locs hP hD hS => ?_)
      obtain ⟨n2, en2⟩ : ∃ z, z = (uI n1 c 0) := ⟨_, rfl⟩
      rw [← en2] at hP hD
      have hn2 : n2 c = 0 := by rw [en2]; exact uI_s
      have hI1 : PL t1 t2 p1 n2 c := PL_keep hv hs hc.2 hI (fun q _ => rfl) (fun d z => by rw [en2]; exact uI_n (by omega))
      have cut66 : ∀ (p3 : Int → Int) (n4 : Int → Int) (ls : Array Slot) (H : Heap) (locs : List Loc), (PL t1 t2 p3 n4 (c + 1)) → lv_has ls 2 [(0, .ref (tA 0)), (1, .int (iv c))] → va_P (dC, dI) vwCl (wT cI cZ cG cR tA pr0 pr1 pr2 pr3 pr4 pr5 pr6 t1 t2 ex p3 n4 tc) H → va_D A0 (wT cI cZ cG cR tA pr0 pr1 pr2 pr3 pr4 pr5 pr6 t1 t2 ex p3 n4 tc) → va_S A0 s0.heap H locs → W p0 l e0 R0 s0 m0 a0 b0 t0 c0 H locs 0 0 Q0 (F0 m0 66 ls []) := by
        intro p3 n4 ls H locs hI3 hl hP hD hS
        refine jv_iinc (pc := 66) (k := 1) (x := c) (n := 1) (lv' := [(1, .int (iv (c + 1))), (0, .ref (tA 0))]) gX gB dT_partAll_66 hl rfl (by decide) rfl (fun ls hl => ?_)
        refine lv_goto (pc := 69) (tgt := 2) gX gB dT_partAll_69 (by decide) ?_
        exact ih2 (c + 1) p3 n4 _ _ _ (by omega) (by exact hI3) (by omega) (lv_sub hl [1, 0] rfl) hP hD hS
      have cut45 : ∀ (p2 : Int → Int) (n3 : Int → Int) (ls : Array Slot) (H : Heap) (locs : List Loc), (PL t1 t2 p2 n3 c) → (n3 c = (if t1 c < 0 then [c] else PT t1 t2 (t1 c)).length) → (sg p2 (4 * c) (n3 c).toNat = (if t1 c < 0 then [c] else PT t1 t2 (t1 c))) → lv_has ls 2 [(0, .ref (tA 0)), (1, .int (iv c))] → va_P (dC, dI) vwCl (wT cI cZ cG cR tA pr0 pr1 pr2 pr3 pr4 pr5 pr6 t1 t2 ex p2 n3 tc) H → va_D A0 (wT cI cZ cG cR tA pr0 pr1 pr2 pr3 pr4 pr5 pr6 t1 t2 ex p2 n3 tc) → va_S A0 s0.heap H locs → W p0 l e0 R0 s0 m0 a0 b0 t0 c0 H locs 0 0 Q0 (F0 m0 45 ls []) := by
        intro p2 n3 ls H locs hI2 hl2 hs2 hl hP hD hS
        refine lv_aload_n (pc := 45) gX gB dT_partAll_45 rfl (lv_at hl 0 rfl) ?_
        refine va_get (pc := 46) (D := (dC, dI)) (ci := 1) (v := .ref (tA 10)) (C := RT) (T := TT) (N := 7) gX gB hw0 inT hown hK hP 0 rfl rfl 2 (by decide) (hw0 _ q66) (fun _ h9 => h9) rfl dT_partAll_46 ?_
        refine lv_iload_n (pc := 49) gX gB dT_partAll_49 rfl (lv_at hl 1 rfl) ?_
        refine jv_iald (pc := 50) gX gB hK hP 10 0 rfl rfl (by decide) (by omega) dT_partAll_50 ?_
        refine lv_iconst (pc := 51) (v := iv (-1)) gX gB dT_partAll_51 rfl ?_
        refine jv_icmp_eq (pc := 52) (tgt := 66) gX gB dT_partAll_52 (by decide) (by omega) (by decide) (fun h2 => ?_) (fun h2 => ?_)
        · skip
          exact cut66 p2 n3 _ _ _ (by refine PL_s hI2 ?_ ?_; (rw [hl2]; split; (rw [hpf.1 (by assumption)]); (rw [hpf.2 (by omega), if_neg (by omega), List.append_nil])); (rw [hs2]; split; (rw [hpf.1 (by assumption)]); (rw [hpf.2 (by omega), if_neg (by omega), List.append_nil]))) hl hP hD hS
        obtain ⟨hb1, hb2⟩ := hI2 (t2 c) (by omega) (by omega)
        have hlp2 := hlp (by omega)
        rw [if_pos (show 0 ≤ t2 c by omega)] at hlp2
        rw [if_neg (show ¬ t1 c < 0 by omega)] at hl2 hs2
        refine lv_aload_n (pc := 55) gX gB dT_partAll_55 rfl (lv_at hl 0 rfl) ?_
        refine lv_iload_n (pc := 56) gX gB dT_partAll_56 rfl (lv_at hl 1 rfl) ?_
        refine lv_aload_n (pc := 57) gX gB dT_partAll_57 rfl (lv_at hl 0 rfl) ?_
        refine va_get (pc := 58) (D := (dC, dI)) (ci := 1) (v := .ref (tA 10)) (C := RT) (T := TT) (N := 7) gX gB hw0 inT hown hK hP 0 rfl rfl 2 (by decide) (hw0 _ q66) (fun _ h9 => h9) rfl dT_partAll_58 ?_
        refine lv_iload_n (pc := 61) gX gB dT_partAll_61 rfl (lv_at hl 1 rfl) ?_
        refine jv_iald (pc := 62) gX gB hK hP 10 0 rfl rfl (by decide) (by omega) dT_partAll_62 ?_
        refine jv_rv (pc := 63) (wr := []) (wn := fun u : (Int → Int) × (Int → Int) => (wT cI cZ cG cR tA pr0 pr1 pr2 pr3 pr4 pr5 pr6 t1 t2 ex u.1 u.2 tc)) (va_runV (rest := []) ⟨gX, gB, hml, hown, hw0⟩ (c_T_addPartsOf l dC dI cI cZ cG cR tA pr0 pr1 pr2 pr3 pr4 pr5 pr6 t1 t2 ex p2 n3 tc _ c (t2 c) (by omega) (by omega) (by omega)) (jcV hw0 kT_addPartsOf q56 rfl rfl ⟨Nat.le_trans (Nat.le_of_ble_eq_true rfl) hRf, Nat.le_trans (Nat.le_of_ble_eq_true rfl) hRl⟩) (jv_preV (ci := 1) (q0 := 0) hK hP hD [0, 1, 2, 3, 4, 5, 6, 7, 8, 9, 10, 11, 12, 13, 14] rfl (by decide) rfl rfl) rfl rfl hl.1 rfl (lv_room (Nat.le_of_ble_eq_true rfl)) dT_partAll_63 ⟨Nat.zero_le _, Nat.zero_le _⟩) hP hD hS hA [0, 1, 2, 3, 4, 5, 6, 7, 8, 9, 10, 11, 12, 13, 14] [] [0, 1, 2, 3, 4, 5, 6, 7, 8, 9, 10, 11, 12, 13, 14] rfl rfl (by decide) (by decide) (by decide) (fun _ => rfl) (fun u H locs hw63 hP hD hS => ?_)
        obtain ⟨pt_63, pn_63⟩ := u
        dsimp only at hw63 hP hD
        exact cut66 pt_63 pn_63 _ _ _ (by have hpc : PT t1 t2 c = PT t1 t2 (t1 c) ++ PT t1 t2 (t2 c) := (by rw [hpf.2 (by omega), if_pos (by omega)]); refine PL_s (PL_keep hv hs (by omega) hI2 (fun q z => hw63.2.2 q (Or.inl (by omega))) (fun d z => by rw [hw63.1, uI_n (by omega)])) ?_ ?_; (rw [hw63.1, uI_s, hpc, List.length_append]; omega); (rw [hw63.1, uI_s, hpc, sg_app (by omega) (by omega), ← hs2, ← hb2]; congr 1; (exact sg_congr _ _ (fun j x y => hw63.2.2 j (Or.inl (by omega)))); (exact sg_shift _ _ _ (fun j x y => hw63.2.1 j x (by omega))))) hl hP hD hS
      refine lv_aload_n (pc := 15) gX gB dT_partAll_15 rfl (lv_at hl 0 rfl) ?_
      refine va_get (pc := 16) (D := (dC, dI)) (ci := 1) (v := .ref (tA 9)) (C := RT) (T := TT) (N := 7) gX gB hw0 inT hown hK hP 0 rfl rfl 1 (by decide) (hw0 _ q65) (fun _ h9 => h9) rfl dT_partAll_16 ?_
      refine lv_iload_n (pc := 19) gX gB dT_partAll_19 rfl (lv_at hl 1 rfl) ?_
      refine jv_iald (pc := 20) gX gB hK hP 9 0 rfl rfl (by decide) (by omega) dT_partAll_20 ?_
      refine lv_iconst (pc := 21) (v := iv (-1)) gX gB dT_partAll_21 rfl ?_
      refine jv_icmp_ne (pc := 22) (tgt := 34) gX gB dT_partAll_22 (by decide) (by omega) (by decide) (fun h3 => ?_) (fun h3 => ?_)
      · skip
        obtain ⟨ha1, ha2⟩ := hI1 (t1 c) (by omega) (by omega)
        refine lv_aload_n (pc := 34) gX gB dT_partAll_34 rfl (lv_at hl 0 rfl) ?_
        refine lv_iload_n (pc := 35) gX gB dT_partAll_35 rfl (lv_at hl 1 rfl) ?_
        refine lv_aload_n (pc := 36) gX gB dT_partAll_36 rfl (lv_at hl 0 rfl) ?_
        refine va_get (pc := 37) (D := (dC, dI)) (ci := 1) (v := .ref (tA 9)) (C := RT) (T := TT) (N := 7) gX gB hw0 inT hown hK hP 0 rfl rfl 1 (by decide) (hw0 _ q65) (fun _ h9 => h9) rfl dT_partAll_37 ?_
        refine lv_iload_n (pc := 40) gX gB dT_partAll_40 rfl (lv_at hl 1 rfl) ?_
        refine jv_iald (pc := 41) gX gB hK hP 9 0 rfl rfl (by decide) (by omega) dT_partAll_41 ?_
        refine jv_rv (pc := 42) (wr := []) (wn := fun u : (Int → Int) × (Int → Int) => (wT cI cZ cG cR tA pr0 pr1 pr2 pr3 pr4 pr5 pr6 t1 t2 ex u.1 u.2 tc)) (va_runV (rest := []) ⟨gX, gB, hml, hown, hw0⟩ (c_T_addPartsOf l dC dI cI cZ cG cR tA pr0 pr1 pr2 pr3 pr4 pr5 pr6 t1 t2 ex p1 n2 tc _ c (t1 c) (by omega) (by omega) (by have := hlp (by omega); omega)) (jcV hw0 kT_addPartsOf q56 rfl rfl ⟨Nat.le_trans (Nat.le_of_ble_eq_true rfl) hRf, Nat.le_trans (Nat.le_of_ble_eq_true rfl) hRl⟩) (jv_preV (ci := 1) (q0 := 0) hK hP hD [0, 1, 2, 3, 4, 5, 6, 7, 8, 9, 10, 11, 12, 13, 14] rfl (by decide) rfl rfl) rfl rfl hl.1 rfl (lv_room (Nat.le_of_ble_eq_true rfl)) dT_partAll_42 ⟨Nat.zero_le _, Nat.zero_le _⟩) hP hD hS hA [0, 1, 2, 3, 4, 5, 6, 7, 8, 9, 10, 11, 12, 13, 14] [] [0, 1, 2, 3, 4, 5, 6, 7, 8, 9, 10, 11, 12, 13, 14] rfl rfl (by decide) (by decide) (by decide) (fun _ => rfl) (fun u H locs hw42 hP hD hS => ?_)
        obtain ⟨pt_42, pn_42⟩ := u
        dsimp only at hw42 hP hD
        exact cut45 pt_42 pn_42 _ _ _ (by exact PL_keep hv hs (by omega) hI1 (fun q z => hw42.2.2 q (Or.inl (by omega))) (fun d z => by rw [hw42.1, uI_n (by omega)])) (by rw [hw42.1, uI_s, hn2, if_neg (by omega)]; omega) (by rw [hw42.1, uI_s, hn2, if_neg (by omega), show (0 : Int) + n2 (t1 c) = n2 (t1 c) by omega, ← ha2]; exact sg_shift _ _ _ (fun j x y => by have z := hw42.2.1 j x (by omega); rw [hn2, show 4 * c + 0 + j = 4 * c + j by omega] at z; exact z)) hl hP hD hS
      refine lv_aload_n (pc := 25) gX gB dT_partAll_25 rfl (lv_at hl 0 rfl) ?_
      refine lv_iload_n (pc := 26) gX gB dT_partAll_26 rfl (lv_at hl 1 rfl) ?_
      refine lv_iload_n (pc := 27) gX gB dT_partAll_27 rfl (lv_at hl 1 rfl) ?_
      refine jv_rv (pc := 28) (wr := []) (wn := fun u : (Int → Int) × (Int → Int) => (wT cI cZ cG cR tA pr0 pr1 pr2 pr3 pr4 pr5 pr6 t1 t2 ex u.1 u.2 tc)) (va_runV (rest := []) ⟨gX, gB, hml, hown, hw0⟩ (c_T_addPart l dC dI cI cZ cG cR tA pr0 pr1 pr2 pr3 pr4 pr5 pr6 t1 t2 ex p1 n2 tc _ c c (by omega) (by omega)) (jcV hw0 kT_addPart q52 rfl rfl ⟨Nat.le_trans (Nat.le_of_ble_eq_true rfl) hRf, Nat.le_trans (Nat.le_of_ble_eq_true rfl) hRl⟩) (jv_preV (ci := 1) (q0 := 0) hK hP hD [0, 1, 2, 3, 4, 5, 6, 7, 8, 9, 10, 11, 12, 13, 14] rfl (by decide) rfl rfl) rfl rfl hl.1 rfl (lv_room (Nat.le_of_ble_eq_true rfl)) dT_partAll_28 ⟨Nat.zero_le _, Nat.zero_le _⟩) hP hD hS hA [0, 1, 2, 3, 4, 5, 6, 7, 8, 9, 10, 11, 12, 13, 14] [] [0, 1, 2, 3, 4, 5, 6, 7, 8, 9, 10, 11, 12, 13, 14] rfl rfl (by decide) (by decide) (by decide) (fun _ => rfl) (fun u H locs hw28 hP hD hS => ?_)
      obtain ⟨pt_28, pn_28⟩ := u
      dsimp only at hw28 hP hD
      refine lv_goto (pc := 31) (tgt := 45) gX gB dT_partAll_31 (by decide) ?_
      exact cut45 pt_28 pn_28 _ _ _ (by exact PL_keep hv hs (by omega) hI1 (fun q z => by rw [hw28.1, uI_n (by omega)]) (fun d z => by rw [hw28.2, uI_n (by omega)])) (by rw [hw28.2, uI_s, hn2, if_pos (by omega)]; rfl) (by rw [hw28.2, uI_s, hn2, if_pos (by omega), hw28.1, hn2]; show [uI p1 (c * 4 + 0) c (4 * c)] = [c]; rw [uI_e (by omega)]) hl hP hD hS
  exact cut2 (((75 - 0 : Int).toNat) + 1) 0 pt pn _ _ _ (by omega) (by intro d x y; omega) (Nat.lt_succ_self _) (lv_sub hl [1, 0] rfl) hP hD hS
set_option maxRecDepth 100000 in
set_option maxHeartbeats 1000000 in
theorem c_T_changeParting (l : Launch) (dC : Nat → ClassId) (dI : Nat → Nat → Nat) (cI : ClassId) (cZ : ClassId) (cG : ClassId) (cR : ClassId) (tA : Nat → Nat) (pr0 : Int → Int) (pr1 : Int → Int) (pr2 : Int → Int) (pr3 : Int → Int) (pr4 : Int → Int) (pr5 : Int → Int) (pr6 : Int → Int) (t1 : Int → Int) (t2 : Int → Int) (ex : Int → Int) (pt : Int → Int) (pn : Int → Int) (tc : Int → Int) (sz : Nat) (c : Int) (a : Int) (b : Int) (e9 : Int) (hv : vpt t1 t2) (hok : partOK c a b) (hs : SHT (uI t1 c a) (uI t2 c b)) (hf : fixP t1 t2) (he : e9 = 0 ∨ e9 = 1) : Met l yT_changeParting wsT_changeParting ({ frames := 3, cells := 0, slots := 0, locals := 66 }) (va_Pc [.ref (tA 0), .int (iv c), .int (iv a), .int (iv b), .int (iv e9)] (jPre (dC, dI) (jT cI cZ cG cR) (wT cI cZ cG cR tA pr0 pr1 pr2 pr3 pr4 pr5 pr6 t1 t2 ex pt pn tc) sz)) (va_Qv (fun u : (Int → Int) × (Int → Int) × (Int → Int) × (Int → Int) × (Int → Int) => u.1 = uI t1 c a ∧ u.2.1 = uI t2 c b ∧ u.2.2.1 = uI ex c e9 ∧ PL (uI t1 c a) (uI t2 c b) u.2.2.2.1 u.2.2.2.2 75) (fun u => jEnd (dC, dI) (jT cI cZ cG cR) (va_A (wT cI cZ cG cR tA pr0 pr1 pr2 pr3 pr4 pr5 pr6 t1 t2 ex pt pn tc) sz) (wT cI cZ cG cR tA pr0 pr1 pr2 pr3 pr4 pr5 pr6 u.1 u.2.1 u.2.2.1 u.2.2.2.1 u.2.2.2.2 tc)) (va_A (wT cI cZ cG cR tA pr0 pr1 pr2 pr3 pr4 pr5 pr6 t1 t2 ex pt pn tc) sz)) 0 0 (va_A (wT cI cZ cG cR tA pr0 pr1 pr2 pr3 pr4 pr5 pr6 t1 t2 ex pt pn tc) sz) := by
  refine jv_mv (cc := cT_changeParting) (maxL := 5) (by decide) rfl (Nat.le_of_ble_eq_true rfl) ?_
  intro p0 e0 s0 m0 a0 b0 t0 c0 R0 Q0 A0 ls gX gB hts hown hml hRf hRl hA hK hret hl hP hD hS
  have hown : s0.vm.findClass "TextPipeline$Table" = some m0.cls := hown
  have hw0 : ∀ w ∈ WS0, w.before a0 s0 = true := fun w h => hts w (List.mem_cons_of_mem _ h)
  have hl : lv_has ls 5 [(0, .ref (tA 0)), (1, .int (iv c)), (2, .int (iv a)), (3, .int (iv b)), (4, .int (iv e9))] := hl
  have hRf : 3 ≤ R0.frames := hRf
  have hRl : 66 ≤ R0.locals := hRl
  have hok2 := hok
  unfold partOK at hok2
  refine lv_aload_n (pc := 0) gX gB dT_changeParting_0 rfl (lv_at hl 0 rfl) ?_
  refine va_get (pc := 1) (D := (dC, dI)) (ci := 1) (v := .ref (tA 9)) (C := RT) (T := TT) (N := 7) gX gB hw0 inT hown hK hP 0 rfl rfl 1 (by decide) (hw0 _ q65) (fun _ h9 => h9) rfl dT_changeParting_1 ?_
  refine lv_iload_n (pc := 4) gX gB dT_changeParting_4 rfl (lv_at hl 1 rfl) ?_
  refine lv_iload_n (pc := 5) gX gB dT_changeParting_5 rfl (lv_at hl 2 rfl) ?_
  refine jv_iast (pc := 6) (ws' := (wT cI cZ cG cR tA pr0 pr1 pr2 pr3 pr4 pr5 pr6 (uI t1 c a) t2 ex pt pn tc)) gX gB hK hP hD hS 9 0 rfl rfl (by decide) (by omega) dT_changeParting_6 rfl (fun H locs hP hD hS => ?_)
  refine lv_aload_n (pc := 7) gX gB dT_changeParting_7 rfl (lv_at hl 0 rfl) ?_
  refine va_get (pc := 8) (D := (dC, dI)) (ci := 1) (v := .ref (tA 10)) (C := RT) (T := TT) (N := 7) gX gB hw0 inT hown hK hP 0 rfl rfl 2 (by decide) (hw0 _ q66) (fun _ h9 => h9) rfl dT_changeParting_8 ?_
  refine lv_iload_n (pc := 11) gX gB dT_changeParting_11 rfl (lv_at hl 1 rfl) ?_
  refine lv_iload_n (pc := 12) gX gB dT_changeParting_12 rfl (lv_at hl 3 rfl) ?_
  refine jv_iast (pc := 13) (ws' := (wT cI cZ cG cR tA pr0 pr1 pr2 pr3 pr4 pr5 pr6 (uI t1 c a) (uI t2 c b) ex pt pn tc)) gX gB hK hP hD hS 10 0 rfl rfl (by decide) (by omega) dT_changeParting_13 rfl (fun H locs hP hD hS => ?_)
  refine lv_aload_n (pc := 14) gX gB dT_changeParting_14 rfl (lv_at hl 0 rfl) ?_
  refine va_get (pc := 15) (D := (dC, dI)) (ci := 1) (v := .ref (tA 11)) (C := RT) (T := TT) (N := 7) gX gB hw0 inT hown hK hP 0 rfl rfl 3 (by decide) (hw0 _ q67) (fun _ h9 => h9) rfl dT_changeParting_15 ?_
  refine lv_iload_n (pc := 18) gX gB dT_changeParting_18 rfl (lv_at hl 1 rfl) ?_
  refine lv_iload (pc := 19) gX gB dT_changeParting_19 (lv_at hl 4 rfl) ?_
  refine jv_zast (pc := 21) (ws' := (wT cI cZ cG cR tA pr0 pr1 pr2 pr3 pr4 pr5 pr6 (uI t1 c a) (uI t2 c b) (uI ex c e9) pt pn tc)) gX gB hK hP hD hS 11 1 rfl rfl (by decide) (by omega) (by exact he) dT_changeParting_21 rfl (fun H locs hP hD hS => ?_)
  refine lv_aload_n (pc := 22) gX gB dT_changeParting_22 rfl (lv_at hl 0 rfl) ?_
  refine jv_rv (pc := 23) (wr := []) (wn := fun u : (Int → Int) × (Int → Int) => (wT cI cZ cG cR tA pr0 pr1 pr2 pr3 pr4 pr5 pr6 (uI t1 c a) (uI t2 c b) (uI ex c e9) u.1 u.2 tc)) (va_runV (rest := []) ⟨gX, gB, hml, hown, hw0⟩ (c_T_partAll l dC dI cI cZ cG cR tA pr0 pr1 pr2 pr3 pr4 pr5 pr6 (uI t1 c a) (uI t2 c b) (uI ex c e9) pt pn tc _  (by exact vpt_up hv hok) (by exact hs) (by exact fix_up hf (by omega))) (jcV hw0 kT_partAll q48 rfl rfl ⟨Nat.le_trans (Nat.le_of_ble_eq_true rfl) hRf, Nat.le_trans (Nat.le_of_ble_eq_true rfl) hRl⟩) (jv_preV (ci := 1) (q0 := 0) hK hP hD [0, 1, 2, 3, 4, 5, 6, 7, 8, 9, 10, 11, 12, 13, 14] rfl (by decide) rfl rfl) rfl rfl hl.1 rfl (lv_room (Nat.le_of_ble_eq_true rfl)) dT_changeParting_23 ⟨Nat.zero_le _, Nat.zero_le _⟩) hP hD hS hA [0, 1, 2, 3, 4, 5, 6, 7, 8, 9, 10, 11, 12, 13, 14] [] [0, 1, 2, 3, 4, 5, 6, 7, 8, 9, 10, 11, 12, 13, 14] rfl rfl (by decide) (by decide) (by decide) (fun _ => rfl) (fun u H locs hw23 hP hD hS => ?_)
  obtain ⟨pt_23, pn_23⟩ := u
  dsimp only at hw23 hP hD
  exact hret ((uI t1 c a), (uI t2 c b), (uI ex c e9), pt_23, pn_23) dT_changeParting_26 (by first | (dsimp only; exact ⟨rfl, rfl, rfl, hw23⟩) | (exact ⟨rfl, rfl, rfl, hw23⟩)) hP hD hS
